-- 96e.read.lean.txt
section WTQ0
/-! what a page reads: the reference -/
theorem wt_ct_lt {f : Nat → Int} {l : Int} {k k' : Nat} (h : k < k') (hf : f k = l) : wt_ct f l k + 1 ≤ wt_ct f l k' := by
  have e : wt_ct f l (k + 1) = wt_ct f l k + 1 := by rw [wt_ct_s, if_pos hf]
  have m := wt_sum_pre (f := fun j => if f j = l then 1 else 0) (a := k + 1) k' (by omega) (fun j _ => by
    show (0 : Int) ≤ if f j = l then 1 else 0
    split <;> omega)
  have m' : wt_ct f l (k + 1) ≤ wt_ct f l k' := m
  omega
theorem wt_ct_at {f : Nat → Int} {l r : Int} : ∀ (K : Nat), 0 ≤ r → r < wt_ct f l K → ∃ k, k < K ∧ f k = l ∧ wt_ct f l k = r := by
  intro K
  induction K with
  | zero =>
    intro h0 h
    have e : wt_ct f l 0 = 0 := rfl
    omega
  | succ K ih =>
    intro h0 h
    by_cases c : r < wt_ct f l K
    · obtain ⟨k, k1, k2, k3⟩ := ih h0 c
      exact ⟨k, by omega, k2, k3⟩
    · rw [wt_ct_s] at h
      by_cases d : f K = l
      · rw [if_pos d] at h
        exact ⟨K, by omega, d, by omega⟩
      · rw [if_neg d] at h
        omega
theorem wh_pieceOn (n : Nat) {x1 x2 x3 : Int32} {g K : Nat} {z : wt_St} (hx : x1.toInt = (g : Int)) (h3 : 0 ≤ x3.toInt) (hK : (wt_ga z 276 g).toInt = (K : Int)) (hK8 : K ≤ 108) (hP : ∀ k, k < K → 0 ≤ (wt_ga z (278 + g) k).toInt) : wt_H (wp_md_pieceOn n x1 x2 x3 z) (fun q => q.2 = z ∧ ((∃ k, k < K ∧ (wt_ga z (278 + g) k).toInt / 13 = x2.toInt ∧ wt_ct (fun k' => (wt_ga z (278 + g) k').toInt / 13) x2.toInt k = x3.toInt ∧ q.1 = wt_ga z (278 + g) k) ∨ wt_ct (fun k' => (wt_ga z (278 + g) k').toInt / 13) x2.toInt K ≤ x3.toInt)) := by
  have k0 : (0 : Int32).toInt = 0 := by decide
  have k13 : (13 : Int32).toInt = 13 := by decide
  have eg := wt_tnN hx
  have b3 := wt_bd x3
  unfold wp_md_pieceOn
  refine wt_H_it (fun t : Int32 × Int32 × wt_St => t.2.2 = z ∧ (0 ≤ t.2.1.toInt ∧ t.2.1.toInt ≤ (K : Int)) ∧ t.1.toInt = wt_ct (fun k' => (wt_ga z (278 + g) k').toInt / 13) x2.toInt (Int32.toNatClampNeg t.2.1) ∧ t.1.toInt ≤ x3.toInt) (fun Kk t I hK' => ?_) n _ ⟨rfl, ⟨by show 0 ≤ ((0 : Int32)).toInt; omega, by show ((0 : Int32)).toInt ≤ _; omega⟩, by show ((0 : Int32)).toInt = wt_ct _ _ (Int32.toNatClampNeg (0 : Int32)); rw [wt_tn0]; exact k0, by show ((0 : Int32)).toInt ≤ _; omega⟩
  obtain ⟨i0, ⟨i1, i2⟩, i3, i4⟩ := I
  have et := wt_tnI i1
  unfold wp_md_pieceOn_B6
  rw [i0, eg]
  refine wt_H_gd (fun _ => ?_)
  refine wt_H_if (fun c => ?_) (fun c => ?_)
  · have c' := wt_cle c
    refine wt_H_some ⟨rfl, Or.inr ?_⟩
    rw [show K = Int32.toNatClampNeg t.2.1 by omega, ← i3]
    exact i4
  · have c' := wt_ncle c
    have ei := wt_i1 (c := t.2.1) (by omega)
    have en : Int32.toNatClampNeg (t.2.1 + (1 : Int32)) = Int32.toNatClampNeg t.2.1 + 1 := by have := wt_tnI (x := t.2.1 + (1 : Int32)) (by omega); omega
    have hp := hP (Int32.toNatClampNeg t.2.1) (by omega)
    have dv : ((wt_ga z (278 + g) (Int32.toNatClampNeg t.2.1)) / (13 : Int32)).toInt = (wt_ga z (278 + g) (Int32.toNatClampNeg t.2.1)).toInt / 13 := (wt_divI (x := wt_ga z (278 + g) (Int32.toNatClampNeg t.2.1)) (y := (13 : Int32)) hp (by omega)).trans (by rw [k13])
    refine wt_H_gd (fun _ => wt_H_gd (fun _ => ?_))
    unfold wp_md_pieceOn_B55
    refine wt_H_if (fun d => ?_) (fun d => ?_)
    · have d' := wt_ceq d
      rw [dv] at d'
      refine wt_H_if (fun e => ?_) (fun e => ?_)
      · have e' := wt_ceq e
        exact wt_H_gd (fun _ => wt_H_gd (fun _ => wt_H_some ⟨rfl, Or.inl ⟨Int32.toNatClampNeg t.2.1, by omega, d', i3.symm.trans e', rfl⟩⟩))
      · have e' := wt_nceq e
        have ea := wt_i1 (c := t.1) (by omega)
        refine hK' _ ⟨rfl, ⟨by show 0 ≤ (t.2.1 + (1 : Int32)).toInt; omega, by show (t.2.1 + (1 : Int32)).toInt ≤ _; omega⟩, ?_, ?_⟩
        · show (t.1 + (1 : Int32)).toInt = wt_ct _ _ (Int32.toNatClampNeg (t.2.1 + (1 : Int32)))
          rw [en, wt_ct_s, if_pos d', ea, i3]
        · show (t.1 + (1 : Int32)).toInt ≤ x3.toInt
          omega
    · have d' := wt_nceq d
      rw [dv] at d'
      refine hK' _ ⟨rfl, ⟨by show 0 ≤ (t.2.1 + (1 : Int32)).toInt; omega, by show (t.2.1 + (1 : Int32)).toInt ≤ _; omega⟩, ?_, i4⟩
      show t.1.toInt = wt_ct _ _ (Int32.toNatClampNeg (t.2.1 + (1 : Int32)))
      rw [en, wt_ct_s, if_neg d', i3]
      omega
/-- the i-th word of a text; how much of a letter the words before it need; what a letter reads -/
def wu_wd (z : wt_St) (t i : Nat) : Nat := Int32.toNatClampNeg (wt_ga z (255 + t) i)
def wu_su1 (z : wt_St) (t j : Nat) (l : Int) : Int := wt_sum (fun k => wt_nw z (Int32.toNatClampNeg (wt_ga z (255 + t) k)) l) j
def wu_cw (z : wt_St) (w k : Nat) (l : Int) : Int := wt_ct (fun k' => (wt_ga z (193 + w) k').toInt) l k
def wu_rh (z : wt_St) (t g i k : Nat) (v : Int32) : Prop := ∃ kk : Nat, (kk : Int) < (wt_ga z 276 g).toInt ∧ (wt_ga z (278 + g) kk).toInt / 13 = (wt_ga z (193 + wu_wd z t i) k).toInt ∧ wt_ct (fun k' => (wt_ga z (278 + g) k').toInt / 13) (wt_ga z (193 + wu_wd z t i) k).toInt kk = wu_su1 z t i (wt_ga z (193 + wu_wd z t i) k).toInt + wu_cw z (wu_wd z t i) k (wt_ga z (193 + wu_wd z t i) k).toInt ∧ v = if wt_ga z 121 (Int32.toNatClampNeg (wt_ga z (278 + g) kk)) < wt_gf z 108 25 ∧ ¬ wt_ga z 117 (Int32.toNatClampNeg (wt_ga z (193 + wu_wd z t i) k)) = (-1 : Int32) then wt_ga z 117 (Int32.toNatClampNeg (wt_ga z (193 + wu_wd z t i) k)) else wt_ga z (193 + wu_wd z t i) k
theorem wu_rh_u {z : wt_St} {t g i k : Nat} {v v' : Int32} (h : wu_rh z t g i k v) (h' : wu_rh z t g i k v') : v = v' := by
  obtain ⟨a, a1, a2, a3, a4⟩ := h
  obtain ⟨b, b1, b2, b3, b4⟩ := h'
  have e : a = b := by
    rcases Nat.lt_trichotomy a b with c | c | c
    · have := wt_ct_lt (f := fun k' => (wt_ga z (278 + g) k').toInt / 13) c a2
      omega
    · exact c
    · have := wt_ct_lt (f := fun k' => (wt_ga z (278 + g) k').toInt / 13) c b2
      omega
  rw [a4, b4, e]
/-- the letters are there -/
theorem wu_rh_bd {z : wt_St} {t g i k m len : Nat} (nt : wt_nt z t (wt_ga z (193 + wu_wd z t i) k).toInt ≤ wt_pc z g (wt_ga z (193 + wu_wd z t i) k).toInt) (hm : (wt_ga z 253 t).toInt = (m : Int)) (hi : i < m) (hL : (wt_ga z 126 (wu_wd z t i)).toInt = (len : Int)) (hk : k < len) (r : wt_RI z) : wu_su1 z t i (wt_ga z (193 + wu_wd z t i) k).toInt + wu_cw z (wu_wd z t i) k (wt_ga z (193 + wu_wd z t i) k).toInt < wt_ct (fun k' => (wt_ga z (278 + g) k').toInt / 13) (wt_ga z (193 + wu_wd z t i) k).toInt (Int32.toNatClampNeg (wt_ga z 276 g)) := by
  have a := wt_ct_lt (f := fun k' => (wt_ga z (193 + wu_wd z t i) k').toInt) (l := (wt_ga z (193 + wu_wd z t i) k).toInt) hk rfl
  have b := wt_sum_pre (f := fun j => wt_nw z (Int32.toNatClampNeg (wt_ga z (255 + t) j)) (wt_ga z (193 + wu_wd z t i) k).toInt) (a := i + 1) m (by omega) (fun _ _ => (wt_ct_bd _ _ _).1)
  have b' : wu_su1 z t i (wt_ga z (193 + wu_wd z t i) k).toInt + wt_nw z (wu_wd z t i) (wt_ga z (193 + wu_wd z t i) k).toInt ≤ wt_nt z t (wt_ga z (193 + wu_wd z t i) k).toInt := by
    unfold wt_nt
    rw [wt_tnN hm]
    exact b
  have c : wt_nw z (wu_wd z t i) (wt_ga z (193 + wu_wd z t i) k).toInt = wt_ct (fun k' => (wt_ga z (193 + wu_wd z t i) k').toInt) (wt_ga z (193 + wu_wd z t i) k).toInt len := by
    unfold wt_nw
    rw [wt_tnN hL]
  have d : wt_pc z g (wt_ga z (193 + wu_wd z t i) k).toInt = wt_ct (fun k' => (wt_ga z (278 + g) k').toInt / 13) (wt_ga z (193 + wu_wd z t i) k).toInt (Int32.toNatClampNeg (wt_ga z 276 g)) := rfl
  have e : wu_cw z (wu_wd z t i) k (wt_ga z (193 + wu_wd z t i) k).toInt = wt_ct (fun k' => (wt_ga z (193 + wu_wd z t i) k').toInt) (wt_ga z (193 + wu_wd z t i) k).toInt k := rfl
  omega
theorem wu_su1_s (z : wt_St) (t j : Nat) (l : Int) : wu_su1 z t (j + 1) l = wu_su1 z t j l + wt_nw z (wu_wd z t j) l := rfl
theorem wu_su1_bd (z : wt_St) (t j : Nat) (l : Int) (r : wt_RI z) : 0 ≤ wu_su1 z t j l ∧ wu_su1 z t j l ≤ 9 * j := wt_sum_bd (c := 9) j (fun k _ => by
  have g : 0 ≤ (wt_ga z 126 (Int32.toNatClampNeg (wt_ga z (255 + t) k))).toInt ∧ (wt_ga z 126 (Int32.toNatClampNeg (wt_ga z (255 + t) k))).toInt ≤ 9 := wt_Ra5 r 126 (show 125 ≤ 126 by omega) (show 126 < 127 by omega) (Int32.toNatClampNeg (wt_ga z (255 + t) k))
  have c := wt_ct_bd (fun k' => (wt_ga z (193 + Int32.toNatClampNeg (wt_ga z (255 + t) k)) k').toInt) l (Int32.toNatClampNeg (wt_ga z 126 (Int32.toNatClampNeg (wt_ga z (255 + t) k))))
  have e := wt_tnI g.1
  show 0 ≤ wt_nw z (Int32.toNatClampNeg (wt_ga z (255 + t) k)) l ∧ wt_nw z (Int32.toNatClampNeg (wt_ga z (255 + t) k)) l ≤ 9
  unfold wt_nw
  omega)
/-- the first word that is spelled as was read -/
def wu_rw (z : wt_St) (x4 : Int32) (m w : Nat) : Prop := wt_ga z 126 w = x4 ∧ ∀ k, k < m → wt_ga z (193 + w) k = wt_ga z 289 k
theorem wh_readFind (n : Nat) {m N : Nat} {x4 : Int32} {z : wt_St} (h4 : x4.toInt = (m : Int)) (hN : (wt_gf z 108 28).toInt = (N : Int)) (hN6 : N ≤ 60) : wt_H (wt_it (wp_md_readOf_B179 n x4) n ((0 : Int32), z)) (fun q => q.2 = z ∧ wt_fst N (wu_rw z x4 m) q.1) := by
  have k0 : (0 : Int32).toInt = 0 := by decide
  refine wt_H_it (fun t : Int32 × wt_St => t.2 = z ∧ 0 ≤ t.1.toInt ∧ ∀ w : Nat, (w : Int) < t.1.toInt → ¬ wu_rw z x4 m w) (fun K t I hK => ?_) n _ ⟨rfl, by show 0 ≤ ((0 : Int32)).toInt; omega, fun k hk => absurd (show (k : Int) < ((0 : Int32)).toInt from hk) (by omega)⟩
  obtain ⟨i0, i1, i2⟩ := I
  have et := wt_tnI i1
  unfold wp_md_readOf_B179
  rw [i0]
  refine wt_H_if (fun c => ?_) (fun c => ?_)
  · have c' := wt_cle c
    exact wt_H_some ⟨rfl, Or.inr ⟨rfl, fun v hv => i2 v (by omega)⟩⟩
  · have c' := wt_ncle c
    have ei := wt_i1 (c := t.1) (by omega)
    refine wt_H_gd (fun _ => ?_)
    -- the flag, at its end
    have EN : ∀ f : Int32, (f = 1 ∧ wu_rw z x4 m (Int32.toNatClampNeg t.1)) ∨ (f = 0 ∧ ¬ wu_rw z x4 m (Int32.toNatClampNeg t.1)) → wt_H (wp_md_readOf_B255 n x4 t.1 f K z) (fun q => q.2 = z ∧ wt_fst N (wu_rw z x4 m) q.1) := fun f hf => by
      unfold wp_md_readOf_B255
      rcases hf with ⟨f1, f2⟩ | ⟨f1, f2⟩
      · rw [if_neg (show ¬ f = 0 by rw [f1]; decide)]
        exact wt_H_some ⟨rfl, Or.inl ⟨Int32.toNatClampNeg t.1, by omega, by (try dsimp only); omega, f2, fun v hv => i2 v (by omega)⟩⟩
      · rw [if_pos f1]
        refine hK _ ⟨rfl, by show 0 ≤ (t.1 + (1 : Int32)).toInt; omega, fun w hw => ?_⟩
        have hw' : (w : Int) < (t.1 + (1 : Int32)).toInt := hw
        by_cases e : w = Int32.toNatClampNeg t.1
        · rw [e]; exact f2
        · exact i2 w (by omega)
    have B : ∀ f : Int32, (f = 1 ∧ wt_ga z 126 (Int32.toNatClampNeg t.1) = x4) ∨ (f = 0 ∧ ¬ wt_ga z 126 (Int32.toNatClampNeg t.1) = x4) → wt_H (wp_md_readOf_B205 n x4 t.1 K f z) (fun q => q.2 = z ∧ wt_fst N (wu_rw z x4 m) q.1) := fun f hf => by
      unfold wp_md_readOf_B205
      refine wt_H_it (fun u : Int32 × Int32 × wt_St => u.2.2 = z ∧ 0 ≤ u.2.1.toInt ∧ u.2.1.toInt ≤ (m : Int) ∧ ((u.1 = 1 ∧ wt_ga z 126 (Int32.toNatClampNeg t.1) = x4 ∧ ∀ k : Nat, (k : Int) < u.2.1.toInt → wt_ga z (193 + Int32.toNatClampNeg t.1) k = wt_ga z 289 k) ∨ (u.1 = 0 ∧ ¬ wu_rw z x4 m (Int32.toNatClampNeg t.1)))) (fun K2 u J hK2 => ?_) n _ ⟨rfl, by show 0 ≤ ((0 : Int32)).toInt; omega, by show ((0 : Int32)).toInt ≤ _; omega, ?_⟩
      · obtain ⟨j0, j1, j2, j3⟩ := J
        have eu := wt_tnI j1
        unfold wp_md_readOf_B210
        rw [j0]
        refine wt_H_if (fun d => ?_) (fun d => ?_)
        · have d' := wt_cle d
          refine EN _ ?_
          rcases j3 with ⟨a, b, e⟩ | ⟨a, b⟩
          · exact Or.inl ⟨a, b, fun k hk => e k (by omega)⟩
          · exact Or.inr ⟨a, b⟩
        · have d' := wt_ncle d
          have eui := wt_i1 (c := u.2.1) (by have := wt_bd x4; omega)
          refine wt_H_if (fun e => ?_) (fun e => ?_)
          · refine EN _ ?_
            rcases j3 with ⟨a, -, -⟩ | ⟨a, b⟩
            · rw [a] at e
              exact absurd e (by decide)
            · exact Or.inr ⟨a, b⟩
          · refine wt_H_gd (fun _ => wt_H_gd (fun _ => wt_H_gd (fun _ => ?_)))
            rcases j3 with ⟨a, b, j3⟩ | ⟨a, -⟩
            · unfold wp_md_readOf_B247
              refine wt_H_if (fun f => ?_) (fun f => ?_)
              · refine hK2 _ ⟨rfl, by show 0 ≤ (u.2.1 + (1 : Int32)).toInt; omega, by show (u.2.1 + (1 : Int32)).toInt ≤ _; omega, Or.inl ⟨rfl, b, fun k hk => ?_⟩⟩
                have hk' : (k : Int) < (u.2.1 + (1 : Int32)).toInt := hk
                by_cases h : k = Int32.toNatClampNeg u.2.1
                · rw [h]; exact f
                · exact j3 k (by omega)
              · exact hK2 _ ⟨rfl, by show 0 ≤ (u.2.1 + (1 : Int32)).toInt; omega, by show (u.2.1 + (1 : Int32)).toInt ≤ _; omega, Or.inr ⟨rfl, fun h => f (h.2 _ (by omega))⟩⟩
            · exact absurd a e
      · rcases hf with ⟨f1, f2⟩ | ⟨f1, f2⟩
        · exact Or.inl ⟨f1, f2, fun k hk => absurd (show (k : Int) < ((0 : Int32)).toInt from hk) (by omega)⟩
        · exact Or.inr ⟨f1, fun h => f2 h.1⟩
    exact wt_H_if (fun d => B 1 (Or.inl ⟨rfl, d⟩)) (fun d => B 0 (Or.inr ⟨rfl, d⟩))
def wu_rr (z : wt_St) (t g i N : Nat) (x : Int32) : Prop := ∃ R : Nat → Int32, (∀ k : Nat, (k : Int) < (wt_ga z 126 (wu_wd z t i)).toInt → wu_rh z t g i k (R k)) ∧ wt_fst N (fun w => wt_ga z 126 w = wt_ga z 126 (wu_wd z t i) ∧ ∀ k : Nat, (k : Int) < (wt_ga z 126 (wu_wd z t i)).toInt → wt_ga z (193 + w) k = R k) x
set_option maxRecDepth 100000 in
set_option maxHeartbeats 8000000 in
theorem wh_readOf (n : Nat) {x1 x2 : Int32} {g t i m N : Nat} {z : wt_St} (r : wt_RI z) (hx : x1.toInt = (g : Int)) (hg : g < 4) (ht : (wt_ga z 275 g).toInt = (t : Int)) (ht8 : t < 8) (hm : (wt_ga z 253 t).toInt = (m : Int)) (h2 : x2.toInt = (i : Int)) (him : i < m) (nt : ∀ l : Int, 0 ≤ l → l < 26 → wt_nt z t l ≤ wt_pc z g l) (hN : (wt_gf z 108 28).toInt = (N : Int)) (hN6 : N ≤ 60) : wt_H (wp_md_readOf n x1 x2 z) (fun y => wt_fr (fun _ _ => False) (fun i => i = 289 ∨ i = 290) z y.2 ∧ wu_rr z t g i N y.1) := by
  have k0 : (0 : Int32).toInt = 0 := by decide
  have k26 : (26 : Int32).toInt = 26 := by decide
  have eg := wt_tnN hx
  have e2 := wt_tnN h2
  have hm12 : m ≤ 12 := by
    have : 0 ≤ (wt_ga z 253 t).toInt ∧ (wt_ga z 253 t).toInt ≤ 12 := wt_Ra9 r 253 (show 253 ≤ 253 by omega) (show 253 < 254 by omega) t
    omega
  have hK : 0 ≤ (wt_ga z 276 g).toInt ∧ (wt_ga z 276 g).toInt ≤ 108 := wt_Ra13 r 276 (show 276 ≤ 276 by omega) (show 276 < 277 by omega) g
  have eK := (wt_tnI hK.1).symm
  have hPc : ∀ k, 0 ≤ (wt_ga z (278 + g) k).toInt := fun k => (wt_Ra14 r (278 + g) (show 278 ≤ 278 + g by omega) (show 278 + g < 282 by omega) k).1
  unfold wp_md_readOf
  rw [eg]
  refine wt_H_gd (fun _ => ?_)
  -- the row of zeroes
  refine wt_H_it (fun u : Int32 × wt_St => 0 ≤ u.1.toInt ∧ wt_fr (fun _ _ => False) (fun i => i = 289 ∨ i = 290) z u.2 ∧ ∀ l : Nat, (l : Int) < u.1.toInt → (wt_ga u.2 290 l).toInt = 0) (fun K u I hK10 => ?_) n _ ⟨by show 0 ≤ ((0 : Int32)).toInt; omega, wt_fr.rf, fun k hk => absurd (show (k : Int) < ((0 : Int32)).toInt from hk) (by omega)⟩
  obtain ⟨u1, uf, u2⟩ := I
  have eu := wt_tnI u1
  unfold wp_md_readOf_B10
  refine wt_H_if (fun c => ?_) (fun c => ?_)
  rotate_left
  · have c' := wt_ncle c
    have ei := wt_i1 (c := u.1) (by omega)
    refine wt_H_gd (fun _ => ?_)
    obtain ⟨s1, ε⟩ : ∃ o : wt_St, o = wt_sa u.2 290 (Int32.toNatClampNeg u.1) (0 : Int32) := ⟨_, rfl⟩
    rw [← ε]
    refine hK10 _ ⟨by show 0 ≤ (u.1 + (1 : Int32)).toInt; omega, uf.sa ε (Or.inr rfl), fun l hl => ?_⟩
    have hl' : (l : Int) < (u.1 + (1 : Int32)).toInt := hl
    show (wt_ga s1 290 l).toInt = 0
    by_cases h : l = Int32.toNatClampNeg u.1
    · rw [h, wt_v_sa ε]; exact k0
    · rw [wt_w_sa ε l h]; exact u2 l (by omega)
  have c' := wt_cle c
  -- word by word
  refine wt_H_it (fun a : Int32 × wt_St => (0 ≤ a.1.toInt ∧ a.1.toInt ≤ (i : Int) + 1) ∧ wt_fr (fun _ _ => False) (fun i => i = 289 ∨ i = 290) z a.2 ∧ (∀ l : Nat, l < 26 → (wt_ga a.2 290 l).toInt = wu_su1 z t (Int32.toNatClampNeg a.1) (l : Int)) ∧ ∀ i' : Nat, a.1.toInt = (i' : Int) + 1 → ∀ j : Nat, (j : Int) < (wt_ga z 126 (wu_wd z t i')).toInt → wu_rh z t g i' j (wt_ga a.2 289 j)) (fun K2 a I hK2 => ?_) n _ ⟨⟨by show 0 ≤ ((0 : Int32)).toInt; omega, by show ((0 : Int32)).toInt ≤ _; omega⟩, uf, fun l hl => by rw [u2 l (by omega)]; show (0 : Int) = wu_su1 z t (Int32.toNatClampNeg (0 : Int32)) _; rw [wt_tn0]; rfl, fun i' h => by have h' : ((0 : Int32)).toInt = (i' : Int) + 1 := h; omega⟩
  obtain ⟨⟨a1, a2⟩, af, a3, a4⟩ := I
  have ea := wt_tnI a1
  unfold wp_md_readOf_B34
  have et := wt_tnN ht
  rw [et, e2]
  refine wt_H_if (fun d => ?_) (fun d => ?_)
  · -- all are read: which word is it
    have d' := wt_clt d
    have E : a.1.toInt = (i : Int) + 1 := by omega
    have R := a4 i E
    refine wt_H_gd (fun _ => wt_H_gd (fun _ => wt_H_gd (fun _ => ?_)))
    have w1 : wt_ga a.2 (255 + t) i = wt_ga z (255 + t) i := af.2 _ (by (try dsimp only); omega) i
    have w2 : wt_ga a.2 126 (wu_wd z t i) = wt_ga z 126 (wu_wd z t i) := af.2 126 (by decide) _
    rw [w1]
    show wt_H (wt_it (wp_md_readOf_B179 n (wt_ga a.2 126 (wu_wd z t i))) n ((0 : Int32), a.2)) _
    rw [w2]
    have gl : 0 ≤ (wt_ga z 126 (wu_wd z t i)).toInt ∧ (wt_ga z 126 (wu_wd z t i)).toInt ≤ 9 := wt_Ra5 r 126 (show 125 ≤ 126 by omega) (show 126 < 127 by omega) (wu_wd z t i)
    have el := wt_tnI gl.1
    refine (wh_readFind n (m := Int32.toNatClampNeg (wt_ga z 126 (wu_wd z t i))) el.symm (by rw [af.1 108 28 (fun h => h)]; exact hN) hN6).imp (fun q hq => ⟨by rw [hq.1]; exact af, fun k => wt_ga a.2 289 k, R, ?_⟩)
    have P : ∀ w, w < N → (wu_rw a.2 (wt_ga z 126 (wu_wd z t i)) (Int32.toNatClampNeg (wt_ga z 126 (wu_wd z t i))) w ↔ (wt_ga z 126 w = wt_ga z 126 (wu_wd z t i) ∧ ∀ k : Nat, (k : Int) < (wt_ga z 126 (wu_wd z t i)).toInt → wt_ga z (193 + w) k = wt_ga a.2 289 k)) := fun w hw => by
      unfold wu_rw
      rw [af.2 126 (by decide)]
      constructor
      · intro h
        exact ⟨h.1, fun k hk => by rw [← af.2 (193 + w) (by (try dsimp only); omega)]; exact h.2 k (by omega)⟩
      · intro h
        exact ⟨h.1, fun k hk => by rw [af.2 (193 + w) (by (try dsimp only); omega)]; exact h.2 k (by omega)⟩
    rcases hq.2 with ⟨w, x1', x2', x3', x4'⟩ | ⟨x1', x2'⟩
    · exact Or.inl ⟨w, x1', x2', (P w x1').mp x3', fun v hv h => x4' v hv ((P v (by omega)).mpr h)⟩
    · exact Or.inr ⟨x1', fun v hv h => x2' v hv ((P v hv).mpr h)⟩
  · -- one more word
    have d' := wt_ncl d
    refine wt_H_gd (fun _ => wt_H_gd (fun _ => ?_))
    obtain ⟨i', hi'⟩ : ∃ i' : Nat, i' = Int32.toNatClampNeg a.1 := ⟨_, rfl⟩
    rw [← hi'] at ea a3
    rw [← hi']
    have im : i' < m := by omega
    have w1 : wt_ga a.2 (255 + t) i' = wt_ga z (255 + t) i' := af.2 _ (by (try dsimp only); omega) i'
    rw [w1]
    have gw : 0 ≤ (wt_ga z (255 + t) i').toInt ∧ (wt_ga z (255 + t) i').toInt ≤ 59 := wt_Ra10 r (255 + t) (show 255 ≤ 255 + t by omega) (show 255 + t < 263 by omega) i'
    have ew := wt_tnI gw.1
    obtain ⟨w, hw⟩ : ∃ w : Nat, w = wu_wd z t i' := ⟨_, rfl⟩
    have hw' : Int32.toNatClampNeg (wt_ga z (255 + t) i') = w := hw.symm
    have hw6 : w < 60 := by rw [← hw']; omega
    have gl : 0 ≤ (wt_ga z 126 w).toInt ∧ (wt_ga z 126 w).toInt ≤ 9 := wt_Ra5 r 126 (show 125 ≤ 126 by omega) (show 126 < 127 by omega) w
    have el := wt_tnI gl.1
    have EK : a.1.toInt < 2147483647 := by omega
    have ea1 := wt_i1 (c := a.1) EK
    have en1 : Int32.toNatClampNeg (a.1 + (1 : Int32)) = i' + 1 := by have := wt_tnI (x := a.1 + (1 : Int32)) (by omega); omega
    refine wt_H_it (fun b : Int32 × wt_St => (0 ≤ b.1.toInt ∧ b.1.toInt ≤ (wt_ga z 126 w).toInt) ∧ wt_fr (fun _ _ => False) (fun i => i = 289 ∨ i = 290) z b.2 ∧ (∀ l : Nat, l < 26 → (wt_ga b.2 290 l).toInt = wu_su1 z t i' (l : Int) + wu_cw z w (Int32.toNatClampNeg b.1) (l : Int)) ∧ ∀ j : Nat, (j : Int) < b.1.toInt → wu_rh z t g i' j (wt_ga b.2 289 j)) (fun K3 b I hK3 => ?_) n _ ⟨⟨by show 0 ≤ ((0 : Int32)).toInt; omega, by show ((0 : Int32)).toInt ≤ _; omega⟩, af, fun l hl => by rw [a3 l hl]; show wu_su1 z t i' (l : Int) = wu_su1 z t i' (l : Int) + wu_cw z w (Int32.toNatClampNeg (0 : Int32)) (l : Int); rw [wt_tn0]; show wu_su1 z t i' (l : Int) = wu_su1 z t i' (l : Int) + 0; omega, fun j hj => absurd (show (j : Int) < ((0 : Int32)).toInt from hj) (by omega)⟩
    obtain ⟨⟨b1, b2⟩, bf, b3, b4⟩ := I
    have eb := wt_tnI b1
    unfold wp_md_readOf_B54
    rw [hw', bf.2 126 (by decide)]
    refine wt_H_gd (fun _ => ?_)
    refine wt_H_if (fun e => ?_) (fun e => ?_)
    · have e' := wt_cle e
      have E : b.1.toInt = (wt_ga z 126 w).toInt := by omega
      refine hK2 _ ⟨⟨by show 0 ≤ (a.1 + (1 : Int32)).toInt; omega, by show (a.1 + (1 : Int32)).toInt ≤ _; omega⟩, bf, fun l hl => ?_, fun i2 hi2 j hj => ?_⟩
      · show (wt_ga b.2 290 l).toInt = wu_su1 z t (Int32.toNatClampNeg (a.1 + (1 : Int32))) (l : Int)
        rw [en1, wu_su1_s, b3 l hl, ← hw]
        have : wt_nw z w (l : Int) = wu_cw z w (Int32.toNatClampNeg b.1) (l : Int) := by
          unfold wt_nw wu_cw
          rw [show Int32.toNatClampNeg b.1 = Int32.toNatClampNeg (wt_ga z 126 w) by omega]
        omega
      · have hi2' : (a.1 + (1 : Int32)).toInt = (i2 : Int) + 1 := hi2
        have e3 : i2 = i' := by omega
        rw [e3] at hj ⊢
        rw [← hw] at hj
        exact b4 j (by omega)
    · have e' := wt_ncle e
      have ebi := wt_i1 (c := b.1) (by omega)
      have enb : Int32.toNatClampNeg (b.1 + (1 : Int32)) = Int32.toNatClampNeg b.1 + 1 := by have := wt_tnI (x := b.1 + (1 : Int32)) (by omega); omega
      refine wt_H_gd (fun _ => wt_H_gd (fun _ => wt_H_gd (fun _ => ?_)))
      obtain ⟨k, hk⟩ : ∃ k : Nat, k = Int32.toNatClampNeg b.1 := ⟨_, rfl⟩
      rw [← hk] at eb b3 enb
      rw [← hk, bf.2 (193 + w) (by (try dsimp only); omega)]
      obtain ⟨L, hL⟩ : ∃ L : Int32, L = wt_ga z (193 + w) k := ⟨_, rfl⟩
      rw [← hL]
      have gL : 0 ≤ (wt_ga z (193 + w) k).toInt ∧ (wt_ga z (193 + w) k).toInt ≤ 25 := wt_Ra8 r (193 + w) (show 193 ≤ 193 + w by omega) (show 193 + w < 253 by omega) k
      rw [← hL] at gL
      have eL := wt_tnI gL.1
      have b3L := b3 (Int32.toNatClampNeg L) (by omega)
      rw [eL] at b3L
      have S0 := wu_su1_bd z t i' L.toInt r
      have C0 := wt_ct_bd (fun k' => (wt_ga z (193 + w) k').toInt) L.toInt k
      have C0' : 0 ≤ wu_cw z w k L.toInt ∧ wu_cw z w k L.toInt ≤ k := C0
      have BD := wu_rh_bd (z := z) (t := t) (g := g) (i := i') (k := k) (m := m) (len := Int32.toNatClampNeg (wt_ga z 126 w)) (by rw [← hw, ← hL]; exact nt _ gL.1 (by omega)) hm im (by rw [← hw]; exact el.symm) (by omega) r
      rw [← hw, ← hL] at BD
      have E1 : wt_ga b.2 (278 + g) = wt_ga z (278 + g) := funext (bf.2 (278 + g) (by (try dsimp only); omega))
      have PO := wh_pieceOn n (x1 := x1) (x2 := L) (x3 := wt_ga b.2 290 (Int32.toNatClampNeg L)) (z := b.2) (g := g) (K := Int32.toNatClampNeg (wt_ga z 276 g)) hx (by omega) (by rw [bf.2 276 (by decide)]; exact eK) (by omega) (fun k _ => by rw [E1]; exact hPc k)
      rw [E1] at PO
      refine wt_H_bh PO (fun q24 h24 => ?_)
      obtain ⟨c1, h24⟩ := h24
      rw [c1]
      rcases h24 with ⟨kk, kk1, kk2, kk3, kk4⟩ | h24
      rotate_left
      · omega
      obtain ⟨s1, ε1⟩ : ∃ o : wt_St, o = wt_sa b.2 290 (Int32.toNatClampNeg L) ((wt_ga b.2 290 (Int32.toNatClampNeg L)) + (1 : Int32)) := ⟨_, rfl⟩
      rw [← ε1]
      have f1 : wt_fr (fun _ _ => False) (fun i => i = 289 ∨ i = 290) z s1 := bf.sa ε1 (Or.inr rfl)
      rw [f1.1 108 25 (fun h => h), f1.2 121 (by decide), f1.2 117 (by decide), kk4]
      refine wt_H_gd (fun _ => wt_H_gd (fun _ => wt_H_gd (fun _ => ?_)))
      have N8 : ∀ v : Int32, ((wt_ga z 121 (Int32.toNatClampNeg (wt_ga z (278 + g) kk)) < wt_gf z 108 25 ∧ ¬ wt_ga z 117 (Int32.toNatClampNeg L) = (-1 : Int32)) ∧ v = wt_ga z 117 (Int32.toNatClampNeg L)) ∨ (¬ (wt_ga z 121 (Int32.toNatClampNeg (wt_ga z (278 + g) kk)) < wt_gf z 108 25 ∧ ¬ wt_ga z 117 (Int32.toNatClampNeg L) = (-1 : Int32)) ∧ v = L) → wt_H (wp_md_readOf_B148 n x1 x2 (wt_ga z 275 g) a.1 (wt_ga z (255 + t) i') b.1 K2 K3 289 b.1 v s1) (fun y => wt_fr (fun _ _ => False) (fun i => i = 289 ∨ i = 290) z y.2 ∧ wu_rr z t g i N y.1) := fun v hv => by
        unfold wp_md_readOf_B148
        refine wt_H_gd (fun _ => ?_)
        rw [← hk]
        obtain ⟨s2, ε2⟩ : ∃ o : wt_St, o = wt_sa s1 289 k v := ⟨_, rfl⟩
        rw [← ε2]
        have f2 := wt_fr_sa ε2
        refine hK3 _ ⟨⟨by show 0 ≤ (b.1 + (1 : Int32)).toInt; omega, by show (b.1 + (1 : Int32)).toInt ≤ _; omega⟩, f1.sa ε2 (Or.inl rfl), fun l hl => ?_, fun j hj => ?_⟩
        · show (wt_ga s2 290 l).toInt = wu_su1 z t i' (l : Int) + wu_cw z w (Int32.toNatClampNeg (b.1 + (1 : Int32))) (l : Int)
          rw [enb, f2.2 290 (by decide)]
          have ec : wu_cw z w (k + 1) (l : Int) = wu_cw z w k (l : Int) + if (wt_ga z (193 + w) k).toInt = (l : Int) then 1 else 0 := rfl
          rw [ec, ← hL]
          by_cases h : l = Int32.toNatClampNeg L
          · rw [if_pos (by omega), h, wt_v_sa ε1]
            have := wt_i1 (c := wt_ga b.2 290 (Int32.toNatClampNeg L)) (by omega)
            rw [eL]
            omega
          · rw [if_neg (by omega), wt_w_sa ε1 l h, b3 l hl]
            omega
        · have hj' : (j : Int) < (b.1 + (1 : Int32)).toInt := hj
          show wu_rh z t g i' j (wt_ga s2 289 j)
          by_cases h : j = k
          · rw [h, wt_v_sa ε2]
            refine ⟨kk, by omega, ?_⟩
            rw [← hw, ← hL]
            refine ⟨kk2, by rw [kk3, b3L], ?_⟩
            rcases hv with ⟨v1, v2⟩ | ⟨v1, v2⟩
            · rw [if_pos v1]; exact v2
            · rw [if_neg v1]; exact v2
          · rw [wt_w_sa ε2 j h, (wt_fr_sa ε1).2 289 (by decide)]
            exact b4 j (by omega)
      unfold wp_md_readOf_B146
      exact wt_H_if (fun o => N8 _ (Or.inr ⟨fun h => by have := wt_clt h.1; have := wt_cle o; omega, rfl⟩)) (fun o => wt_H_gd (fun _ => wt_H_if (fun p => N8 _ (Or.inr ⟨fun h => h.2 p, rfl⟩)) (fun p => wt_H_gd (fun _ => N8 _ (Or.inl ⟨⟨Int32.lt_iff_toInt_lt.mpr (wt_ncle o), p⟩, rfl⟩)))))
end WTQ0
-- 96f.read2.lean.txt
section WTQ1
/-! what a page reads: the class, and both -/
theorem wh_isFaint (n : Nat) (hn : 4294967297 < n) {j : Nat} {x : Int32} {s : wt_St} (hx : x.toInt = (j : Int)) (hj : j < 312) : wt_H (wp_pg_isFaint n x s) (fun q => q.2 = s ∧ ((q.1 = 1 ∧ wt_ga s 40 j < wt_gf s 4 7) ∨ (q.1 = 0 ∧ ¬ wt_ga s 40 j < wt_gf s 4 7))) := by
  unfold wp_pg_isFaint
  refine wt_H_bh (wh_look n hn (k := j) hx (by rw [show wt_ln 40 = 312 from by decide]; exact hj)) (fun q hq => ?_)
  subst hq
  dsimp only
  refine wt_H_if (fun c => ?_) (fun c => ?_)
  · have c' := wt_cle c
    exact wt_H_some ⟨rfl, Or.inr ⟨rfl, fun h => by have := wt_clt h; omega⟩⟩
  · have c' := wt_ncle c
    exact wt_H_some ⟨rfl, Or.inl ⟨rfl, Int32.lt_iff_toInt_lt.mpr c'⟩⟩
theorem wh_readLetter (n : Nat) (hn : 4294967297 < n) {x1 x2 x3 : Int32} {l m i0 : Nat} {s : wt_St} (hl : x2.toInt = (l : Int)) (hl26 : l < 26) (hm : (wt_ga s 5 l).toInt = (m : Int)) (h12 : m ≤ 12) (h0 : i0 < m) (p0 : wt_ga s 41 (12 * l + i0) = x1) (r0 : wt_ga s 42 (12 * l + i0) = x3) (un : ∀ i, i < m → wt_ga s 41 (12 * l + i) = x1 → wt_ga s 42 (12 * l + i) = x3 → i = i0) : wt_H (wp_pg_readLetter n x1 x2 x3 s) (fun q => q.2 = s ∧ q.1 = if wt_ga s 40 (12 * l + i0) < wt_gf s 4 7 ∧ ¬ wt_ga s 10 l = (-1 : Int32) then wt_ga s 10 l else x2) := by
  have k0 : (0 : Int32).toInt = 0 := by decide
  unfold wp_pg_readLetter
  refine wt_H_bh (wh_look n hn (k := l) hl (by rw [show wt_ln 10 = 26 from by decide]; exact hl26)) (fun q hq => ?_)
  subst hq
  dsimp only
  refine wt_H_it (fun t : Int32 × wt_St => t.2 = s ∧ 0 ≤ t.1.toInt ∧ t.1.toInt ≤ (i0 : Int)) (fun K t I hK => ?_) n _ ⟨rfl, by show 0 ≤ ((0 : Int32)).toInt; omega, by show ((0 : Int32)).toInt ≤ _; omega⟩
  obtain ⟨i1, i2, i3⟩ := I
  have et := wt_tnI i2
  unfold wp_pg_readLetter_B16
  rw [i1]
  refine wt_H_bh (wh_pieces n hn hl hl26) (fun q hq => ?_)
  subst hq
  dsimp only
  refine wt_H_if (fun c => absurd (wt_cle c) (by omega)) (fun c => ?_)
  have ei := wt_i1 (c := t.1) (by omega)
  have ep := wt_piece hl hl26 i2 (by omega)
  have NX : ¬ (wt_ga s 41 (12 * l + Int32.toNatClampNeg t.1) = x1 ∧ wt_ga s 42 (12 * l + Int32.toNatClampNeg t.1) = x3) → wt_H (wp_pg_readLetter_B92 n x1 x2 x3 (wt_ga s 10 l) t.1 K s) (fun q => q.2 = s ∧ q.1 = if wt_ga s 40 (12 * l + i0) < wt_gf s 4 7 ∧ ¬ wt_ga s 10 l = (-1 : Int32) then wt_ga s 10 l else x2) := fun h => by
    unfold wp_pg_readLetter_B92
    have ne : Int32.toNatClampNeg t.1 ≠ i0 := fun e => h ⟨by rw [e]; exact p0, by rw [e]; exact r0⟩
    exact hK _ ⟨rfl, by show 0 ≤ (t.1 + (1 : Int32)).toInt; omega, by show (t.1 + (1 : Int32)).toInt ≤ _; omega⟩
  refine wt_H_bh (wh_look n hn (k := 12 * l + Int32.toNatClampNeg t.1) ep (by rw [show wt_ln 41 = 312 from by decide]; omega)) (fun q hq => ?_)
  subst hq
  dsimp only
  refine wt_H_if (fun d => ?_) (fun d => NX (fun h => d h.1))
  refine wt_H_bh (wh_look n hn (k := 12 * l + Int32.toNatClampNeg t.1) ep (by rw [show wt_ln 42 = 312 from by decide]; omega)) (fun q hq => ?_)
  subst hq
  dsimp only
  refine wt_H_if (fun e => ?_) (fun e => NX (fun h => e h.2))
  have e0 := un (Int32.toNatClampNeg t.1) (by omega) d e
  rw [e0] at ep
  refine wt_H_bh (wh_isFaint n hn (j := 12 * l + i0) ep (by omega)) (fun q8 h8 => ?_)
  obtain ⟨e8, h8⟩ := h8
  rw [e8]
  rcases h8 with ⟨a, b⟩ | ⟨a, b⟩
  · rw [if_neg (show ¬ q8.1 = 0 by rw [a]; decide)]
    refine wt_H_if (fun f => wt_H_some ⟨rfl, ?_⟩) (fun f => wt_H_some ⟨rfl, ?_⟩)
    · rw [if_neg (show ¬ (wt_ga s 40 (12 * l + i0) < wt_gf s 4 7 ∧ ¬ wt_ga s 10 l = (-1 : Int32)) from fun h => h.2 f)]
    · rw [if_pos (show wt_ga s 40 (12 * l + i0) < wt_gf s 4 7 ∧ ¬ wt_ga s 10 l = (-1 : Int32) from ⟨b, f⟩)]
  · rw [if_pos (show q8.1 = 0 from a)]
    refine wt_H_some ⟨rfl, ?_⟩
    rw [if_neg (show ¬ (wt_ga s 40 (12 * l + i0) < wt_gf s 4 7 ∧ ¬ wt_ga s 10 l = (-1 : Int32)) from fun h => b h.1)]
/-- the letter that a page reads, by what stands alike -/
theorem wh_readLetterR (n : Nat) (hn : 4294967297 < n) {x1 L x3 : Int32} {g t i k : Nat} {s z : wt_St} (v : wt_IV z) (lc : wu_LC s z) (sc : wu_SC s z) (hx : x1.toInt = (g : Int)) (hg : g < 4) (st : (wt_ga z 275 g).toInt ≠ -1) (hL : L = wt_ga z (193 + wu_wd z t i) k) (h3 : x3.toInt = wu_su1 z t i L.toInt + wu_cw z (wu_wd z t i) k L.toInt) (h30 : 0 ≤ x3.toInt) (gL : 0 ≤ L.toInt ∧ L.toInt ≤ 25) (bd : x3.toInt < wt_ct (fun k' => (wt_ga z (278 + g) k').toInt / 13) L.toInt (Int32.toNatClampNeg (wt_ga z 276 g))) : wt_H (wp_pg_readLetter n x1 L x3 s) (fun q => q.2 = s ∧ wu_rh z t g i k q.1) := by
  have hK : 0 ≤ (wt_ga z 276 g).toInt ∧ (wt_ga z 276 g).toInt ≤ 108 := wt_Ra13 v.1 276 (show 276 ≤ 276 by omega) (show 276 < 277 by omega) g
  have eK := wt_tnI hK.1
  have eL := wt_tnI gL.1
  obtain ⟨kk, kk1, kk2, kk3⟩ := wt_ct_at (f := fun k' => (wt_ga z (278 + g) k').toInt / 13) (Int32.toNatClampNeg (wt_ga z 276 g)) h30 bd
  obtain ⟨l, i0, l1, l2, l12, l3, l4, l5, l6, l7, l8⟩ := wu_pm1 v sc hg st kk (by omega)
  have hPc : 0 ≤ (wt_ga z (278 + g) kk).toInt := (wt_Ra14 v.1 (278 + g) (show 278 ≤ 278 + g by omega) (show 278 + g < 282 by omega) kk).1
  have eP := wt_tnI hPc
  have kk2' : (wt_ga z (278 + g) kk).toInt / 13 = L.toInt := kk2
  have el : l = Int32.toNatClampNeg L := by omega
  obtain ⟨m1, m2, m3⟩ := lc.1 l l1
  have kk3' : wt_ct (fun k' => (wt_ga z (278 + g) k').toInt / 13) L.toInt kk = x3.toInt := kk3
  have lL : ((l : Nat) : Int) = L.toInt := by omega
  refine (wh_readLetter n hn (l := l) (m := Int32.toNatClampNeg (wt_ga s 5 l)) (i0 := i0) lL.symm l1 (wt_tnI m2).symm (by have := wt_tnI m2; omega) (by have := wt_tnI m2; rw [← m1] at l2; omega) (wt_eqI (by rw [l5, hx])) (wt_eqI (by rw [l8, lL, kk3'])) (fun i' hi' hp hr => ?_)).imp (fun q hq => ⟨hq.1, kk, by omega, ?_⟩)
  · -- one piece alone has this place and this rank
    have hp' := wt_ceq hp
    rw [hx] at hp'
    obtain ⟨l', i1, k1, q1, q2, q3, q4, q5⟩ := wu_pm2 v sc hg st (12 * l + i') (by have := wt_tnI m2; omega) hp'
    have := v.2.1 l'
    have h1 : l' = l ∧ i1 = i' := by have := wt_tnI m2; omega
    obtain ⟨l'', i2, p1, p2, p12, p3, p4, p5, p6, p7, p8⟩ := wu_pm1 v sc hg st k1 q4
    have h2 : l'' = l ∧ i2 = i' := by omega
    rw [h2.1, h2.2] at p8
    have hr' := wt_ceq hr
    rw [p8, lL] at hr'
    have e : k1 = kk := by
      have hP1 : 0 ≤ (wt_ga z (278 + g) k1).toInt := (wt_Ra14 v.1 (278 + g) (show 278 ≤ 278 + g by omega) (show 278 + g < 282 by omega) k1).1
      have eP1 := wt_tnI hP1
      have f1 : (wt_ga z (278 + g) k1).toInt / 13 = L.toInt := by omega
      rcases Nat.lt_trichotomy k1 kk with c | c | c
      · have := wt_ct_lt (f := fun k' => (wt_ga z (278 + g) k').toInt / 13) c f1
        omega
      · exact c
      · have := wt_ct_lt (f := fun k' => (wt_ga z (278 + g) k').toInt / 13) c kk2
        omega
    rw [e] at q5
    omega
  · rw [← hL]
    refine ⟨kk2, by rw [kk3']; exact h3, ?_⟩
    rw [hq.2, l3, ← el, l6]
    have lk := lc.2.2.2.1 l l1
    have fa := lc.2.2.2.2.2
    rw [lk, fa]
def wu_rs (s z : wt_St) (t g i N : Nat) (x : Int32) : Prop := ∃ R : Nat → Int32, (∀ k : Nat, (k : Int) < (wt_ga z 126 (wu_wd z t i)).toInt → wu_rh z t g i k (R k)) ∧ wt_fst N (fun w => wt_ga s 22 w = wt_ga z 126 (wu_wd z t i) ∧ ∀ k : Nat, (k : Int) < (wt_ga z 126 (wu_wd z t i)).toInt → wt_ga s 21 (9 * w + k) = R k) x
set_option maxRecDepth 100000 in
set_option maxHeartbeats 8000000 in
theorem wh_readAs (n : Nat) (hn : 4294967297 < n) {x1 x2 : Int32} {g t i m N : Nat} {s z : wt_St} (v : wt_IV z) (hN : (wt_gf s 20 6).toInt = (N : Int)) (hN' : (wt_gf z 108 28).toInt = (N : Int)) (hN6 : N ≤ 60) (tt : wt_tt 20 126 128 130 193 N s z) (X : wu_X1 s z t) (lc : wu_LC s z) (sc : wu_SC s z) (hx : x1.toInt = (g : Int)) (hg : g < 4) (st : (wt_ga z 275 g).toInt = (t : Int)) (ht8 : t < 8) (hm : (wt_ga z 253 t).toInt = (m : Int)) (h2 : x2.toInt = (i : Int)) (him : i < m) (nt : ∀ l : Int, 0 ≤ l → l < 26 → wt_nt z t l ≤ wt_pc z g l) : wt_H (wp_pg_readAs n x1 x2 s) (fun q => wt_fr (fun _ _ => False) (fun i => i = 79 ∨ i = 80) s q.2 ∧ wu_rs s z t g i N q.1) := by
  have k0 : (0 : Int32).toInt = 0 := by decide
  obtain ⟨m', X1, X2, X3, X4, X5, -⟩ := X
  have em : m' = m := by rw [X2, X1] at hm; omega
  rw [em] at X1 X5 X4
  have pg : wt_ga s 43 g = wt_ga z 275 g := (sc.2.2.2 g hg).1
  unfold wp_pg_readAs
  refine wt_H_bh (wh_look n hn (k := g) hx (by rw [show wt_ln 43 = 4 from by decide]; exact hg)) (fun q hq => ?_)
  subst hq
  dsimp only
  refine wt_H_bh (wh_fillRow n) (fun s0 h0 => ?_)
  obtain ⟨f0, z0⟩ := h0
  -- what is alike stays alike
  have LC : ∀ σ, wt_fr (fun _ _ => False) (fun i => i = 79 ∨ i = 80) s σ → wu_LC σ z := fun σ f => wu_LC_fr lc f (wt_fr.rf (F := fun _ _ => False) (A := fun _ => False)) (fun h => h) (fun i hi => by (try dsimp only); omega) (fun h => h) (fun _ _ h => h)
  have SC : ∀ σ, wt_fr (fun _ _ => False) (fun i => i = 79 ∨ i = 80) s σ → wu_SC σ z := fun σ f => wu_SC_fr sc f (wt_fr.rf (F := fun _ _ => False) (A := fun _ => False)) (fun _ _ h => h) (fun _ _ h => h) (fun i p q => by (try dsimp only); omega) (fun _ _ h => h)
  -- the word at a place
  have WA : ∀ (σ : wt_St) (j : Nat) (x : Int32), wt_fr (fun _ _ => False) (fun i => i = 79 ∨ i = 80) s σ → x.toInt = (j : Int) → j < m → wt_H (wp_tx_wordAt n (wt_ga s 43 g) x σ) (fun q => q = (wt_ga z (255 + t) j, σ)) := fun σ j x f hj hjm => by
    refine (wh_wordAt n hn (t := t) (m := m) (by rw [pg]; exact st) ht8 (by rw [f.2 36 (by decide)]; exact X1) X4).imp (fun q hq => ?_)
    obtain ⟨a, b⟩ := hq
    rcases b with ⟨j', b1, b2, b3⟩ | ⟨b1, b2⟩
    · have e : j' = j := by omega
      rw [e, f.2 35 (by decide), (X5 j hjm).1] at b3
      exact Prod.ext b3 a
    · omega
  refine wt_H_it (fun a : Int32 × wt_St => (0 ≤ a.1.toInt ∧ a.1.toInt ≤ (i : Int)) ∧ wt_fr (fun _ _ => False) (fun i => i = 79 ∨ i = 80) s a.2 ∧ ∀ l : Nat, l < 26 → (wt_ga a.2 79 l).toInt = wu_su1 z t (Int32.toNatClampNeg a.1) (l : Int)) (fun K a I hK => ?_) n _ ⟨⟨by show 0 ≤ ((0 : Int32)).toInt; omega, by show ((0 : Int32)).toInt ≤ _; omega⟩, wt_frw f0 (fun i k h => h) (fun i h => Or.inl h), fun l hl => by show (wt_ga s0 79 l).toInt = wu_su1 z t (Int32.toNatClampNeg (0 : Int32)) (l : Int); rw [z0 l (by rw [show wt_ln 79 = 26 from by decide]; exact hl), wt_tn0]; exact k0⟩
  obtain ⟨⟨a1, a2⟩, af, a3⟩ := I
  have ea := wt_tnI a1
  unfold wp_pg_readAs_B23
  refine wt_H_if (fun c => ?_) (fun c => ?_)
  · have c' := wt_cle c
    have E : Int32.toNatClampNeg a.1 = i := by omega
    rw [E] at a3
    refine wt_H_bh (WA a.2 i x2 af h2 him) (fun q hq => ?_)
    subst hq
    dsimp only
    obtain ⟨y1, y2, y3⟩ := X5 i him
    rw [y1] at y2 y3
    have ew := wt_tnI y2
    obtain ⟨w, hw⟩ : ∃ w : Nat, w = wu_wd z t i := ⟨_, rfl⟩
    have hw' : Int32.toNatClampNeg (wt_ga z (255 + t) i) = w := hw.symm
    rw [hw'] at ew
    have hwN : w < N := by omega
    obtain ⟨l1, -, -, l2, -, l3⟩ := tt w hwN
    have l1' : wt_ga s 22 w = wt_ga z 126 w := l1
    have l2' : 1 ≤ (wt_ga z 126 w).toInt ∧ (wt_ga z 126 w).toInt ≤ 9 := by rw [← l1']; exact l2
    refine wt_H_bh (wh_look n hn (k := w) ew.symm (by rw [show wt_ln 22 = 60 from by decide]; omega)) (fun q hq => ?_)
    subst hq
    dsimp only
    rw [af.2 22 (by decide), l1']
    have el := wt_tnI (x := wt_ga z 126 w) (by omega)
    refine wt_H_it (fun b : Int32 × wt_St => (0 ≤ b.1.toInt ∧ b.1.toInt ≤ (wt_ga z 126 w).toInt) ∧ wt_fr (fun _ _ => False) (fun i => i = 79 ∨ i = 80) s b.2 ∧ (∀ l : Nat, l < 26 → (wt_ga b.2 79 l).toInt = wu_su1 z t i (l : Int) + wu_cw z w (Int32.toNatClampNeg b.1) (l : Int)) ∧ ∀ j : Nat, (j : Int) < b.1.toInt → wu_rh z t g i j (wt_ga b.2 80 j)) (fun K2 b I hK2 => ?_) n _ ⟨⟨by show 0 ≤ ((0 : Int32)).toInt; omega, by show ((0 : Int32)).toInt ≤ _; omega⟩, af, fun l hl => by rw [a3 l hl]; show wu_su1 z t i (l : Int) = wu_su1 z t i (l : Int) + wu_cw z w (Int32.toNatClampNeg (0 : Int32)) (l : Int); rw [wt_tn0]; show wu_su1 z t i (l : Int) = wu_su1 z t i (l : Int) + 0; omega, fun j hj => absurd (show (j : Int) < ((0 : Int32)).toInt from hj) (by omega)⟩
    obtain ⟨⟨b1, b2⟩, bf, b3, b4⟩ := I
    have eb := wt_tnI b1
    unfold wp_pg_readAs_B84
    refine wt_H_if (fun d => ?_) (fun d => ?_)
    · have d' := wt_cle d
      have E2 : b.1.toInt = (wt_ga z 126 w).toInt := by omega
      refine wt_H_bh (wh_find n hn (t0 := 20) (a1 := 80) (N := N) (m := Int32.toNatClampNeg (wt_ga z 126 w)) (by decide) (by decide) (by decide) (by rw [bf.1 20 6 (fun h => h)]; exact hN) hN6 el.symm (by omega)) (fun q hq => ?_)
      obtain ⟨e1, hq⟩ := hq
      refine wt_H_some ⟨by show wt_fr _ _ s q.2; rw [e1]; exact bf, fun k => wt_ga b.2 80 k, fun k hk => b4 k (by rw [← hw] at hk; omega), ?_⟩
      have P : ∀ u, u < N → (wt_sp b.2 20 80 (wt_ga z 126 w) (Int32.toNatClampNeg (wt_ga z 126 w)) u ↔ (wt_ga s 22 u = wt_ga z 126 (wu_wd z t i) ∧ ∀ k : Nat, (k : Int) < (wt_ga z 126 (wu_wd z t i)).toInt → wt_ga s 21 (9 * u + k) = wt_ga b.2 80 k)) := fun u hu => by
        unfold wt_sp
        rw [← hw, bf.2 (20 + 2) (by decide)]
        constructor
        · intro h
          exact ⟨h.1, fun k hk => by rw [← bf.2 21 (by decide)]; exact h.2 k (by omega)⟩
        · intro h
          exact ⟨h.1, fun k hk => by rw [bf.2 (20 + 1) (by decide)]; exact h.2 k (by omega)⟩
      show wt_fst N _ q.1
      rcases hq with ⟨u, p1, p2, p3, p4⟩ | ⟨p1, p2⟩
      · exact Or.inl ⟨u, p1, p2, (P u p1).mp p3, fun x hx' h => p4 x hx' ((P x (by omega)).mpr h)⟩
      · exact Or.inr ⟨p1, fun x hx' h => p2 x hx' ((P x hx').mpr h)⟩
    · have d' := wt_ncle d
      have ebi := wt_i1 (c := b.1) (by omega)
      have enb : Int32.toNatClampNeg (b.1 + (1 : Int32)) = Int32.toNatClampNeg b.1 + 1 := by have := wt_tnI (x := b.1 + (1 : Int32)) (by omega); omega
      obtain ⟨k, hk⟩ : ∃ k : Nat, k = Int32.toNatClampNeg b.1 := ⟨_, rfl⟩
      rw [← hk] at eb b3 enb
      obtain ⟨L, hL⟩ : ∃ L : Int32, L = wt_ga z (193 + w) k := ⟨_, rfl⟩
      obtain ⟨q1, q2, q3⟩ := l3 k (by show (k : Int) < (wt_ga s 22 w).toInt; rw [l1']; omega)
      have q1' : wt_ga s 21 (9 * w + k) = L := by rw [hL]; exact q1
      have gL : 0 ≤ L.toInt ∧ L.toInt ≤ 25 := by rw [← q1']; exact ⟨q2, q3⟩
      have eL := wt_tnI gL.1
      refine wt_H_bh (wh_letterAt n hn (t0 := 20) (by decide) ew.symm (by omega) (k := k) (by omega) (by omega)) (fun q hq => ?_)
      subst hq
      dsimp only
      rw [bf.2 (20 + 1) (by decide), show wt_ga s (20 + 1) (9 * w + k) = L from q1']
      refine wt_H_bh (wh_look n hn (k := Int32.toNatClampNeg L) eL.symm (by rw [show wt_ln 79 = 26 from by decide]; omega)) (fun q hq => ?_)
      subst hq
      dsimp only
      have b3L := b3 (Int32.toNatClampNeg L) (by omega)
      rw [eL] at b3L
      have S0 := wu_su1_bd z t i L.toInt v.1
      have C0 : 0 ≤ wu_cw z w k L.toInt ∧ wu_cw z w k L.toInt ≤ k := wt_ct_bd _ _ _
      have BD := wu_rh_bd (z := z) (t := t) (g := g) (i := i) (k := k) (m := m) (len := Int32.toNatClampNeg (wt_ga z 126 w)) (by rw [← hw, ← hL]; exact nt _ gL.1 (by omega)) hm him (by rw [← hw]; exact el.symm) (by omega) v.1
      rw [← hw, ← hL] at BD
      refine wt_H_bh (wh_readLetterR n hn v (LC b.2 bf) (SC b.2 bf) hx hg (by rw [st]; omega) (t := t) (i := i) (k := k) (by rw [← hw]; exact hL) (by rw [← hw]; exact b3L) (by omega) gL (by omega)) (fun q10 h10 => ?_)
      obtain ⟨e10, h10⟩ := h10
      rw [e10]
      refine wt_H_bh (wh_put n (k := k) (by omega) (by rw [show wt_ln 80 = 9 from by decide]; omega)) (fun s1 ε1 => ?_)
      refine wt_H_bh (wh_put n (k := Int32.toNatClampNeg L) eL.symm (by rw [show wt_ln 79 = 26 from by decide]; omega)) (fun s2 ε2 => ?_)
      have f1 := wt_fr_sa ε1
      have f2 := wt_fr_sa ε2
      refine hK2 _ ⟨⟨by show 0 ≤ (b.1 + (1 : Int32)).toInt; omega, by show (b.1 + (1 : Int32)).toInt ≤ _; omega⟩, (bf.sa ε1 (Or.inr rfl)).sa ε2 (Or.inl rfl), fun l hl => ?_, fun j hj => ?_⟩
      · show (wt_ga s2 79 l).toInt = wu_su1 z t i (l : Int) + wu_cw z w (Int32.toNatClampNeg (b.1 + (1 : Int32))) (l : Int)
        rw [enb]
        have ec : wu_cw z w (k + 1) (l : Int) = wu_cw z w k (l : Int) + if (wt_ga z (193 + w) k).toInt = (l : Int) then 1 else 0 := rfl
        rw [ec, ← hL]
        by_cases h : l = Int32.toNatClampNeg L
        · rw [if_pos (by omega), h, wt_v_sa ε2]
          have := wt_i1 (c := wt_ga b.2 79 (Int32.toNatClampNeg L)) (by omega)
          rw [eL]
          omega
        · rw [if_neg (by omega), wt_w_sa ε2 l h, f1.2 79 (by decide), b3 l hl]
          omega
      · have hj' : (j : Int) < (b.1 + (1 : Int32)).toInt := hj
        show wu_rh z t g i j (wt_ga s2 80 j)
        rw [f2.2 80 (by decide)]
        by_cases h : j = k
        · rw [h, wt_v_sa ε1]; exact h10
        · rw [wt_w_sa ε1 j h]; exact b4 j (by omega)
  · have c' := wt_ncle c
    have ei := wt_i1 (c := a.1) (by omega)
    have en : Int32.toNatClampNeg (a.1 + (1 : Int32)) = Int32.toNatClampNeg a.1 + 1 := by have := wt_tnI (x := a.1 + (1 : Int32)) (by omega); omega
    obtain ⟨j, hj⟩ : ∃ j : Nat, j = Int32.toNatClampNeg a.1 := ⟨_, rfl⟩
    rw [← hj] at ea a3 en
    have hjm : j < m := by omega
    refine wt_H_bh (WA a.2 j a.1 af ea.symm hjm) (fun q hq => ?_)
    subst hq
    dsimp only
    obtain ⟨y1, y2, y3⟩ := X5 j hjm
    rw [y1] at y2 y3
    have ew := wt_tnI y2
    obtain ⟨w, hw⟩ : ∃ w : Nat, w = wu_wd z t j := ⟨_, rfl⟩
    have hw' : Int32.toNatClampNeg (wt_ga z (255 + t) j) = w := hw.symm
    rw [hw'] at ew
    have hwN : w < N := by omega
    obtain ⟨l1, -, -, l2, -, l3⟩ := tt w hwN
    obtain ⟨ml, hml⟩ : ∃ ml : Nat, (ml : Int) = (wt_ga s (20 + 2) w).toInt := ⟨Int32.toNatClampNeg (wt_ga s (20 + 2) w), wt_tnI (by omega)⟩
    have S0 : ∀ l : Int, 0 ≤ wu_su1 z t j l ∧ wu_su1 z t j l ≤ 9 * j := fun l => wu_su1_bd z t j l v.1
    refine wt_H_bh (wh_countInto n hn (t0 := 20) (a2 := 79) (w := w) (m := ml) (c := 1000) (by decide) (by decide) (by decide) (by decide) (by decide) ew.symm (by omega) (by rw [af.2 (20 + 2) (by decide)]; exact hml.symm) (by omega) (fun k hk => by rw [af.2 (20 + 1) (by decide)]; exact (l3 k (by omega)).2) (fun l hl => by rw [a3 l hl]; have := S0 (l : Int); omega) (by omega)) (fun s1 h1 => ?_)
    obtain ⟨f1, n1⟩ := h1
    refine hK _ ⟨⟨by show 0 ≤ (a.1 + (1 : Int32)).toInt; omega, by show (a.1 + (1 : Int32)).toInt ≤ _; omega⟩, wt_fr.tr af f1 (fun i k h => h) (fun i h => Or.inl h), fun l hl => ?_⟩
    show (wt_ga s1 79 l).toInt = wu_su1 z t (Int32.toNatClampNeg (a.1 + (1 : Int32))) (l : Int)
    rw [en, wu_su1_s, n1 l hl, a3 l hl, ← hw, ← wt_nw_tt tt hwN hml.symm]
    have e : wt_ct (fun k => (wt_ga a.2 (20 + 1) (9 * w + k)).toInt) (l : Int) ml = wt_ct (fun k => (wt_ga s 21 (9 * w + k)).toInt) (l : Int) ml := wt_ct_congr ml (fun k _ => by show (wt_ga a.2 (20 + 1) (9 * w + k)).toInt = (wt_ga s (20 + 1) (9 * w + k)).toInt; rw [af.2 (20 + 1) (by decide)])
    rw [e]
/-- the same word is read on both sides -/
theorem wu_rs_rr {s z : wt_St} {t g i N : Nat} {x y : Int32} (tt : wt_tt 20 126 128 130 193 N s z) (h : wu_rs s z t g i N x) (h' : wu_rr z t g i N y) : x = y := by
  obtain ⟨R, r1, r2⟩ := h
  obtain ⟨R', r1', r2'⟩ := h'
  refine wt_fst_u r2 r2' (fun w hw => ?_)
  obtain ⟨l1, -, -, -, -, l3⟩ := tt w hw
  have l1' : wt_ga s 22 w = wt_ga z 126 w := l1
  rw [l1']
  constructor
  · intro h
    refine ⟨h.1, fun k hk => ?_⟩
    have a := (l3 k (by show (k : Int) < (wt_ga s 22 w).toInt; rw [l1', h.1]; exact hk)).1
    have a' : wt_ga s 21 (9 * w + k) = wt_ga z (193 + w) k := a
    rw [← a', h.2 k hk]
    exact wu_rh_u (r1 k hk) (r1' k hk)
  · intro h
    refine ⟨h.1, fun k hk => ?_⟩
    have a := (l3 k (by show (k : Int) < (wt_ga s 22 w).toInt; rw [l1', h.1]; exact hk)).1
    have a' : wt_ga s 21 (9 * w + k) = wt_ga z (193 + w) k := a
    rw [a', h.2 k hk]
    exact wu_rh_u (r1' k hk) (r1 k hk)
end WTQ1
-- 96g.page.lean.txt
section WTQ2
/-! read, page on both sides -/
theorem wt_H_and {α : Type} {p : Option α} {P Q : α → Prop} (h : wt_H p P) (h' : wt_H p Q) : wt_H p (fun a => P a ∧ Q a) := fun a e => ⟨h a e, h' a e⟩
/-- a page that stands: its text, the words -/
theorem wu_pgf {s z : wt_St} {g : Nat} (v : wt_IV z) (rl : wu_RL s z) (hg : g < 4) (st : (wt_ga z 275 g).toInt ≠ -1) : ∃ t m N : Nat, ((wt_ga z 275 g).toInt = (t : Int) ∧ t < 8) ∧ ((wt_ga z 253 t).toInt = (m : Int) ∧ 1 ≤ m ∧ m ≤ 12 ∧ wt_ga s 36 t = wt_ga z 253 t) ∧ wu_X1 s z t ∧ (∀ l : Int, 0 ≤ l → l < 26 → wt_nt z t l ≤ wt_pc z g l) ∧ ((wt_gf s 20 6).toInt = (N : Int) ∧ (wt_gf z 108 28).toInt = (N : Int) ∧ N ≤ 60) ∧ wt_tt 20 126 128 130 193 N s z := by
  obtain ⟨-, -, to, -, tx, -, -⟩ := rl
  obtain ⟨N, G, ⟨w1, w2, w3⟩, -, tt, -⟩ := to
  have h75 : -1 ≤ (wt_ga z 275 g).toInt ∧ (wt_ga z 275 g).toInt ≤ 7 := wt_Ra12 v.1 275 (show 275 ≤ 275 by omega) (show 275 < 276 by omega) g
  have hz : 0 ≤ (wt_gf z 108 39).toInt ∧ (wt_gf z 108 39).toInt ≤ 8 := wt_Rf7 v.1
  obtain ⟨p1, p2⟩ := v.2.2.1 g hg st
  have et := wt_tnI (x := wt_ga z 275 g) (by omega)
  have X := tx.2 (Int32.toNatClampNeg (wt_ga z 275 g)) (by omega)
  obtain ⟨m, m1, m2, m3, m4, m5, m6⟩ := X
  exact ⟨Int32.toNatClampNeg (wt_ga z 275 g), m, N, ⟨et.symm, by omega⟩, ⟨by rw [m2]; exact m1, m3, m4, m2.symm⟩, ⟨m, m1, m2, m3, m4, m5, m6⟩, p2, ⟨w1, w2, w3⟩, tt⟩
theorem wr_readStep (n : Nat) (hn : 4294967297 < n) {x1 x2 : Int32} {g t m i : Nat} {s z : wt_St} (v : wt_IV z) (rl : wu_RL s z) (hx : x1.toInt = (g : Int)) (hg : g < 4) (st : (wt_ga z 275 g).toInt = (t : Int)) (hm : (wt_ga z 253 t).toInt = (m : Int)) (h2 : x2.toInt = (i : Int)) (him : i < m) : wt_HH (wp_pg_readAs n x1 x2 s) (wp_md_readOf n x1 x2 z) (fun q y => q.1 = y.1 ∧ wt_fr (fun _ _ => False) (fun i => i = 79 ∨ i = 80) s q.2 ∧ wt_fr (fun _ _ => False) (fun i => i = 289 ∨ i = 290) z y.2 ∧ wt_RI y.2) := by
  have st' : (wt_ga z 275 g).toInt ≠ -1 := by omega
  obtain ⟨t', m', N, ⟨t1, t2⟩, -, X, nt, ⟨n1, n2, n3⟩, tt⟩ := wu_pgf v rl hg st'
  have e : t' = t := by omega
  rw [e] at t2 X nt
  have eg := wt_tnN hx
  have RM := (wq_md_readOf n hn x1 x2 z v.1 (by omega) (by omega) (by rw [eg]; exact st') (by omega) (by rw [eg, wt_tnN st]; omega) v.2.2.1).h
  refine wt_HH_of (wh_readAs n hn v n1 n2 n3 tt X rl.2.2.2.1 rl.2.2.2.2.2.1 hx hg st t2 hm h2 him nt) (wt_H_and (wh_readOf n v.1 hx hg st t2 hm h2 him nt n2 n3) RM) (fun q y hq hy => ⟨wu_rs_rr tt hq.2 hy.1.2, hq.1, hy.1.1, hy.2.2⟩)
theorem wr_read (n : Nat) (hn : 4294967297 < n) {x1 x2 : Int32} {s z : wt_St} (v : wt_IV z) (rl : wu_RL s z) : wt_HH (wp_ap_read n x1 x2 s) (wp_md_read n x1 x2 z) (fun q y => (q.1 = 2 ∧ wt_gf y.2 108 0 = 1) ∨ (q.1 = 0 ∧ wt_gf y.2 108 0 = 0 ∧ q.2.1 = y.1)) := by
  have k0 : (0 : Int32).toInt = 0 := by decide
  have k1 : (1 : Int32).toInt = 1 := by decide
  unfold wp_ap_read wp_md_read
  obtain ⟨z0, ε0⟩ : ∃ o : wt_St, o = wt_sf z 108 0 (0 : Int32) := ⟨_, rfl⟩
  rw [← ε0]
  have g0 := wt_fr_sf ε0
  have t0 : wt_gf z0 108 0 = 0 := wt_v_sf ε0
  have v0 : wt_IV z0 := wt_IV_fr v (wt_RI_fno v.1 ε0 (Or.inr (by decide +kernel))) g0 (by omega) (by omega) (fun i _ h => h)
  have rl0 := wu_RL_z0 rl v.1 g0
  have eP : ∀ g, g < 4 → wt_ga s 43 g = wt_ga z0 275 g := fun g hg => (rl0.2.2.2.2.2.1.2.2.2 g hg).1
  refine wr_gP n hn (wp_ap_read_B16 n x1 x2) (wp_md_read_B19 n x1 x2) eP (wr_mb1 n t0 (by decide) (Or.inl ⟨rfl, wt_v_sf rfl⟩)) (fun hx0 hx1 hst => wr_mb0 n t0 ?_)
  dsimp only
  have hx := (wt_tnI hx0).symm
  obtain ⟨g, hg⟩ : ∃ g : Nat, g = Int32.toNatClampNeg x1 := ⟨_, rfl⟩
  rw [← hg] at hx hst
  have hg4 : g < 4 := by omega
  obtain ⟨t, m, N, ⟨t1, t2⟩, ⟨m1, m2, m3, m4⟩, X, -, ⟨-, n2, n3⟩, -⟩ := wu_pgf v0 rl0 hg4 hst
  rw [← hg, wt_tnN t1]
  refine wt_HH_l (wh_look n hn (k := g) hx (by rw [show wt_ln 43 = 4 from by decide]; exact hg4)) (fun q hq => ?_)
  subst hq
  dsimp only
  rw [eP g hg4]
  refine wt_HH_l (wh_wordAt n hn (t := t) (m := m) t1 t2 (by rw [m4]; exact m1) m3) (fun q5 h5 => ?_)
  obtain ⟨e5, h5⟩ := h5
  rw [e5]
  refine wt_HH_gr (fun _ => wt_HH_gr (fun _ => ?_))
  have es := wt_subE (x := wt_ga z0 253 t) (y := (1 : Int32)) (by omega) (by omega)
  refine wt_HH_r (wh_in n) (fun y7 h7 => ?_)
  obtain ⟨e7, h7⟩ := h7
  rw [e7]
  rcases h5 with ⟨i, i1, i2, i3⟩ | ⟨i1, i2⟩
  · rcases h7 with ⟨-, j2⟩ | ⟨j1, -⟩
    · omega
    · have im' : ¬ q5.1 = (-1 : Int32) := by
        obtain ⟨m'', x1', x2', -, -, x5, -⟩ := X
        have em : m'' = m := by
          have := wt_ceq x2'
          omega
        have h0 := (x5 i (by omega)).2.1
        intro h
        rw [← i3, h, wt_lm1] at h0
        omega
      rw [if_neg im', if_neg (show ¬ y7.1 = 0 by rw [j1]; decide)]
      refine wt_HH_b (wr_readStep n hn v0 rl0 hx hg4 t1 m1 i1 i2) (fun a b hab => wt_HH_some (Or.inr ⟨rfl, ?_, hab.1⟩))
      show wt_gf b.2 108 0 = 0
      rw [hab.2.2.1.1 108 0 (fun h => h)]
      exact t0
  · rcases h7 with ⟨j1, -⟩ | ⟨-, j2, j3⟩
    · rw [if_pos i2, if_pos (show y7.1 = 0 from j1)]
      exact wt_HH_some (Or.inr ⟨rfl, t0, rfl⟩)
    · omega
theorem wh_faintOn (n : Nat) (hn : 4294967297 < n) {x : Int32} {s : wt_St} : wt_H (wp_pg_faintOn n x s) (fun q => q.2 = s ∧ q.1.toInt = wt_sum (fun c => if (wt_ga s 41 c).toInt = x.toInt then (if wt_ga s 40 c < wt_gf s 4 7 then 1 else 0) else 0) 312) := by
  have k0 : (0 : Int32).toInt = 0 := by decide
  have k1 : (1 : Int32).toInt = 1 := by decide
  have k312 : (312 : Int32).toInt = 312 := by decide
  unfold wp_pg_faintOn
  refine wt_H_it (fun t : Int32 × Int32 × wt_St => t.2.2 = s ∧ (0 ≤ t.2.1.toInt ∧ t.2.1.toInt ≤ 312) ∧ t.1.toInt = wt_sum (fun c => if (wt_ga s 41 c).toInt = x.toInt then (if wt_ga s 40 c < wt_gf s 4 7 then 1 else 0) else 0) (Int32.toNatClampNeg t.2.1) ∧ 0 ≤ t.1.toInt ∧ t.1.toInt ≤ t.2.1.toInt) (fun K t I hK => ?_) n _ ⟨rfl, ⟨by show 0 ≤ ((0 : Int32)).toInt; omega, by show ((0 : Int32)).toInt ≤ 312; omega⟩, by show ((0 : Int32)).toInt = wt_sum _ (Int32.toNatClampNeg (0 : Int32)); rw [wt_tn0]; exact k0, by show 0 ≤ ((0 : Int32)).toInt; omega, by show ((0 : Int32)).toInt ≤ ((0 : Int32)).toInt; omega⟩
  obtain ⟨i0, ⟨i1, i2⟩, i3, i4, i5⟩ := I
  have et := wt_tnI i1
  unfold wp_pg_faintOn_B4
  rw [i0]
  refine wt_H_if (fun c => ?_) (fun c => ?_)
  · have c' := wt_cle c
    refine wt_H_some ⟨rfl, ?_⟩
    show t.1.toInt = _
    rw [i3, show Int32.toNatClampNeg t.2.1 = 312 by omega]
  · have c' := wt_ncle c
    have ei := wt_i1 (c := t.2.1) (by omega)
    have en : Int32.toNatClampNeg (t.2.1 + (1 : Int32)) = Int32.toNatClampNeg t.2.1 + 1 := by have := wt_tnI (x := t.2.1 + (1 : Int32)) (by omega); omega
    have B : ∀ y : Int32, y.toInt = (if (wt_ga s 41 (Int32.toNatClampNeg t.2.1)).toInt = x.toInt then (if wt_ga s 40 (Int32.toNatClampNeg t.2.1) < wt_gf s 4 7 then 1 else 0) else 0) → 0 ≤ y.toInt → y.toInt ≤ 1 → wt_H (wp_pg_faintOn_B40 n x t.2.1 K t.1 y s) (fun q => q.2 = s ∧ q.1.toInt = wt_sum (fun c => if (wt_ga s 41 c).toInt = x.toInt then (if wt_ga s 40 c < wt_gf s 4 7 then 1 else 0) else 0) 312) := fun y hy y0 y1 => by
      have ea := wt_addE (x := t.1) (y := y) (by omega) (by omega)
      unfold wp_pg_faintOn_B40
      refine hK _ ⟨rfl, ⟨by show 0 ≤ (t.2.1 + (1 : Int32)).toInt; omega, by show (t.2.1 + (1 : Int32)).toInt ≤ 312; omega⟩, ?_, by show 0 ≤ (t.1 + y).toInt; omega, by show (t.1 + y).toInt ≤ (t.2.1 + (1 : Int32)).toInt; omega⟩
      show (t.1 + y).toInt = wt_sum _ (Int32.toNatClampNeg (t.2.1 + (1 : Int32)))
      rw [en, ea, i3, hy]
      rfl
    refine wt_H_bh (wh_look n hn (k := Int32.toNatClampNeg t.2.1) (by omega) (by rw [show wt_ln 41 = 312 from by decide]; omega)) (fun q hq => ?_)
    subst hq
    dsimp only
    refine wt_H_if (fun d => ?_) (fun d => ?_)
    · refine wt_H_bh (wh_isFaint n hn (j := Int32.toNatClampNeg t.2.1) (by omega) (by omega)) (fun q4 h4 => ?_)
      obtain ⟨e4, h4⟩ := h4
      rw [e4]
      unfold wp_pg_faintOn_B39
      rcases h4 with ⟨a, b⟩ | ⟨a, b⟩
      · rw [if_neg (show ¬ q4.1 = 0 by rw [a]; decide)]
        exact B 1 (by rw [if_pos (wt_ceq d), if_pos b]; exact k1) (by omega) (by omega)
      · rw [if_pos (show q4.1 = 0 from a)]
        exact B 0 (by rw [if_pos (wt_ceq d), if_neg b]; exact k0) (by omega) (by omega)
    · unfold wp_pg_faintOn_B39
      exact B 0 (by rw [if_neg (wt_nceq d)]; exact k0) (by omega) (by omega)
/-- the reference's two loops, when one alone is meant -/
theorem wh_page2 (n : Nat) {x1 : Int32} {g K : Nat} {z : wt_St} (hx : x1.toInt = (g : Int)) (hK : (wt_ga z 276 g).toInt = (K : Int)) (hK8 : K ≤ 108) : wt_H (wt_it (wp_md_page_B91 n x1 (2 : Int32)) n ((0 : Int32), (0 : Int32), z)) (fun y => y.2 = z ∧ y.1.toInt = wt_sum (fun k => if wt_ga z 121 (Int32.toNatClampNeg (wt_ga z (278 + g) k)) < wt_gf z 108 25 then 1 else 0) K) := by
  have k0 : (0 : Int32).toInt = 0 := by decide
  have k1 : (1 : Int32).toInt = 1 := by decide
  have eg := wt_tnN hx
  refine wt_H_it (fun t : Int32 × Int32 × wt_St => t.2.2 = z ∧ (0 ≤ t.2.1.toInt ∧ t.2.1.toInt ≤ (K : Int)) ∧ t.1.toInt = wt_sum (fun k => if wt_ga z 121 (Int32.toNatClampNeg (wt_ga z (278 + g) k)) < wt_gf z 108 25 then 1 else 0) (Int32.toNatClampNeg t.2.1) ∧ 0 ≤ t.1.toInt ∧ t.1.toInt ≤ t.2.1.toInt) (fun Kk t I hK' => ?_) n _ ⟨rfl, ⟨by show 0 ≤ ((0 : Int32)).toInt; omega, by show ((0 : Int32)).toInt ≤ _; omega⟩, by show ((0 : Int32)).toInt = wt_sum _ (Int32.toNatClampNeg (0 : Int32)); rw [wt_tn0]; exact k0, by show 0 ≤ ((0 : Int32)).toInt; omega, by show ((0 : Int32)).toInt ≤ ((0 : Int32)).toInt; omega⟩
  obtain ⟨i0, ⟨i1, i2⟩, i3, i4, i5⟩ := I
  have et := wt_tnI i1
  unfold wp_md_page_B91
  rw [i0, eg]
  refine wt_H_gd (fun _ => ?_)
  refine wt_H_if (fun c => ?_) (fun c => ?_)
  · have c' := wt_cle c
    have E : t.1.toInt = wt_sum (fun k => if wt_ga z 121 (Int32.toNatClampNeg (wt_ga z (278 + g) k)) < wt_gf z 108 25 then 1 else 0) K := by rw [i3, show Int32.toNatClampNeg t.2.1 = K by omega]
    unfold wp_md_page_B142
    refine wt_H_it (fun u : Int32 × Int32 × wt_St => u.2.2 = z ∧ u.1 = t.1) (fun K2 u J _ => ?_) n _ ⟨rfl, rfl⟩
    obtain ⟨j1, j2⟩ := J
    unfold wp_md_page_B145
    rw [j1, j2]
    refine wt_H_gd (fun _ => wt_H_gd (fun _ => wt_H_if (fun _ => wt_H_some ⟨rfl, E⟩) (fun _ => ?_)))
    rw [if_neg (show ¬ (2 : Int32) = (4 : Int32) by decide)]
    exact wt_H_some ⟨rfl, E⟩
  · have c' := wt_ncle c
    have ei := wt_i1 (c := t.2.1) (by omega)
    have en : Int32.toNatClampNeg (t.2.1 + (1 : Int32)) = Int32.toNatClampNeg t.2.1 + 1 := by have := wt_tnI (x := t.2.1 + (1 : Int32)) (by omega); omega
    rw [if_pos (show (2 : Int32) = (2 : Int32) from rfl)]
    refine wt_H_gd (fun _ => wt_H_gd (fun _ => ?_))
    unfold wp_md_page_B134
    have B : ∀ y : Int32, y.toInt = (if wt_ga z 121 (Int32.toNatClampNeg (wt_ga z (278 + g) (Int32.toNatClampNeg t.2.1))) < wt_gf z 108 25 then 1 else 0) → 0 ≤ y.toInt → y.toInt ≤ 1 → wt_H (Kk ((t.1 + y), (t.2.1 + (1 : Int32)), z)) (fun y => y.2 = z ∧ y.1.toInt = wt_sum (fun k => if wt_ga z 121 (Int32.toNatClampNeg (wt_ga z (278 + g) k)) < wt_gf z 108 25 then 1 else 0) K) := fun y hy y0 y1 => by
      have ea := wt_addE (x := t.1) (y := y) (by omega) (by omega)
      refine hK' _ ⟨rfl, ⟨by show 0 ≤ (t.2.1 + (1 : Int32)).toInt; omega, by show (t.2.1 + (1 : Int32)).toInt ≤ _; omega⟩, ?_, by show 0 ≤ (t.1 + y).toInt; omega, by show (t.1 + y).toInt ≤ (t.2.1 + (1 : Int32)).toInt; omega⟩
      show (t.1 + y).toInt = wt_sum _ (Int32.toNatClampNeg (t.2.1 + (1 : Int32)))
      rw [en, ea, i3, hy]
      rfl
    refine wt_H_gd (fun _ => ?_)
    refine wt_H_if (fun d => B 0 ?_ (by omega) (by omega)) (fun d => B 1 ?_ (by omega) (by omega))
    · rw [if_neg (show ¬ wt_ga z 121 (Int32.toNatClampNeg (wt_ga z (278 + g) (Int32.toNatClampNeg t.2.1))) < wt_gf z 108 25 from fun h => by have := wt_clt h; have := wt_cle d; omega)]
      exact k0
    · rw [if_pos (show wt_ga z 121 (Int32.toNatClampNeg (wt_ga z (278 + g) (Int32.toNatClampNeg t.2.1))) < wt_gf z 108 25 from Int32.lt_iff_toInt_lt.mpr (wt_ncle d))]
      exact k1
/-- misread words, in step -/
theorem wr_misread (n : Nat) (hn : 4294967297 < n) {x1 : Int32} {g : Nat} {s z : wt_St} (v : wt_IV z) (rl : wu_RL s z) (hx : x1.toInt = (g : Int)) (hg : g < 4) (st : (wt_ga z 275 g).toInt ≠ -1) : wt_HH (wp_pg_misreadOn n x1 s) (wt_it (wp_md_page_B145 n x1 (4 : Int32)) n ((0 : Int32), (0 : Int32), z)) (fun q y => q.1 = y.1 ∧ wt_fr (fun _ _ => False) (fun i => i = 289 ∨ i = 290) z y.2) := by
  have k0 : (0 : Int32).toInt = 0 := by decide
  have k12 : (12 : Int32).toInt = 12 := by decide
  have eg := wt_tnN hx
  obtain ⟨t, m, N, ⟨t1, t2⟩, ⟨m1, m2, m3, m4⟩, X, -, -, -⟩ := wu_pgf v rl hg st
  have et := wt_tnN t1
  have eP : wt_ga s 43 g = wt_ga z 275 g := (rl.2.2.2.2.2.1.2.2.2 g hg).1
  unfold wp_pg_misreadOn
  refine wt_HH_l (wh_look n hn (k := g) hx (by rw [show wt_ln 43 = 4 from by decide]; exact hg)) (fun q hq => ?_)
  subst hq
  dsimp only
  rw [eP]
  refine wt_HH_it (fun a b : Int32 × Int32 × wt_St => a.1 = b.1 ∧ a.2.1 = b.2.1 ∧ wt_fr (fun _ _ => False) (fun i => i = 79 ∨ i = 80) s a.2.2 ∧ wt_fr (fun _ _ => False) (fun i => i = 289 ∨ i = 290) z b.2.2 ∧ wt_RI b.2.2 ∧ 0 ≤ b.2.1.toInt) (fun K K' a b I hK => ?_) n n _ _ ⟨rfl, rfl, wt_fr.rf, wt_fr.rf, v.1, by show 0 ≤ ((0 : Int32)).toInt; omega⟩
  obtain ⟨i1, i2, f, f', ri, i5⟩ := I
  have etb := wt_tnI i5
  unfold wp_pg_misreadOn_B17 wp_md_page_B145 wp_tx_lengthOf
  rw [i1, i2, eg, f'.2 275 (by decide), et, f'.2 253 (by decide)]
  simp only [Option.bind_assoc]
  refine wt_HH_l (wh_look n hn (k := t) t1 (by rw [show wt_ln 36 = 8 from by decide]; exact t2)) (fun q hq => ?_)
  subst hq
  show wt_HH (if wt_ga a.2.2 36 t ≤ b.2.1 then _ else _) _ _
  rw [f.2 36 (by decide), m4]
  refine wt_HH_gr (fun _ => wt_HH_gr (fun _ => ?_))
  refine wt_HH_il (fun c => ?_) (fun c => ?_)
  · rw [if_pos c]
    exact wt_HH_some ⟨rfl, f'⟩
  · rw [if_neg c]
    first | rw [if_pos (show (4 : Int32) = (4 : Int32) from rfl)] | rw [if_pos trivial]
    dsimp only
    have c' := wt_ncle c
    have ei := wt_i1 (c := b.2.1) (by omega)
    have rl' : wu_RL a.2.2 b.2.2 := wu_RL_fr rl v.1 f f' (fun i k _ h => h) (fun i hi => by unfold wu_RA at hi; (try dsimp only); omega) (fun _ _ h => h) (fun i hi => by unfold wu_RB at hi; (try dsimp only); omega)
    have v' : wt_IV b.2.2 := wt_IV_fr v ri f' (fun h => h) (fun h => h) (fun i hi => by unfold wt_PA at hi; (try dsimp only); omega)
    refine wt_HH_b (wr_readStep n hn v' rl' hx hg (t := t) (m := m) (i := Int32.toNatClampNeg b.2.1) (by rw [f'.2 275 (by decide)]; exact t1) (by rw [f'.2 253 (by decide)]; exact m1) etb.symm (by omega)) (fun q y h => ?_)
    obtain ⟨e, fq, fy, ry⟩ := h
    have F := wt_fr.tr f fq (fun i k h => h) (fun i h => h)
    have F' := wt_fr.tr f' fy (fun i k h => h) (fun i h => h)
    rw [F'.2 275 (by decide), et, F'.2 (255 + t) (by (try dsimp only); omega), e]
    refine wt_HH_l (wh_wordAt n hn (t := t) (m := m) t1 t2 (by rw [F.2 36 (by decide), m4]; exact m1) m3) (fun q5 h5 => ?_)
    obtain ⟨e5, h5⟩ := h5
    rw [e5]
    have w : q5.1 = wt_ga z (255 + t) (Int32.toNatClampNeg b.2.1) := by
      rcases h5 with ⟨j, j1, j2, j3⟩ | ⟨j1, -⟩
      · obtain ⟨mm, xx1, -, -, -, x5, -⟩ := X
        have e' : j = Int32.toNatClampNeg b.2.1 := by omega
        rw [m4] at xx1
        rw [j3, F.2 35 (by decide), e']
        exact (x5 _ (by omega)).1
      · omega
    rw [w]
    refine wt_HH_gr (fun _ => wt_HH_gr (fun _ => wt_HH_gr (fun _ => ?_)))
    unfold wp_pg_misreadOn_B56 wp_md_page_B196
    refine wt_HH_il (fun d => ?_) (fun d => ?_)
    · rw [if_pos d]
      exact hK _ _ ⟨rfl, rfl, F, F', ry, by show 0 ≤ (b.2.1 + (1 : Int32)).toInt; omega⟩
    · rw [if_neg d]
      exact hK _ _ ⟨rfl, rfl, F, F', ry, by show 0 ≤ (b.2.1 + (1 : Int32)).toInt; omega⟩
theorem wt_HH_lm {α α' β : Type} {x : Option α} {f : α → α'} {y : Option β} {P : α → β → Prop} {Q : α' → β → Prop} (h : wt_HH x y P) (k : ∀ a b, P a b → Q (f a) b) : wt_HH (x.bind fun a => some (f a)) y Q := by
  intro u b hu hb
  cases hx : x with
  | none => rw [hx] at hu; cases hu
  | some a =>
    rw [hx] at hu
    cases hu
    exact k a b (h a b hx hb)
set_option maxHeartbeats 4000000 in
theorem wr_page (n : Nat) (hn : 4294967297 < n) {x1 x2 : Int32} {s z : wt_St} (v : wt_IV z) (rl : wu_RL s z) : wt_HH (wp_ap_page n x1 x2 s) (wp_md_page n x1 x2 z) (fun q y => (q.1 = 2 ∧ wt_gf y.2 108 0 = 1) ∨ (q.1 = 1 ∧ wt_gf y.2 108 0 = 2) ∨ (q.1 = 0 ∧ wt_gf y.2 108 0 = 0 ∧ q.2.1 = y.1)) := by
  have k0 : (0 : Int32).toInt = 0 := by decide
  have k4 : (4 : Int32).toInt = 4 := by decide
  unfold wp_ap_page wp_md_page
  obtain ⟨z0, ε0⟩ : ∃ o : wt_St, o = wt_sf z 108 0 (0 : Int32) := ⟨_, rfl⟩
  rw [← ε0]
  have g0 := wt_fr_sf ε0
  have t0 : wt_gf z0 108 0 = 0 := wt_v_sf ε0
  have v0 : wt_IV z0 := wt_IV_fr v (wt_RI_fno v.1 ε0 (Or.inr (by decide +kernel))) g0 (by omega) (by omega) (fun i _ h => h)
  have rl0 := wu_RL_z0 rl v.1 g0
  have sc0 : wu_SC s z0 := rl0.2.2.2.2.2.1
  have eP : ∀ g, g < 4 → wt_ga s 43 g = wt_ga z0 275 g := fun g hg => (sc0.2.2.2 g hg).1
  refine wr_gP n hn (wp_ap_page_B16 n x1 x2) (wp_md_page_B19 n x1 x2) eP (wr_mb1 n t0 (by decide) (Or.inl ⟨rfl, wt_v_sf rfl⟩)) (fun hx0 hx1 hst => wr_mb0 n t0 ?_)
  dsimp only
  have hx := (wt_tnI hx0).symm
  obtain ⟨g, hg⟩ : ∃ g : Nat, g = Int32.toNatClampNeg x1 := ⟨_, rfl⟩
  rw [← hg] at hx hst
  have hg4 : g < 4 := by omega
  refine wt_HH_r (wh_in n) (fun y2 h2 => ?_)
  obtain ⟨e2, b2⟩ := h2
  rw [e2]
  rcases b2 with ⟨d1, d2⟩ | ⟨d1, d2, d3⟩
  · have no : ∀ k : Int32, 0 ≤ k.toInt → k.toInt ≤ 4 → ¬ x2 = k := fun k h0 h4 h => by rw [h] at d2; omega
    rw [if_pos (show y2.1 = 0 from d1), if_neg (no 0 (by decide) (by decide)), if_neg (no 1 (by decide) (by decide)), if_neg (no 2 (by decide) (by decide)), if_neg (no 3 (by decide) (by decide)), if_neg (no 4 (by decide) (by decide))]
    exact wt_HH_rr (P' := fun y => wt_gf y.2 108 0 = 2) (wh_b1 n t0 (by decide) (wt_v_sf rfl)) (fun y hy => wt_H_some (Or.inr (Or.inl ⟨rfl, hy⟩)))
  · rw [if_neg (show ¬ y2.1 = 0 by rw [d1]; decide)]
    refine wr_b0 n t0 ?_
    dsimp only
    rw [← hg]
    have hK : 0 ≤ (wt_ga z0 276 g).toInt ∧ (wt_ga z0 276 g).toInt ≤ 108 := wt_Ra13 v0.1 276 (show 276 ≤ 276 by omega) (show 276 < 277 by omega) g
    have eK := wt_tnI hK.1
    have M1 := wu_pm1 v0 sc0 hg4 hst
    have M2 := wu_pm2 v0 sc0 hg4 hst
    have A : ∀ (w : Int32) (y : Int32 × wt_St), w = y.1 → wt_gf y.2 108 0 = 0 → ((0 : Nat) = 2 ∧ wt_gf y.2 108 0 = 1) ∨ ((0 : Nat) = 1 ∧ wt_gf y.2 108 0 = 2) ∨ ((0 : Nat) = 0 ∧ wt_gf y.2 108 0 = 0 ∧ w = y.1) := fun w y h1 h2 => Or.inr (Or.inr ⟨rfl, h2, h1⟩)
    refine wt_HH_il (fun c => ?_) (fun c => ?_)
    · subst c
      rw [if_neg (show ¬ (2 : Int32) ≤ 0 by decide), if_pos (show (0 : Int32) = 0 from rfl)]
      refine wt_HH_l (wh_look n hn (k := g) hx (by rw [show wt_ln 43 = 4 from by decide]; exact hg4)) (fun q hq => ?_)
      subst hq
      exact wt_HH_gr (fun _ => wt_HH_some (A _ _ (eP g hg4) t0))
    refine wt_HH_il (fun c1 => ?_) (fun c1 => ?_)
    · subst c1
      rw [if_neg (show ¬ (2 : Int32) ≤ 1 by decide), if_neg (show ¬ (1 : Int32) = 0 by decide)]
      refine wt_HH_l (wh_piecesOn n hn) (fun q hq => ?_)
      refine wt_HH_gr (fun _ => wt_HH_some (A _ _ (wt_eqI ?_) t0))
      show q.1.toInt = (wt_ga z0 276 g).toInt
      rw [hq.2, hx]
      have P := wu_pageSum v0 sc0 hg4 hst (fun _ => 1)
      rw [wt_sum_all (f := fun _ => (1 : Int)) (Int32.toNatClampNeg (wt_ga z0 276 g)) (fun _ _ => rfl)] at P
      omega
    refine wt_HH_il (fun c2 => ?_) (fun c2 => ?_)
    · subst c2
      rw [if_pos (show (2 : Int32) ≤ 2 by decide), if_neg (show ¬ (2 : Int32) = 3 by decide)]
      refine wt_HH_rr (wh_page2 n hx (K := Int32.toNatClampNeg (wt_ga z0 276 g)) eK.symm (by omega)) (fun y hy => ?_)
      refine wt_H_bh (wh_faintOn n hn) (fun q hq => wt_H_some (A _ _ (wt_eqI ?_) (by rw [hy.1]; exact t0)))
      rw [hq.2, hy.2, hx]
      have P := wu_pageSum v0 sc0 hg4 hst (fun c => if wt_ga s 40 c < wt_gf s 4 7 then 1 else 0)
      refine P.trans (wt_sum_congr _ (fun k hk => ?_))
      obtain ⟨l, i, l1, l2, l12, l3, l4, l5, l6, l7, -⟩ := M1 k (by omega)
      show (if wt_ga s 40 (wu_pp (wt_ga z0 (278 + g) k)) < wt_gf s 4 7 then (1 : Int) else 0) = if wt_ga z0 121 (Int32.toNatClampNeg (wt_ga z0 (278 + g) k)) < wt_gf z0 108 25 then 1 else 0
      rw [l7, l6, l3, rl0.2.2.2.1.2.2.2.2.2]
    refine wt_HH_il (fun c3 => ?_) (fun c3 => ?_)
    · subst c3
      rw [if_pos (show (2 : Int32) ≤ 3 by decide), if_pos (show (3 : Int32) = 3 from rfl)]
      refine wt_HH_l (wh_leastLeftOn n hn) (fun q hq => ?_)
      refine wt_HH_r (wh_leastOf n (g := g) hx hK.2) (fun y hy => wt_HH_some (A _ _ (wt_eqI ?_) (by show wt_gf y.2 108 0 = 0; rw [hy.1]; exact t0)))
      obtain ⟨-, p1, p2, p3⟩ := hq
      obtain ⟨-, q1, q2, q3⟩ := hy
      have h4 : ∀ c, 0 ≤ (wt_ga z0 121 c).toInt ∧ (wt_ga z0 121 c).toInt ≤ 400 := fun c => wt_Ra3 v0.1 121 (show 120 ≤ 121 by omega) (show 121 < 122 by omega) c
      -- the page has a piece
      obtain ⟨t, m, N, ⟨u1, u2⟩, -, X, nt, -, -⟩ := wu_pgf v0 rl0 hg4 hst
      obtain ⟨L, L1, L2⟩ := wu_nt_pos rl0.2.2.1 X
      have L3 := nt (L : Int) (by omega) (by omega)
      have L4 := wt_ct_bd (fun k => (wt_ga z0 (278 + g) k).toInt / 13) (L : Int) (Int32.toNatClampNeg (wt_ga z0 276 g))
      have L5 : wt_pc z0 g (L : Int) = wt_ct (fun k => (wt_ga z0 (278 + g) k).toInt / 13) (L : Int) (Int32.toNatClampNeg (wt_ga z0 276 g)) := rfl
      -- piece by piece
      have fw : ∀ k : Nat, (k : Int) < (wt_ga z0 276 g).toInt → q.1.toInt ≤ (wt_ga z0 121 (Int32.toNatClampNeg (wt_ga z0 (278 + g) k))).toInt := fun k hk => by
        obtain ⟨l, i, l1, l2, l12, l3, l4, l5, l6, l7, -⟩ := M1 k hk
        have a := p3 (12 * l + i) (by omega) (by show (wt_ga s 41 (12 * l + i)).toInt = x1.toInt; rw [l5, hx])
        have a' : q.1.toInt ≤ (wt_ga s 40 (12 * l + i)).toInt := a
        rw [l3, ← l6]
        exact a'
      have bw : ∀ c, c < 312 → (wt_ga s 41 c).toInt = x1.toInt → y.1.toInt ≤ (wt_ga s 40 c).toInt := fun c hc hp => by
        obtain ⟨l, i, k, l1, l2, l3, l4, l5⟩ := M2 c hc (by rw [hp, hx])
        have mm := v0.2.1 l
        have a := q3 k (by omega) trivial
        have a' : y.1.toInt ≤ (wt_ga z0 121 (Int32.toNatClampNeg (wt_ga z0 (278 + g) k))).toInt := a
        rw [l5, ← ((sc0.2.2.1 l l1).1 i l2).1] at a'
        rw [l3]
        exact a'
      have f0 := fw 0 (by omega)
      have h40 := h4 (Int32.toNatClampNeg (wt_ga z0 (278 + g) 0))
      show q.1.toInt = y.1.toInt
      rcases p1 with p1 | ⟨c, c1, c2, c3⟩
      · omega
      · have b := bw c c1 c2
        have c3' : q.1.toInt = (wt_ga s 40 c).toInt := c3
        rcases q1 with q1 | ⟨k, k1, -, k3⟩
        · omega
        · have k3' : y.1.toInt = (wt_ga z0 121 (Int32.toNatClampNeg (wt_ga z0 (278 + g) k))).toInt := k3
          have := fw k (by omega)
          omega
    refine wt_HH_il (fun c4 => ?_) (fun c4 => ?_)
    · subst c4
      rw [if_pos (show (2 : Int32) ≤ 4 by decide), if_neg (show ¬ (4 : Int32) = 3 by decide)]
      refine wt_HH_itr (fun u : Int32 × Int32 × wt_St => u = ((0 : Int32), (0 : Int32), z0)) (fun K u J _ => ?_) n _ rfl
      subst J
      have Z : wt_HH ((wp_pg_misreadOn n x1 s).bind fun q13 => some ((0 : Nat), q13.1, q13.2)) (wp_md_page_B142 n x1 (4 : Int32) (0 : Int32) z0) (fun q y => (q.1 = 2 ∧ wt_gf y.2 108 0 = 1) ∨ (q.1 = 1 ∧ wt_gf y.2 108 0 = 2) ∨ (q.1 = 0 ∧ wt_gf y.2 108 0 = 0 ∧ q.2.1 = y.1)) := by
        unfold wp_md_page_B142
        exact wt_HH_lm (wr_misread n hn v0 rl0 hx hg4 hst) (fun a b h => A _ _ h.1 (by rw [h.2.1 108 0 (fun h => h)]; exact t0))
      unfold wp_md_page_B91
      dsimp only
      refine wt_HH_gr (fun _ => wt_HH_ir (fun _ => Z) (fun _ => ?_))
      rw [if_neg (show ¬ (4 : Int32) = 2 by decide)]
      exact Z
    · have n0 : ∀ k : Int32, ¬ x2 = k → x2.toInt ≠ k.toInt := fun k h e => h (wt_eqI e)
      have m0 := n0 0 c
      have m1 := n0 1 c1
      have m2 := n0 2 c2
      have m3 := n0 3 c3
      have m4 := n0 4 c4
      have k1 : (1 : Int32).toInt = 1 := by decide
      have k2 : (2 : Int32).toInt = 2 := by decide
      have k3 : (3 : Int32).toInt = 3 := by decide
      omega
end WTQ2
-- 96h.back.lean.txt
section WTQ3
/-! what the reference tries and takes back: its pieces lie and are as before -/
theorem wh_nextPieceR (n : Nat) {x1 x2 : Int32} {z : wt_St} : wt_H (wp_md_nextPiece n x1 x2 z) (fun q => q.2 = z ∧ (q.1 = (-1 : Int32) ∨ wt_ga z 124 (Int32.toNatClampNeg q.1) = (-1 : Int32))) := by
  unfold wp_md_nextPiece
  refine wt_H_it (fun t : Int32 × Int32 × wt_St => t.2.2 = z ∧ (t.1 = (-1 : Int32) ∨ wt_ga z 124 (Int32.toNatClampNeg t.1) = (-1 : Int32))) (fun K t I hK => ?_) n _ ⟨rfl, Or.inl rfl⟩
  obtain ⟨i0, i1⟩ := I
  unfold wp_md_nextPiece_B5
  rw [i0]
  refine wt_H_gd (fun _ => ?_)
  refine wt_H_if (fun _ => wt_H_some ⟨rfl, i1⟩) (fun _ => ?_)
  have CE : wt_H (wp_md_cell n x1 t.2.1 z) (fun q => q.2 = z) := by
    unfold wp_md_cell
    exact wt_H_some rfl
  refine wt_H_bh CE (fun q3 h3 => ?_)
  rw [h3]
  unfold wp_md_nextPiece_B96 wp_md_nextPiece_B99
  refine wt_H_gd (fun _ => wt_H_if (fun c => ?_) (fun _ => hK _ ⟨rfl, i1⟩))
  have O : wt_H (K (q3.1, (t.2.1 + (1 : Int32)), z)) (fun q => q.2 = z ∧ (q.1 = (-1 : Int32) ∨ wt_ga z 124 (Int32.toNatClampNeg q.1) = (-1 : Int32))) := hK _ ⟨rfl, Or.inr c⟩
  have S : wt_H (K (t.1, (t.2.1 + (1 : Int32)), z)) (fun q => q.2 = z ∧ (q.1 = (-1 : Int32) ∨ wt_ga z 124 (Int32.toNatClampNeg q.1) = (-1 : Int32))) := hK _ ⟨rfl, i1⟩
  refine wt_H_gd (fun _ => wt_H_if (fun _ => wt_H_if (fun _ => O) (fun _ => ?_)) (fun _ => S))
  exact wt_H_if (fun _ => wt_H_gd (fun _ => wt_H_gd (fun _ => wt_H_if (fun _ => S) (fun _ => O)))) (fun _ => wt_H_gd (fun _ => wt_H_gd (fun _ => wt_H_if (fun _ => S) (fun _ => O))))
/-- taken so far: which cells lie elsewhere now -/
def wu_tkR (x : Int32) (z y : wt_St) : Prop := (∀ c, wt_ga y 124 c = wt_ga z 124 c ∨ (wt_ga z 124 c = (-1 : Int32) ∧ wt_ga y 124 c = x ∧ ∃ k : Nat, (k : Int) < (wt_gf y 108 54).toInt ∧ Int32.toNatClampNeg (wt_ga y 288 k) = c)) ∧ (∀ k : Nat, (k : Int) < (wt_gf y 108 54).toInt → wt_ga z 124 (Int32.toNatClampNeg (wt_ga y 288 k)) = (-1 : Int32)) ∧ 0 ≤ (wt_gf y 108 54).toInt
set_option maxHeartbeats 4000000 in
theorem wh_takesR (n : Nat) (hn : 4294967297 < n) {x1 x2 : Int32} {z : wt_St} (r : wt_RI z) : wt_H (wp_md_takes n x1 x2 z) (fun q => (q.1 = 0 ∧ q.2 = z) ∨ (q.1 = 1 ∧ wu_tkR x2 z q.2)) := by
  have k0 : (0 : Int32).toInt = 0 := by decide
  unfold wp_md_takes
  refine wt_H_bh (wh_lackingM n hn r) (fun q1 h1 => ?_)
  rw [h1.1]
  refine wt_H_if (fun _ => ?_) (fun _ => wt_H_some (Or.inl ⟨rfl, rfl⟩))
  obtain ⟨z1, ε⟩ : ∃ o : wt_St, o = wt_sf z 108 54 (0 : Int32) := ⟨_, rfl⟩
  rw [← ε]
  have f := wt_fr_sf ε
  have v54 : wt_gf z1 108 54 = 0 := wt_v_sf ε
  have I0 : wu_tkR x2 z z1 := ⟨fun c => Or.inl (f.2 124 (fun h => h) c), fun k hk => by rw [v54, k0] at hk; omega, by rw [v54, k0]; exact Int.le_refl _⟩
  refine wt_H_it (fun t : Int32 × wt_St => wu_tkR x2 z t.2) (fun K t I hK => ?_) n _ I0
  unfold wp_md_takes_B18
  refine wt_H_if (fun _ => wt_H_some (Or.inr ⟨rfl, I⟩)) (fun _ => ?_)
  refine wt_H_it (fun u : Int32 × wt_St => wu_tkR x2 z u.2) (fun K2 u J hK2 => ?_) n _ I
  unfold wp_md_takes_B27
  refine wt_H_gd (fun _ => wt_H_if (fun _ => hK _ J) (fun _ => ?_))
  refine wt_H_bh (wh_nextPieceR n) (fun q6 h6 => ?_)
  obtain ⟨e6, h6⟩ := h6
  rw [e6]
  refine wt_H_gd (fun gd => ?_)
  have g6 := wt_ixn gd
  rcases h6 with h6 | h6
  · rw [h6, wt_lm1] at g6
    omega
  obtain ⟨s1, ε1⟩ : ∃ o : wt_St, o = wt_sa u.2 124 (Int32.toNatClampNeg q6.1) x2 := ⟨_, rfl⟩
  rw [← ε1]
  have f1 := wt_fr_sa ε1
  have c54 : wt_gf s1 108 54 = wt_gf u.2 108 54 := f1.1 108 54 (fun h => h)
  rw [c54]
  refine wt_H_gd (fun gd2 => ?_)
  have g7 := wt_ixn gd2
  have e54 := wt_tnI g7.1
  obtain ⟨s2, ε2⟩ : ∃ o : wt_St, o = wt_sa s1 288 (Int32.toNatClampNeg (wt_gf u.2 108 54)) q6.1 := ⟨_, rfl⟩
  rw [← ε2]
  have f2 := wt_fr_sa ε2
  rw [f2.1 108 54 (fun h => h), c54]
  obtain ⟨s3, ε3⟩ : ∃ o : wt_St, o = wt_sf s2 108 54 ((wt_gf u.2 108 54) + (1 : Int32)) := ⟨_, rfl⟩
  rw [← ε3]
  have f3 := wt_fr_sf ε3
  have n54 : wt_gf s3 108 54 = (wt_gf u.2 108 54) + (1 : Int32) := wt_v_sf ε3
  have ei := wt_i1 (c := wt_gf u.2 108 54) (by omega)
  obtain ⟨J1, J2, J3⟩ := J
  have a124 : ∀ c, wt_ga s3 124 c = wt_ga s1 124 c := fun c => (f3.2 124 (fun h => h) c).trans (f2.2 124 (by decide) c)
  have a288 : ∀ k : Nat, k ≠ Int32.toNatClampNeg (wt_gf u.2 108 54) → wt_ga s3 288 k = wt_ga u.2 288 k := fun k hk => (f3.2 288 (fun h => h) k).trans ((wt_w_sa ε2 k hk).trans (f1.2 288 (by decide) k))
  have b288 : wt_ga s3 288 (Int32.toNatClampNeg (wt_gf u.2 108 54)) = q6.1 := (f3.2 288 (fun h => h) _).trans (wt_v_sa ε2)
  have z6 : wt_ga z 124 (Int32.toNatClampNeg q6.1) = (-1 : Int32) := by
    rcases J1 (Int32.toNatClampNeg q6.1) with h | ⟨h, -⟩
    · rw [← h]; exact h6
    · exact h
  refine hK2 _ ⟨fun c => ?_, fun k hk => ?_, ?_⟩
  · show wt_ga s3 124 c = wt_ga z 124 c ∨ (wt_ga z 124 c = (-1 : Int32) ∧ wt_ga s3 124 c = x2 ∧ ∃ k : Nat, (k : Int) < (wt_gf s3 108 54).toInt ∧ Int32.toNatClampNeg (wt_ga s3 288 k) = c)
    by_cases h : c = Int32.toNatClampNeg q6.1
    · refine Or.inr ⟨by rw [h]; exact z6, by rw [a124, h]; exact wt_v_sa ε1, Int32.toNatClampNeg (wt_gf u.2 108 54), by rw [n54]; omega, by rw [b288, h]⟩
    · rw [a124, wt_w_sa ε1 c h]
      rcases J1 c with j | ⟨j1, j2, k, j3, j4⟩
      · exact Or.inl j
      · exact Or.inr ⟨j1, j2, k, by rw [n54]; omega, by rw [a288 k (by omega)]; exact j4⟩
  · have hk' : (k : Int) < (wt_gf s3 108 54).toInt := hk
    rw [n54] at hk'
    show wt_ga z 124 (Int32.toNatClampNeg (wt_ga s3 288 k)) = (-1 : Int32)
    by_cases h : k = Int32.toNatClampNeg (wt_gf u.2 108 54)
    · rw [h, b288]; exact z6
    · rw [a288 k h]; exact J2 k (by omega)
  · show 0 ≤ (wt_gf s3 108 54).toInt
    rw [n54]
    omega
set_option maxHeartbeats 4000000 in
theorem wh_isPrintedR (n : Nat) (hn : 4294967297 < n) {x1 : Int32} {z : wt_St} (r : wt_RI z) (p0 : 0 ≤ x1.toInt) (p1 : x1.toInt < (wt_gf z 108 40).toInt) : wt_H (wp_md_isPrinted n x1 z) (fun q => ∀ c, wt_ga q.2 124 c = wt_ga z 124 c) := by
  have k0 : (0 : Int32).toInt = 0 := by decide
  have hz : 0 ≤ (wt_gf z 108 40).toInt ∧ (wt_gf z 108 40).toInt ≤ 10 := wt_Rf8 r
  have ex := wt_tnI p0
  unfold wp_md_isPrinted
  have e0 : Int32.toNatClampNeg (0 : Int32) = 0 := by decide
  have e1 : Int32.toNatClampNeg (1 : Int32) = 1 := by decide
  rw [e0, e1]
  have gw := (wt_R_w r (264 + Int32.toNatClampNeg x1) (by omega) (by omega)).1
  refine wt_H_gd (fun _ => wt_H_gd (fun _ => ?_))
  refine wt_H_bh (wq_md_needsText n hn _ z r gw.1 gw.2).h (fun q3 h3 => ?_)
  obtain ⟨f3, r3, -, -⟩ := h3
  refine wt_H_gd (fun _ => wt_H_gd (fun _ => ?_))
  refine wt_H_bh (wh_takesR n hn r3) (fun q6 h6 => ?_)
  have a3 : ∀ c, wt_ga q3 124 c = wt_ga z 124 c := f3.2 124 (by decide)
  rcases h6 with ⟨b1, b2⟩ | ⟨b1, T1, T2, T3⟩
  · rw [if_pos (show q6.1 = 0 from b1)]
    refine wt_H_some (fun c => ?_)
    show wt_ga q6.2 124 c = wt_ga z 124 c
    rw [b2]
    exact a3 c
  · rw [if_neg (show ¬ q6.1 = 0 by rw [b1]; decide)]
    refine wt_H_it (fun t : Int32 × wt_St => 0 ≤ t.1.toInt ∧ wt_gf t.2 108 54 = wt_gf q6.2 108 54 ∧ (∀ k, wt_ga t.2 288 k = wt_ga q6.2 288 k) ∧ ∀ c, wt_ga t.2 124 c = wt_ga z 124 c ∨ (wt_ga z 124 c = (-1 : Int32) ∧ ∃ k : Nat, t.1.toInt ≤ (k : Int) ∧ (k : Int) < (wt_gf q6.2 108 54).toInt ∧ Int32.toNatClampNeg (wt_ga q6.2 288 k) = c)) (fun K t I hK => ?_) n _ ⟨by show 0 ≤ ((0 : Int32)).toInt; omega, rfl, fun _ => rfl, fun c => ?_⟩
    · obtain ⟨i1, i2, i3, i4⟩ := I
      have et := wt_tnI i1
      unfold wp_md_isPrinted_B32
      rw [i2]
      refine wt_H_if (fun c => ?_) (fun c => ?_)
      · have c' := wt_cle c
        refine wt_H_some (fun c => ?_)
        rcases i4 c with h | ⟨-, k, k1, k2, -⟩
        · exact h
        · omega
      · have c' := wt_ncle c
        have ei := wt_i1 (c := t.1) (by have := wt_bd (wt_gf q6.2 108 54); omega)
        refine wt_H_gd (fun _ => wt_H_gd (fun _ => wt_H_gd (fun _ => wt_H_gd (fun _ => wt_H_gd (fun _ => wt_H_gd (fun _ => ?_))))))
        rw [e1, i3]
        obtain ⟨w, hw⟩ : ∃ w : Int32, w = (wt_ga t.2 121 (Int32.toNatClampNeg (wt_ga q6.2 288 (Int32.toNatClampNeg t.1)))) - (wt_ga t.2 (264 + Int32.toNatClampNeg x1) 1) := ⟨_, rfl⟩
        rw [← hw]
        obtain ⟨s1, ε1⟩ : ∃ o : wt_St, o = wt_sa t.2 121 (Int32.toNatClampNeg (wt_ga q6.2 288 (Int32.toNatClampNeg t.1))) w := ⟨_, rfl⟩
        rw [← ε1]
        have f1 := wt_fr_sa ε1
        rw [f1.2 288 (by decide), i3]
        refine wt_H_gd (fun _ => ?_)
        obtain ⟨s2, ε2⟩ : ∃ o : wt_St, o = wt_sa s1 124 (Int32.toNatClampNeg (wt_ga q6.2 288 (Int32.toNatClampNeg t.1))) (-1 : Int32) := ⟨_, rfl⟩
        rw [← ε2]
        have f2 := wt_fr_sa ε2
        refine hK _ ⟨by show 0 ≤ (t.1 + (1 : Int32)).toInt; omega, (f2.1 108 54 (fun h => h)).trans ((f1.1 108 54 (fun h => h)).trans i2), fun k => (f2.2 288 (by decide) k).trans ((f1.2 288 (by decide) k).trans (i3 k)), fun c => ?_⟩
        show wt_ga s2 124 c = wt_ga z 124 c ∨ (wt_ga z 124 c = (-1 : Int32) ∧ ∃ k : Nat, (t.1 + (1 : Int32)).toInt ≤ (k : Int) ∧ (k : Int) < (wt_gf q6.2 108 54).toInt ∧ Int32.toNatClampNeg (wt_ga q6.2 288 k) = c)
        by_cases h : c = Int32.toNatClampNeg (wt_ga q6.2 288 (Int32.toNatClampNeg t.1))
        · refine Or.inl ?_
          rw [h, wt_v_sa ε2, ← a3]
          exact (T2 (Int32.toNatClampNeg t.1) (by omega)).symm
        · rw [wt_w_sa ε2 c h, f1.2 124 (by decide)]
          rcases i4 c with j | ⟨j1, k, k1, k2, k3⟩
          · exact Or.inl j
          · refine Or.inr ⟨j1, k, ?_, k2, k3⟩
            have : k ≠ Int32.toNatClampNeg t.1 := fun e => h (by rw [← k3, e])
            omega
    · show wt_ga q6.2 124 c = wt_ga z 124 c ∨ (wt_ga z 124 c = (-1 : Int32) ∧ ∃ k : Nat, ((0 : Int32)).toInt ≤ (k : Int) ∧ (k : Int) < (wt_gf q6.2 108 54).toInt ∧ Int32.toNatClampNeg (wt_ga q6.2 288 k) = c)
      rcases T1 c with h | ⟨h1, -, k, h3, h4⟩
      · exact Or.inl (h.trans (a3 c))
      · exact Or.inr ⟨by rw [← a3]; exact h1, k, by omega, h3, h4⟩
theorem wh_printsR (n : Nat) (hn : 4294967297 < n) {x1 x2 x3 : Int32} {z : wt_St} (r : wt_RI z) : wt_H (wp_md_prints n x1 x2 x3 z) (fun q => wt_RI q.2 ∧ wt_fr (fun i k => i = 108 ∧ k = 54) (fun i => i = 287 ∨ i = 124 ∨ i = 288 ∨ i = 121) z q.2 ∧ ∀ c, wt_ga q.2 124 c = wt_ga z 124 c) := by
  have k0 : (0 : Int32).toInt = 0 := by decide
  unfold wp_md_prints
  refine wt_H_it (fun t : Int32 × Int32 × wt_St => wt_RI t.2.2 ∧ wt_fr (fun i k => i = 108 ∧ k = 54) (fun i => i = 287 ∨ i = 124 ∨ i = 288 ∨ i = 121) z t.2.2 ∧ ∀ c, wt_ga t.2.2 124 c = wt_ga z 124 c) (fun K t I hK => ?_) n _ ⟨r, wt_fr.rf, fun _ => rfl⟩
  unfold wp_md_prints_B6
  refine wt_H_if (fun _ => wt_H_some I) (fun _ => ?_)
  refine wt_H_it (fun u : Int32 × Int32 × wt_St => 0 ≤ u.2.1.toInt ∧ wt_RI u.2.2 ∧ wt_fr (fun i k => i = 108 ∧ k = 54) (fun i => i = 287 ∨ i = 124 ∨ i = 288 ∨ i = 121) z u.2.2 ∧ ∀ c, wt_ga u.2.2 124 c = wt_ga z 124 c) (fun K2 u J hK2 => ?_) n _ ⟨by show 0 ≤ ((0 : Int32)).toInt; omega, I⟩
  obtain ⟨j0, jr, jf, ja⟩ := J
  unfold wp_md_prints_B15
  refine wt_H_if (fun _ => hK _ ⟨jr, jf, ja⟩) (fun c => ?_)
  have c' := wt_ncle c
  have hz : 0 ≤ (wt_gf u.2.2 108 40).toInt ∧ (wt_gf u.2.2 108 40).toInt ≤ 10 := wt_Rf8 jr
  have ei := wt_i1 (c := u.2.1) (by omega)
  unfold wp_md_prints_B77
  have N : ∀ (w : Int32) (s : wt_St), wt_RI s → wt_fr (fun i k => i = 108 ∧ k = 54) (fun i => i = 287 ∨ i = 124 ∨ i = 288 ∨ i = 121) z s → (∀ c, wt_ga s 124 c = wt_ga z 124 c) → wt_H (K2 (w, (u.2.1 + (1 : Int32)), s)) (fun q => wt_RI q.2 ∧ wt_fr (fun i k => i = 108 ∧ k = 54) (fun i => i = 287 ∨ i = 124 ∨ i = 288 ∨ i = 121) z q.2 ∧ ∀ c, wt_ga q.2 124 c = wt_ga z 124 c) := fun w s h1 h2 h3 => hK2 _ ⟨by show 0 ≤ (u.2.1 + (1 : Int32)).toInt; omega, h1, h2, h3⟩
  refine wt_H_gd (fun _ => wt_H_gd (fun _ => wt_H_if (fun _ => wt_H_if (fun _ => N _ _ jr jf ja) (fun _ => ?_)) (fun _ => N _ _ jr jf ja)))
  refine wt_H_bh (wt_H_and (wh_isPrintedR n hn jr j0 (by omega)) (wq_md_isPrinted n hn u.2.1 u.2.2 jr j0 (by omega)).h) (fun q7 h7 => ?_)
  obtain ⟨h7, f7, r7⟩ := h7
  have F := wt_fr.tr jf f7 (fun i k h => h) (fun i h => h)
  have A : ∀ c, wt_ga q7.2 124 c = wt_ga z 124 c := fun c => (h7 c).trans (ja c)
  refine wt_H_if (fun _ => wt_H_if (fun _ => wt_H_some ⟨r7, F, A⟩) (fun _ => N _ _ r7 F A)) (fun _ => N _ _ r7 F A)
theorem wh_putsR (n : Nat) {z : wt_St} : wt_H (wp_md_puts n z) (fun q => wt_fr (fun _ _ => False) (fun i => i = 286) z q ∧ ∀ c, c < 338 → wt_ga q 286 c = wt_ga z 121 c) := by
  have k0 : (0 : Int32).toInt = 0 := by decide
  have k338 : (338 : Int32).toInt = 338 := by decide
  unfold wp_md_puts
  refine wt_H_it (fun t : Int32 × wt_St => 0 ≤ t.1.toInt ∧ wt_fr (fun _ _ => False) (fun i => i = 286) z t.2 ∧ ∀ c : Nat, (c : Int) < t.1.toInt → wt_ga t.2 286 c = wt_ga z 121 c) (fun K t I hK => ?_) n _ ⟨by show 0 ≤ ((0 : Int32)).toInt; omega, wt_fr.rf, fun k hk => absurd (show (k : Int) < ((0 : Int32)).toInt from hk) (by omega)⟩
  obtain ⟨i1, f, i2⟩ := I
  have et := wt_tnI i1
  unfold wp_md_puts_B2
  refine wt_H_if (fun c => ?_) (fun c => ?_)
  · have c' := wt_cle c
    exact wt_H_some ⟨f, fun k hk => i2 k (by omega)⟩
  · have c' := wt_ncle c
    have ei := wt_i1 (c := t.1) (by omega)
    refine wt_H_gd (fun _ => wt_H_gd (fun _ => ?_))
    obtain ⟨s1, ε⟩ : ∃ o : wt_St, o = wt_sa t.2 286 (Int32.toNatClampNeg t.1) (wt_ga t.2 121 (Int32.toNatClampNeg t.1)) := ⟨_, rfl⟩
    rw [← ε]
    refine hK _ ⟨by show 0 ≤ (t.1 + (1 : Int32)).toInt; omega, f.sa ε rfl, fun k hk => ?_⟩
    have hk' : (k : Int) < (t.1 + (1 : Int32)).toInt := hk
    show wt_ga s1 286 k = _
    by_cases h : k = Int32.toNatClampNeg t.1
    · rw [h, wt_v_sa ε]; exact f.2 121 (by decide) _
    · rw [wt_w_sa ε k h]; exact i2 k (by omega)
theorem wh_putsBackR (n : Nat) {z : wt_St} : wt_H (wp_md_putsBack n z) (fun q => wt_fr (fun _ _ => False) (fun i => i = 121) z q ∧ ∀ c, c < 338 → wt_ga q 121 c = wt_ga z 286 c) := by
  have k0 : (0 : Int32).toInt = 0 := by decide
  have k338 : (338 : Int32).toInt = 338 := by decide
  unfold wp_md_putsBack
  refine wt_H_it (fun t : Int32 × wt_St => 0 ≤ t.1.toInt ∧ wt_fr (fun _ _ => False) (fun i => i = 121) z t.2 ∧ ∀ c : Nat, (c : Int) < t.1.toInt → wt_ga t.2 121 c = wt_ga z 286 c) (fun K t I hK => ?_) n _ ⟨by show 0 ≤ ((0 : Int32)).toInt; omega, wt_fr.rf, fun k hk => absurd (show (k : Int) < ((0 : Int32)).toInt from hk) (by omega)⟩
  obtain ⟨i1, f, i2⟩ := I
  have et := wt_tnI i1
  unfold wp_md_putsBack_B2
  refine wt_H_if (fun c => ?_) (fun c => ?_)
  · have c' := wt_cle c
    exact wt_H_some ⟨f, fun k hk => i2 k (by omega)⟩
  · have c' := wt_ncle c
    have ei := wt_i1 (c := t.1) (by omega)
    refine wt_H_gd (fun _ => wt_H_gd (fun _ => ?_))
    obtain ⟨s1, ε⟩ : ∃ o : wt_St, o = wt_sa t.2 121 (Int32.toNatClampNeg t.1) (wt_ga t.2 286 (Int32.toNatClampNeg t.1)) := ⟨_, rfl⟩
    rw [← ε]
    refine hK _ ⟨by show 0 ≤ (t.1 + (1 : Int32)).toInt; omega, f.sa ε rfl, fun k hk => ?_⟩
    have hk' : (k : Int) < (t.1 + (1 : Int32)).toInt := hk
    show wt_ga s1 121 k = _
    by_cases h : k = Int32.toNatClampNeg t.1
    · rw [h, wt_v_sa ε]; exact f.2 286 (by decide) _
    · rw [wt_w_sa ε k h]; exact i2 k (by omega)
/-- all is where it was -/
def wu_KE (z y : wt_St) : Prop := wt_RI y ∧ (∀ c, wt_ga y 124 c = wt_ga z 124 c) ∧ ∀ c, c < 338 → wt_ga y 121 c = wt_ga z 121 c
/-- put aside, and what was printed since -/
def wu_KA (z y : wt_St) : Prop := wt_RI y ∧ (∀ c, wt_ga y 124 c = wt_ga z 124 c) ∧ ∀ c, c < 338 → wt_ga y 286 c = wt_ga z 121 c
theorem wh_puts_KA (n : Nat) (hn : 4294967297 < n) {z s : wt_St} (h : wu_KE z s) : wt_H (wp_md_puts n s) (fun q => wu_KA z q) := by
  refine (wt_H_and (wh_putsR n) (wq_md_puts n hn s h.1).h).imp (fun q hq => ⟨hq.2.2, fun c => (hq.1.1.2 124 (by decide) c).trans (h.2.1 c), fun c hc => (hq.1.2 c hc).trans (h.2.2 c hc)⟩)
theorem wh_prints_KA (n : Nat) (hn : 4294967297 < n) {x1 x2 x3 : Int32} {z s : wt_St} (h : wu_KA z s) : wt_H (wp_md_prints n x1 x2 x3 s) (fun q => wu_KA z q.2) := by
  refine (wh_printsR n hn h.1).imp (fun q hq => ⟨hq.1, fun c => (hq.2.2 c).trans (h.2.1 c), fun c hc => (hq.2.1.2 286 (by decide) c).trans (h.2.2 c hc)⟩)
theorem wh_putsBack_KE (n : Nat) (hn : 4294967297 < n) {z s : wt_St} (h : wu_KA z s) : wt_H (wp_md_putsBack n s) (fun q => wu_KE z q) := by
  refine (wt_H_and (wh_putsBackR n) (wq_md_putsBack n hn s h.1).h).imp (fun q hq => ⟨hq.2.2, fun c => (hq.1.1.2 124 (by decide) c).trans (h.2.1 c), fun c hc => (hq.1.2 c hc).trans (h.2.2 c hc)⟩)
theorem wh_greedyAhead_KA (n : Nat) (hn : 4294967297 < n) {x1 : Int32} {z s : wt_St} (h : wu_KE z s) : wt_H (wp_md_greedyAhead n x1 s) (fun q => wu_KA z q.2) := by
  unfold wp_md_greedyAhead
  refine wt_H_bh (wh_puts_KA n hn h) (fun q1 h1 => ?_)
  refine wt_H_bh (wh_prints_KA n hn h1) (fun q2 h2 => wt_H_some h2)
theorem wh_canWord_KA (n : Nat) (hn : 4294967297 < n) {x1 : Int32} {z s : wt_St} (h : wu_KA z s) (p0 : 0 ≤ x1.toInt) (p1 : x1.toInt ≤ 59) : wt_H (wp_md_canWord n x1 s) (fun q => wu_KA z q.2 ∧ wt_fr (fun _ _ => False) (fun i => i = 287) s q.2) := by
  refine (wq_md_canWord n hn x1 s h.1 p0 p1).h.imp (fun q hq => ⟨⟨hq.2.1, fun c => (hq.1.2 124 (by decide) c).trans (h.2.1 c), fun c hc => (hq.1.2 286 (by decide) c).trans (h.2.2 c hc)⟩, hq.1⟩)
theorem wu_KE_fr {z s : wt_St} {F : Nat → Nat → Prop} {A : Nat → Prop} (f : wt_fr F A z s) (r : wt_RI s) (h : ¬ A 124 ∧ ¬ A 121) : wu_KE z s := ⟨r, f.2 124 h.1, fun c _ => f.2 121 h.2 c⟩
/-- the calls -/
theorem wh_mostR (n : Nat) (hn : 4294967297 < n) {x1 : Int32} {z : wt_St} (r : wt_RI z) : wt_H (wp_md_most n x1 z) (fun q => wu_KE z q.2) := by
  unfold wp_md_most
  obtain ⟨z0, ε0⟩ : ∃ o : wt_St, o = wt_sf z 108 0 (0 : Int32) := ⟨_, rfl⟩
  rw [← ε0]
  have g0 := wt_fr_sf ε0
  have t0 : wt_gf z0 108 0 = 0 := wt_v_sf ε0
  have r0 : wt_RI z0 := wt_RI_fno r ε0 (Or.inr (by decide +kernel))
  have B : ∀ w : Int32, w = 0 ∨ w = 1 → wt_H (wp_md_most_B20 n x1 w z0) (fun q => wu_KE z q.2) := fun w hw => by
    unfold wp_md_most_B20
    rcases hw with hw | hw
    · subst hw
      refine wt_H_bh (wh_bad0 n t0) (fun y hy => ?_)
      subst hy
      rw [if_pos (show ((0 : Int32), z0).1 = 0 from rfl)]
      refine wt_H_it (fun t : Int32 × Int32 × Int32 × wt_St => wu_KE z t.2.2.2) (fun K t I hK => ?_) n _ (wu_KE_fr g0 r0 ⟨fun h => h, fun h => h⟩)
      unfold wp_md_most_B36
      refine wt_H_if (fun _ => wt_H_if (fun _ => ?_) (fun _ => wt_H_if (fun _ => wt_H_some I) (fun _ => wt_H_some I))) (fun _ => ?_)
      · refine wt_H_bh (wq_md_worthOf n hn _ _ I.1).h (fun q8 h8 => ?_)
        refine wt_H_some ?_
        show wu_KE z q8.2
        rw [h8]
        exact I
      · refine wt_H_bh (wh_puts_KA n hn I) (fun q9 h9 => ?_)
        refine wt_H_bh (wh_prints_KA n hn h9) (fun q10 h10 => ?_)
        have N : ∀ w : Int32, wt_H (wp_md_most_B69 n x1 t.1 t.2.1 t.2.2.1 K w q10.2) (fun q => wu_KE z q.2) := fun w => by
          unfold wp_md_most_B69 wp_md_most_B106 wp_md_most_B107
          refine wt_H_bh (wh_putsBack_KE n hn h10) (fun q12 h12 => ?_)
          refine wt_H_if (fun _ => hK _ h12) (fun _ => ?_)
          refine wt_H_bh (wq_md_worthOf n hn _ _ h12.1).h (fun q14 h14 => ?_)
          rw [h14]
          refine wt_H_bh (wq_md_worthOf n hn _ _ h12.1).h (fun q15 h15 => ?_)
          rw [h15]
          exact wt_H_if (fun _ => hK _ h12) (fun _ => hK _ h12)
        exact wt_H_if (fun _ => N 0) (fun _ => N 1)
    · subst hw
      exact wh_b1 n t0 (by decide) (wu_KE_fr (wt_fr.tr g0 (wt_fr_sf rfl) (fun i k h => h) (fun i h => h)) (wt_RI_fno r0 rfl (Or.inr (by decide +kernel))) ⟨fun h => h, fun h => h⟩)
  refine wt_H_bh (wh_in n) (fun q1 h1 => ?_)
  rw [h1.1]
  exact wt_H_if (fun _ => B 1 (Or.inr rfl)) (fun _ => B 0 (Or.inl rfl))
theorem wh_greedyR (n : Nat) (hn : 4294967297 < n) {x1 : Int32} {z : wt_St} (r : wt_RI z) : wt_H (wp_md_greedy n x1 z) (fun q => wu_KE z q.2) := by
  unfold wp_md_greedy
  obtain ⟨z0, ε0⟩ : ∃ o : wt_St, o = wt_sf z 108 0 (0 : Int32) := ⟨_, rfl⟩
  rw [← ε0]
  have g0 := wt_fr_sf ε0
  have t0 : wt_gf z0 108 0 = 0 := wt_v_sf ε0
  have r0 : wt_RI z0 := wt_RI_fno r ε0 (Or.inr (by decide +kernel))
  have B : ∀ w : Int32, w = 0 ∨ w = 1 → wt_H (wp_md_greedy_B20 n x1 w z0) (fun q => wu_KE z q.2) := fun w hw => by
    unfold wp_md_greedy_B20
    rcases hw with hw | hw
    · subst hw
      refine wt_H_bh (wh_bad0 n t0) (fun y hy => ?_)
      subst hy
      rw [if_pos (show ((0 : Int32), z0).1 = 0 from rfl)]
      refine wt_H_bh (wh_greedyAhead_KA n hn (wu_KE_fr g0 r0 ⟨fun h => h, fun h => h⟩)) (fun q5 h5 => ?_)
      refine wt_H_bh (wh_putsBack_KE n hn h5) (fun q6 h6 => ?_)
      refine wt_H_if (fun _ => ?_) (fun _ => wt_H_some h6)
      refine wt_H_bh (wq_md_worthOf n hn _ _ h6.1).h (fun q8 h8 => wt_H_some ?_)
      show wu_KE z q8.2
      rw [h8]
      exact h6
    · subst hw
      exact wh_b1 n t0 (by decide) (wu_KE_fr (wt_fr.tr g0 (wt_fr_sf rfl) (fun i k h => h) (fun i h => h)) (wt_RI_fno r0 rfl (Or.inr (by decide +kernel))) ⟨fun h => h, fun h => h⟩)
  refine wt_H_bh (wh_in n) (fun q1 h1 => ?_)
  rw [h1.1]
  exact wt_H_if (fun _ => B 1 (Or.inr rfl)) (fun _ => B 0 (Or.inl rfl))
theorem wh_saidR (n : Nat) (hn : 4294967297 < n) {x1 x2 : Int32} {z : wt_St} (r : wt_RI z) : wt_H (wp_md_said n x1 x2 z) (fun q => wu_KE z q.2) := by
  unfold wp_md_said
  obtain ⟨z0, ε0⟩ : ∃ o : wt_St, o = wt_sf z 108 0 (0 : Int32) := ⟨_, rfl⟩
  rw [← ε0]
  have g0 := wt_fr_sf ε0
  have t0 : wt_gf z0 108 0 = 0 := wt_v_sf ε0
  have r0 : wt_RI z0 := wt_RI_fno r ε0 (Or.inr (by decide +kernel))
  have hz : 0 ≤ (wt_gf z0 108 28).toInt ∧ (wt_gf z0 108 28).toInt ≤ 60 := wt_Rf6 r0
  have X : ∀ k : Int32, wu_KE z (wt_sf z0 108 0 k) := fun k => wu_KE_fr (wt_fr.tr g0 (wt_fr_sf rfl) (fun i k h => h) (fun i h => h)) (wt_RI_fno r0 rfl (Or.inr (by decide +kernel))) ⟨fun h => h, fun h => h⟩
  refine wt_H_bh (wh_isWordNumber n hz.1 hz.2) (fun q1 h1 => ?_)
  obtain ⟨e1, h1⟩ := h1
  rw [e1]
  unfold wp_md_said_B19
  rcases h1 with ⟨a, b, c⟩ | ⟨a, -⟩
  · rw [if_neg (show ¬ q1.1 = 0 by rw [a]; decide)]
    refine wt_H_bh (wh_bad0 n t0) (fun y hy => ?_)
    subst hy
    rw [if_pos (show ((0 : Int32), z0).1 = 0 from rfl)]
    have W : wt_H (wp_md_isWeek n x2 z0) (fun q => q.2 = z0) := by
      unfold wp_md_isWeek
      exact wt_H_bh (wh_in n) (fun q hq => wt_H_some hq.1)
    refine wt_H_bh W (fun q5 h5 => ?_)
    rw [h5]
    unfold wp_md_said_B39
    refine wt_H_if (fun _ => wh_b1 n t0 (by decide) (X 2)) (fun _ => ?_)
    refine wt_H_bh (wh_bad0 n t0) (fun y hy => ?_)
    subst hy
    rw [if_pos (show ((0 : Int32), z0).1 = 0 from rfl)]
    refine wt_H_bh (wh_greedyAhead_KA n hn (wu_KE_fr g0 r0 ⟨fun h => h, fun h => h⟩)) (fun q9 h9 => ?_)
    refine wt_H_bh (wh_canWord_KA n hn h9 b (by omega)) (fun q10 h10 => ?_)
    exact wt_H_bh (wh_putsBack_KE n hn h10.1) (fun q11 h11 => wt_H_some h11)
  · rw [if_pos (show q1.1 = 0 from a)]
    exact wh_b1 n t0 (by decide) (X 1)
theorem wh_endsR (n : Nat) (hn : 4294967297 < n) {x1 : Int32} {z : wt_St} (r : wt_RI z) : wt_H (wp_md_ends n x1 z) (fun q => wu_KE z q.2) := by
  unfold wp_md_ends
  obtain ⟨z0, ε0⟩ : ∃ o : wt_St, o = wt_sf z 108 0 (0 : Int32) := ⟨_, rfl⟩
  rw [← ε0]
  have g0 := wt_fr_sf ε0
  have t0 : wt_gf z0 108 0 = 0 := wt_v_sf ε0
  have r0 : wt_RI z0 := wt_RI_fno r ε0 (Or.inr (by decide +kernel))
  have hz : 0 ≤ (wt_gf z0 108 28).toInt ∧ (wt_gf z0 108 28).toInt ≤ 60 := wt_Rf6 r0
  have X : ∀ k : Int32, wu_KE z (wt_sf z0 108 0 k) := fun k => wu_KE_fr (wt_fr.tr g0 (wt_fr_sf rfl) (fun i k h => h) (fun i h => h)) (wt_RI_fno r0 rfl (Or.inr (by decide +kernel))) ⟨fun h => h, fun h => h⟩
  refine wt_H_bh (wh_isWordNumber n hz.1 hz.2) (fun q1 h1 => ?_)
  obtain ⟨e1, h1⟩ := h1
  rw [e1]
  unfold wp_md_ends_B19
  rcases h1 with ⟨a, b, c⟩ | ⟨a, -⟩
  · rw [if_neg (show ¬ q1.1 = 0 by rw [a]; decide)]
    refine wt_H_bh (wh_bad0 n t0) (fun y hy => ?_)
    subst hy
    rw [if_pos (show ((0 : Int32), z0).1 = 0 from rfl)]
    refine wt_H_it (fun t : Int32 × wt_St => wu_KE z t.2) (fun K t I hK => ?_) n _ (wu_KE_fr g0 r0 ⟨fun h => h, fun h => h⟩)
    unfold wp_md_ends_B30
    refine wt_H_if (fun _ => wt_H_some I) (fun _ => ?_)
    refine wt_H_bh (wh_greedyAhead_KA n hn I) (fun q9 h9 => ?_)
    refine wt_H_bh (wh_canWord_KA n hn h9 b (by omega)) (fun q10 h10 => ?_)
    refine wt_H_bh (wh_putsBack_KE n hn h10.1) (fun q11 h11 => ?_)
    exact wt_H_if (fun _ => wt_H_some h11) (fun _ => hK _ h11)
  · rw [if_pos (show q1.1 = 0 from a)]
    exact wh_b1 n t0 (by decide) (X 1)
theorem wh_lostR (n : Nat) (hn : 4294967297 < n) {x1 : Int32} {z : wt_St} (r : wt_RI z) : wt_H (wp_md_lost n x1 z) (fun q => wu_KE z q.2) := by
  have k0 : (0 : Int32).toInt = 0 := by decide
  unfold wp_md_lost
  obtain ⟨z0, ε0⟩ : ∃ o : wt_St, o = wt_sf z 108 0 (0 : Int32) := ⟨_, rfl⟩
  rw [← ε0]
  have g0 := wt_fr_sf ε0
  have t0 : wt_gf z0 108 0 = 0 := wt_v_sf ε0
  have r0 : wt_RI z0 := wt_RI_fno r ε0 (Or.inr (by decide +kernel))
  have X : ∀ k : Int32, wu_KE z (wt_sf z0 108 0 k) := fun k => wu_KE_fr (wt_fr.tr g0 (wt_fr_sf rfl) (fun i k h => h) (fun i h => h)) (wt_RI_fno r0 rfl (Or.inr (by decide +kernel))) ⟨fun h => h, fun h => h⟩
  have W : wt_H (wp_md_isWeek n x1 z0) (fun q => q.2 = z0) := by
    unfold wp_md_isWeek
    exact wt_H_bh (wh_in n) (fun q hq => wt_H_some hq.1)
  refine wt_H_bh W (fun q1 h1 => ?_)
  rw [h1]
  unfold wp_md_lost_B18
  refine wt_H_if (fun _ => wh_b1 n t0 (by decide) (X 1)) (fun _ => ?_)
  refine wt_H_bh (wh_bad0 n t0) (fun y hy => ?_)
  subst hy
  rw [if_pos (show ((0 : Int32), z0).1 = 0 from rfl)]
  refine wt_H_bh (wh_greedyAhead_KA n hn (wu_KE_fr g0 r0 ⟨fun h => h, fun h => h⟩)) (fun q5 h5 => ?_)
  refine wt_H_it (fun t : Int32 × Int32 × wt_St => 0 ≤ t.2.1.toInt ∧ wu_KA z t.2.2) (fun K t I hK => ?_) n _ ⟨by show 0 ≤ ((0 : Int32)).toInt; omega, h5⟩
  obtain ⟨i1, i2⟩ := I
  have hz : 0 ≤ (wt_gf t.2.2 108 28).toInt ∧ (wt_gf t.2.2 108 28).toInt ≤ 60 := wt_Rf6 i2.1
  unfold wp_md_lost_B37 wp_md_lost_B59
  refine wt_H_if (fun _ => ?_) (fun c => ?_)
  · exact wt_H_bh (wh_putsBack_KE n hn i2) (fun q7 h7 => wt_H_some h7)
  · have c' := wt_ncle c
    have ei := wt_i1 (c := t.2.1) (by omega)
    refine wt_H_bh (wh_canWord_KA n hn i2 i1 (by omega)) (fun q8 h8 => ?_)
    exact wt_H_if (fun _ => hK _ ⟨by show 0 ≤ (t.2.1 + (1 : Int32)).toInt; omega, h8.1⟩) (fun _ => hK _ ⟨by show 0 ≤ (t.2.1 + (1 : Int32)).toInt; omega, h8.1⟩)
/-- the pieces that there are: where they lie, what they have left -/
def wu_KV (z y : wt_St) : Prop := (∀ l, wt_ga y 111 l = wt_ga z 111 l) ∧ ∀ l i : Nat, l < 26 → (i : Int) < (wt_ga z 111 l).toInt → wt_ga y 121 (13 * l + i) = wt_ga z 121 (13 * l + i) ∧ wt_ga y 124 (13 * l + i) = wt_ga z 124 (13 * l + i)
theorem wu_KV_rf (z : wt_St) : wu_KV z z := ⟨fun _ => rfl, fun _ _ _ _ => ⟨rfl, rfl⟩⟩
theorem wu_KV_fr {z y y' : wt_St} {F : Nat → Nat → Prop} {A : Nat → Prop} (h : wu_KV z y) (f : wt_fr F A y y') (hA : ¬ A 111 ∧ ¬ A 121 ∧ ¬ A 124) : wu_KV z y' := ⟨fun l => (f.2 111 hA.1 l).trans (h.1 l), fun l i hl hi => ⟨(f.2 121 hA.2.1 _).trans (h.2 l i hl hi).1, (f.2 124 hA.2.2 _).trans (h.2 l i hl hi).2⟩⟩
theorem wu_KV_KE {z y : wt_St} (m : wt_M12 z) (h1 : ∀ l, wt_ga y 111 l = wt_ga z 111 l) (h : wu_KE z y) : wu_KV z y := ⟨h1, fun l i hl hi => ⟨h.2.2 _ (by have := m l; omega), h.2.1 _⟩⟩
set_option maxHeartbeats 4000000 in
theorem wh_withOneR (n : Nat) (hn : 4294967297 < n) {x1 x2 : Int32} {l : Nat} {z : wt_St} (r : wt_RI z) (m : wt_M12 z) (hx : x1.toInt = (l : Int)) (hl : l < 26) (p2 : 0 ≤ x2.toInt) (p3 : x2.toInt ≤ 400) : wt_H (wp_md_withOne n x1 x2 z) (fun q => (wt_RI q.2 ∧ wt_M12 q.2) ∧ (∀ j, wt_ga q.2 111 j = wt_ga z 111 j) ∧ ∀ c, c ≠ 13 * l + Int32.toNatClampNeg (wt_ga z 111 l) → wt_ga q.2 121 c = wt_ga z 121 c ∧ wt_ga q.2 124 c = wt_ga z 124 c) := by
  have k1 : (1 : Int32).toInt = 1 := by decide
  have ex := wt_tnN hx
  have g : 0 ≤ (wt_ga z 111 l).toInt ∧ (wt_ga z 111 l).toInt ≤ 13 := wt_Ra1 r 111 (show 111 ≤ 111 by omega) (show 111 < 112 by omega) l
  have ml := m l
  have et := wt_tnI g.1
  have W := (wq_md_withOne n hn x1 x2 z r m (by omega) (by omega) p2 p3).h
  refine (wt_H_and (Q := fun q => (∀ j, wt_ga q.2 111 j = wt_ga z 111 j) ∧ ∀ c, c ≠ 13 * l + Int32.toNatClampNeg (wt_ga z 111 l) → wt_ga q.2 121 c = wt_ga z 121 c ∧ wt_ga q.2 124 c = wt_ga z 124 c) W ?_).imp (fun q hq => ⟨⟨hq.1.2.1, hq.1.2.2⟩, hq.2⟩)
  unfold wp_md_withOne
  rw [ex]
  refine wt_H_gd (fun _ => ?_)
  refine wt_H_bh (wh_cell n (l := l) (i := Int32.toNatClampNeg (wt_ga z 111 l)) hx et.symm hl (by omega)) (fun q2 h2 => ?_)
  obtain ⟨e2, c2⟩ := h2
  rw [e2, wt_tnN c2]
  refine wt_H_gd (fun _ => wt_H_gd (fun _ => wt_H_gd (fun _ => wt_H_gd (fun _ => ?_))))
  obtain ⟨s1, ε1⟩ : ∃ o : wt_St, o = wt_sa z 121 (13 * l + Int32.toNatClampNeg (wt_ga z 111 l)) x2 := ⟨_, rfl⟩
  rw [← ε1]
  have r1 := wt_Rn3 r ε1 (by decide) (by decide) p2 p3
  obtain ⟨s2, ε2⟩ : ∃ o : wt_St, o = wt_sa s1 124 (13 * l + Int32.toNatClampNeg (wt_ga z 111 l)) (-1 : Int32) := ⟨_, rfl⟩
  rw [← ε2]
  have r2 := wt_RI_no r1 ε2 124 125 (by decide +kernel) (by decide) (by decide)
  have f1 := wt_fr_sa ε1
  have f2 := wt_fr_sa ε2
  have e111 : ∀ j, wt_ga s2 111 j = wt_ga z 111 j := fun j => (f2.2 111 (by decide) j).trans (f1.2 111 (by decide) j)
  rw [e111]
  have ei := wt_i1 (c := wt_ga z 111 l) (by omega)
  obtain ⟨s3, ε3⟩ : ∃ o : wt_St, o = wt_sa s2 111 l ((wt_ga z 111 l) + (1 : Int32)) := ⟨_, rfl⟩
  rw [← ε3]
  have r3 := wt_Rn1 r2 ε3 (by decide) (by decide) (show 0 ≤ ((wt_ga z 111 l) + (1 : Int32)).toInt by omega) (show ((wt_ga z 111 l) + (1 : Int32)).toInt ≤ 13 by omega)
  refine wt_H_bh (wh_oftenM n hn r3) (fun q7 h7 => ?_)
  rw [h7.1]
  refine wt_H_gd (fun _ => wt_H_gd (fun _ => ?_))
  have v3 : wt_ga s3 111 l = (wt_ga z 111 l) + (1 : Int32) := wt_v_sa ε3
  rw [v3]
  obtain ⟨s4, ε4⟩ : ∃ o : wt_St, o = wt_sa s3 111 l (((wt_ga z 111 l) + (1 : Int32)) - (1 : Int32)) := ⟨_, rfl⟩
  rw [← ε4]
  have f3 := wt_fr_sa ε3
  have f4 := wt_fr_sa ε4
  refine wt_H_some ⟨fun j => ?_, fun c hc => ⟨?_, ?_⟩⟩
  · show wt_ga s4 111 j = wt_ga z 111 j
    by_cases h : j = l
    · rw [h, wt_v_sa ε4]
      have es := wt_subE (x := (wt_ga z 111 l) + (1 : Int32)) (y := (1 : Int32)) (by omega) (by omega)
      exact wt_eqI (by omega)
    · rw [wt_w_sa ε4 j h, wt_w_sa ε3 j h]
      exact e111 j
  · show wt_ga s4 121 c = wt_ga z 121 c
    rw [f4.2 121 (by decide), f3.2 121 (by decide), f2.2 121 (by decide), wt_w_sa ε1 c hc]
  · show wt_ga s4 124 c = wt_ga z 124 c
    rw [f4.2 124 (by decide), f3.2 124 (by decide), wt_w_sa ε2 c hc, f1.2 124 (by decide)]
theorem wh_castR (n : Nat) (hn : 4294967297 < n) {x1 x2 : Int32} {z : wt_St} (r : wt_RI z) (m : wt_M12 z) : wt_H (wp_md_cast n x1 x2 z) (fun q => wu_KV z q.2) := by
  have k0 : (0 : Int32).toInt = 0 := by decide
  have k26 : (26 : Int32).toInt = 26 := by decide
  unfold wp_md_cast
  obtain ⟨z0, ε0⟩ : ∃ o : wt_St, o = wt_sf z 108 0 (0 : Int32) := ⟨_, rfl⟩
  rw [← ε0]
  have g0 := wt_fr_sf ε0
  have t0 : wt_gf z0 108 0 = 0 := wt_v_sf ε0
  have r0 : wt_RI z0 := wt_RI_fno r ε0 (Or.inr (by decide +kernel))
  have hz : 0 ≤ (wt_gf z0 108 39).toInt ∧ (wt_gf z0 108 39).toInt ≤ 8 := wt_Rf7 r0
  have V0 : wu_KV z z0 := wu_KV_fr (wu_KV_rf z) g0 ⟨fun h => h, fun h => h, fun h => h⟩
  have X : ∀ k : Int32, wu_KV z (wt_sf z0 108 0 k) := fun k => wu_KV_fr V0 (wt_fr_sf rfl) ⟨fun h => h, fun h => h, fun h => h⟩
  refine wt_H_bh (wh_isText n hz.1 hz.2) (fun q1 h1 => ?_)
  obtain ⟨e1, h1⟩ := h1
  rw [e1]
  unfold wp_md_cast_B19
  rcases h1 with ⟨a, b, c⟩ | ⟨a, -⟩
  · rw [if_neg (show ¬ q1.1 = 0 by rw [a]; decide)]
    refine wt_H_bh (wh_bad0 n t0) (fun y hy => ?_)
    subst hy
    rw [if_pos (show ((0 : Int32), z0).1 = 0 from rfl)]
    refine wt_H_bh (wh_isCopies n) (fun q5 h5 => ?_)
    obtain ⟨e5, h5⟩ := h5
    rw [e5]
    unfold wp_md_cast_B39
    rcases h5 with ⟨d, d1, d2⟩ | ⟨d, -⟩
    · rw [if_neg (show ¬ q5.1 = 0 by rw [d]; decide)]
      refine wt_H_bh (wh_bad0 n t0) (fun y hy => ?_)
      subst hy
      rw [if_pos (show ((0 : Int32), z0).1 = 0 from rfl)]
      refine wt_H_bh (wq_md_needsText n hn x1 z0 r0 b (by omega)).h (fun q9 h9 => ?_)
      obtain ⟨f9, r9, -, -⟩ := h9
      refine wt_H_bh (wh_oftenM n hn r9) (fun q10 h10 => ?_)
      rw [h10.1]
      have V9 := wu_KV_fr V0 f9 ⟨by decide, by decide, by decide⟩
      refine wt_H_it (fun t : Int32 × Int32 × Int32 × wt_St => 0 ≤ t.2.2.1.toInt ∧ wt_RI t.2.2.2 ∧ wt_M12 t.2.2.2 ∧ wu_KV z t.2.2.2) (fun K t I hK => ?_) n _ ⟨by show 0 ≤ ((0 : Int32)).toInt; omega, r9, fun j => by rw [V9.1]; exact m j, V9⟩
      obtain ⟨i0, ir, im, iv⟩ := I
      have et := wt_tnI i0
      unfold wp_md_cast_B64 wp_md_cast_B96
      refine wt_H_if (fun _ => wt_H_some iv) (fun e => ?_)
      have e' := wt_ncle e
      have ei := wt_i1 (c := t.2.2.1) (by omega)
      refine wt_H_bh (wh_withOneR n hn ir im et.symm (by omega) (by omega) d2) (fun q12 h12 => ?_)
      obtain ⟨⟨wr, wm⟩, w1, w2⟩ := h12
      have V : wu_KV z q12.2 := ⟨fun j => (w1 j).trans (iv.1 j), fun l i hl hi => by
        have gl : 0 ≤ (wt_ga t.2.2.2 111 (Int32.toNatClampNeg t.2.2.1)).toInt ∧ (wt_ga t.2.2.2 111 (Int32.toNatClampNeg t.2.2.1)).toInt ≤ 13 := wt_Ra1 ir 111 (show 111 ≤ 111 by omega) (show 111 < 112 by omega) (Int32.toNatClampNeg t.2.2.1)
        have el := wt_tnI gl.1
        have ml := im (Int32.toNatClampNeg t.2.2.1)
        have mz := m l
        have ev := congrArg Int32.toInt (iv.1 (Int32.toNatClampNeg t.2.2.1))
        have nc : 13 * l + i ≠ 13 * (Int32.toNatClampNeg t.2.2.1) + Int32.toNatClampNeg (wt_ga t.2.2.2 111 (Int32.toNatClampNeg t.2.2.1)) := fun h => by
          have hll : l = Int32.toNatClampNeg t.2.2.1 := by omega
          rw [← hll] at ev h el
          omega
        obtain ⟨p1, p2⟩ := w2 _ nc
        exact ⟨p1.trans (iv.2 l i hl hi).1, p2.trans (iv.2 l i hl hi).2⟩⟩
      exact wt_H_if (fun _ => hK _ ⟨by show 0 ≤ (t.2.2.1 + (1 : Int32)).toInt; omega, wr, wm, V⟩) (fun _ => hK _ ⟨by show 0 ≤ (t.2.2.1 + (1 : Int32)).toInt; omega, wr, wm, V⟩)
    · rw [if_pos (show q5.1 = 0 from d)]
      exact wh_b1 n t0 (by decide) (X 2)
  · rw [if_pos (show q1.1 = 0 from a)]
    exact wh_b1 n t0 (by decide) (X 1)
set_option maxHeartbeats 8000000 in
theorem wh_exchangeR (n : Nat) (hn : 4294967297 < n) {x1 : Int32} {z : wt_St} (r : wt_RI z) (m : wt_M12 z) : wt_H (wp_md_exchange n x1 z) (fun q => wu_KV z q.2) := by
  have k0 : (0 : Int32).toInt = 0 := by decide
  have k26 : (26 : Int32).toInt = 26 := by decide
  unfold wp_md_exchange
  obtain ⟨z0, ε0⟩ : ∃ o : wt_St, o = wt_sf z 108 0 (0 : Int32) := ⟨_, rfl⟩
  rw [← ε0]
  have g0 := wt_fr_sf ε0
  have t0 : wt_gf z0 108 0 = 0 := wt_v_sf ε0
  have r0 : wt_RI z0 := wt_RI_fno r ε0 (Or.inr (by decide +kernel))
  have hz : 0 ≤ (wt_gf z0 108 39).toInt ∧ (wt_gf z0 108 39).toInt ≤ 8 := wt_Rf7 r0
  have V0 : wu_KV z z0 := wu_KV_fr (wu_KV_rf z) g0 ⟨fun h => h, fun h => h, fun h => h⟩
  have X : ∀ k : Int32, wu_KV z (wt_sf z0 108 0 k) := fun k => wu_KV_fr V0 (wt_fr_sf rfl) ⟨fun h => h, fun h => h, fun h => h⟩
  refine wt_H_bh (wh_isText n hz.1 hz.2) (fun q1 h1 => ?_)
  obtain ⟨e1, h1⟩ := h1
  rw [e1]
  unfold wp_md_exchange_B19
  rcases h1 with ⟨a, b, c⟩ | ⟨a, -⟩
  rotate_left
  · rw [if_pos (show q1.1 = 0 from a)]
    exact wh_b1 n t0 (by decide) (X 1)
  rw [if_neg (show ¬ q1.1 = 0 by rw [a]; decide)]
  refine wt_H_bh (wh_bad0 n t0) (fun y hy => ?_)
  subst hy
  rw [if_pos (show ((0 : Int32), z0).1 = 0 from rfl)]
  refine wt_H_bh (wq_md_needsText n hn x1 z0 r0 b (by omega)).h (fun q9 h9 => ?_)
  obtain ⟨f9, r9, -, -⟩ := h9
  refine wt_H_bh (wh_oftenM n hn r9) (fun q10 h10 => ?_)
  rw [h10.1]
  have V9 := wu_KV_fr V0 f9 ⟨by decide, by decide, by decide⟩
  refine wt_H_it (fun t : Int32 × Int32 × Int32 × wt_St => 0 ≤ t.2.2.1.toInt ∧ wt_RI t.2.2.2 ∧ wt_M12 t.2.2.2 ∧ wu_KV z t.2.2.2) (fun K t I hK => ?_) n _ ⟨by show 0 ≤ ((0 : Int32)).toInt; omega, r9, fun j => by rw [V9.1]; exact m j, V9⟩
  obtain ⟨i0, ir, im, iv⟩ := I
  have et := wt_tnI i0
  unfold wp_md_exchange_B43
  refine wt_H_if (fun _ => wt_H_some iv) (fun e => ?_)
  have e' := wt_ncle e
  have ei := wt_i1 (c := t.2.2.1) (by omega)
  obtain ⟨A, hA⟩ : ∃ A : Nat, A = Int32.toNatClampNeg t.2.2.1 := ⟨_, rfl⟩
  rw [← hA] at et
  have hA26 : A < 26 := by omega
  have gA : 0 ≤ (wt_ga t.2.2.2 111 A).toInt ∧ (wt_ga t.2.2.2 111 A).toInt ≤ 13 := wt_Ra1 ir 111 (show 111 ≤ 111 by omega) (show 111 < 112 by omega) A
  have mA := im A
  -- the piece that goes
  refine wt_H_it (fun u : Int32 × Int32 × wt_St => u.2.2 = t.2.2.2 ∧ 0 ≤ u.2.1.toInt ∧ (u.1 = (-1 : Int32) ∨ ∃ i : Nat, (i : Int) < (wt_ga t.2.2.2 111 A).toInt ∧ u.1.toInt = ((13 * A + i : Nat) : Int))) (fun K2 u J hK2 => ?_) n _ ⟨rfl, by show 0 ≤ ((0 : Int32)).toInt; omega, Or.inl rfl⟩
  obtain ⟨j0, j1, j2⟩ := J
  have eu := wt_tnI j1
  unfold wp_md_exchange_B56
  rw [j0, ← hA]
  refine wt_H_gd (fun _ => wt_H_if (fun _ => ?_) (fun f => ?_))
  rotate_left
  · have f' := wt_ncle f
    have eui := wt_i1 (c := u.2.1) (by omega)
    refine wt_H_bh (wh_cell n (l := A) (i := Int32.toNatClampNeg u.2.1) et.symm eu.symm hA26 (by omega)) (fun q26 h26 => ?_)
    obtain ⟨e26, c26⟩ := h26
    rw [e26]
    unfold wp_md_exchange_B112 wp_md_exchange_B121
    have S : wt_H (K2 (u.1, (u.2.1 + (1 : Int32)), t.2.2.2)) (fun q => wu_KV z q.2) := hK2 _ ⟨rfl, by show 0 ≤ (u.2.1 + (1 : Int32)).toInt; omega, j2⟩
    have N : wt_H ((wp_md_cell n t.2.2.1 u.2.1 t.2.2.2).bind fun q30 => K2 (q30.1, (u.2.1 + (1 : Int32)), q30.2)) (fun q => wu_KV z q.2) := by
      refine wt_H_bh (wh_cell n (l := A) (i := Int32.toNatClampNeg u.2.1) et.symm eu.symm hA26 (by omega)) (fun q30 h30 => ?_)
      rw [h30.1]
      exact hK2 _ ⟨rfl, by show 0 ≤ (u.2.1 + (1 : Int32)).toInt; omega, Or.inr ⟨Int32.toNatClampNeg u.2.1, by omega, h30.2⟩⟩
    refine wt_H_gd (fun _ => wt_H_if (fun _ => wt_H_if (fun _ => N) (fun _ => ?_)) (fun _ => S))
    refine wt_H_bh (wh_cell n (l := A) (i := Int32.toNatClampNeg u.2.1) et.symm eu.symm hA26 (by omega)) (fun q31 h31 => ?_)
    rw [h31.1]
    exact wt_H_gd (fun _ => wt_H_gd (fun _ => wt_H_if (fun _ => S) (fun _ => N)))
  -- what comes for it
  refine wt_H_it (fun w : Int32 × Int32 × Int32 × wt_St => 0 ≤ w.2.2.1.toInt ∧ wt_RI w.2.2.2 ∧ wt_M12 w.2.2.2 ∧ wu_KV z w.2.2.2) (fun K3 w L hK3 => ?_) n _ ⟨by show 0 ≤ ((0 : Int32)).toInt; omega, ir, im, iv⟩
  obtain ⟨w0, wr, wm, wv⟩ := L
  have ew := wt_tnI w0
  unfold wp_md_exchange_B130 wp_md_exchange_B279
  have OUT : wt_H (K (w.1, w.2.1, (t.2.2.1 + (1 : Int32)), w.2.2.2)) (fun q => wu_KV z q.2) := hK _ ⟨by show 0 ≤ (t.2.2.1 + (1 : Int32)).toInt; omega, wr, wm, wv⟩
  refine wt_H_if (fun _ => OUT) (fun g => wt_H_if (fun _ => OUT) (fun h => ?_))
  have g' := wt_ncle g
  have ewi := wt_i1 (c := w.2.2.1) (by omega)
  unfold wp_md_exchange_B273
  refine wt_H_gd (fun _ => wt_H_if (fun _ => hK3 _ ⟨by show 0 ≤ (w.2.2.1 + (1 : Int32)).toInt; omega, wr, wm, wv⟩) (fun _ => ?_))
  obtain ⟨ic, ic1, ic2⟩ : ∃ i : Nat, (i : Int) < (wt_ga t.2.2.2 111 A).toInt ∧ u.1.toInt = ((13 * A + i : Nat) : Int) := by
    rcases j2 with j2 | j2
    · exact absurd j2 h
    · exact j2
  have ec := wt_tnN ic2
  obtain ⟨B, hB⟩ : ∃ B : Nat, B = Int32.toNatClampNeg w.2.2.1 := ⟨_, rfl⟩
  rw [← hB] at ew
  have hB26 : B < 26 := by omega
  refine wt_H_it (fun p : Int32 × Int32 × wt_St => p.2.2 = w.2.2.2 ∧ 0 ≤ p.1.toInt ∧ p.1.toInt ≤ 400) (fun K4 p P hK4 => ?_) n _ ⟨rfl, by show 0 ≤ ((0 : Int32)).toInt; omega, by show ((0 : Int32)).toInt ≤ 400; omega⟩
  obtain ⟨p0, p1, p2⟩ := P
  unfold wp_md_exchange_B162 wp_md_exchange_B208 wp_md_exchange_B273
  rw [p0, ec]
  refine wt_H_gd (fun _ => wt_H_if (fun _ => ?_) (fun _ => ?_))
  · refine wt_H_gd (fun _ => wt_H_gd (fun _ => ?_))
    obtain ⟨s1, ε1⟩ : ∃ o : wt_St, o = wt_sa w.2.2.2 121 (13 * A + ic) (0 : Int32) := ⟨_, rfl⟩
    rw [← ε1]
    have f1 := wt_fr_sa ε1
    have r1 := wt_Rn3 wr ε1 (by decide) (by decide) (show 0 ≤ ((0 : Int32)).toInt by omega) (show ((0 : Int32)).toInt ≤ 400 by omega)
    have e111 : ∀ j, wt_ga s1 111 j = wt_ga w.2.2.2 111 j := f1.2 111 (by decide)
    refine wt_H_bh (wh_withOneR n hn r1 (fun j => by rw [e111]; exact wm j) ew.symm hB26 p1 p2) (fun q18 h18 => ?_)
    obtain ⟨⟨qr, qm⟩, q111, qc⟩ := h18
    have gc : 0 ≤ (wt_ga w.2.2.2 121 (13 * A + ic)).toInt ∧ (wt_ga w.2.2.2 121 (13 * A + ic)).toInt ≤ 400 := wt_Ra3 wr 121 (show 120 ≤ 121 by omega) (show 121 < 122 by omega) (13 * A + ic)
    refine wt_H_gd (fun _ => ?_)
    obtain ⟨s2, ε2⟩ : ∃ o : wt_St, o = wt_sa q18.2 121 (13 * A + ic) (wt_ga w.2.2.2 121 (13 * A + ic)) := ⟨_, rfl⟩
    rw [← ε2]
    have f2 := wt_fr_sa ε2
    have r2 := wt_Rn3 qr ε2 (by decide) (by decide) gc.1 gc.2
    have a111 : ∀ j, wt_ga s2 111 j = wt_ga z 111 j := fun j => (f2.2 111 (by decide) j).trans ((q111 j).trans ((e111 j).trans (wv.1 j)))
    have V : wu_KV z s2 := ⟨a111, fun l i hl hi => by
      have gB : 0 ≤ (wt_ga w.2.2.2 111 B).toInt ∧ (wt_ga w.2.2.2 111 B).toInt ≤ 13 := wt_Ra1 wr 111 (show 111 ≤ 111 by omega) (show 111 < 112 by omega) B
      have eB := wt_tnI gB.1
      have mB := wm B
      have ml := m l
      have evB := congrArg Int32.toInt (wv.1 B)
      have nc : 13 * l + i ≠ 13 * B + Int32.toNatClampNeg (wt_ga s1 111 B) := fun h => by
        rw [e111] at h
        have hll : l = B := by omega
        rw [hll] at hi
        omega
      obtain ⟨c1, c2⟩ := qc _ nc
      refine ⟨?_, ?_⟩
      · by_cases h : 13 * l + i = 13 * A + ic
        · rw [h, wt_v_sa ε2, ← h]
          exact (wv.2 l i hl hi).1
        · rw [wt_w_sa ε2 _ h, c1, wt_w_sa ε1 _ h]
          exact (wv.2 l i hl hi).1
      · rw [f2.2 124 (by decide), c2, f1.2 124 (by decide)]
        exact (wv.2 l i hl hi).2⟩
    have M : wt_M12 s2 := fun j => by rw [a111]; exact m j
    exact wt_H_if (fun _ => hK3 _ ⟨by show 0 ≤ (w.2.2.1 + (1 : Int32)).toInt; omega, r2, M, V⟩) (fun _ => hK3 _ ⟨by show 0 ≤ (w.2.2.1 + (1 : Int32)).toInt; omega, r2, M, V⟩)
  · have CE : wt_H (wp_md_cell n w.2.2.1 p.2.1 w.2.2.2) (fun q => q.2 = w.2.2.2) := by
      unfold wp_md_cell
      exact wt_H_some rfl
    refine wt_H_bh CE (fun q21 h21 => ?_)
    rw [h21]
    refine wt_H_gd (fun _ => wt_H_if (fun _ => hK4 _ ⟨rfl, p1, p2⟩) (fun _ => ?_))
    refine wt_H_bh CE (fun q24 h24 => ?_)
    rw [h24]
    have g3 : 0 ≤ (wt_ga w.2.2.2 123 (Int32.toNatClampNeg q24.1)).toInt ∧ (wt_ga w.2.2.2 123 (Int32.toNatClampNeg q24.1)).toInt ≤ 400 := wt_Ra4 wr 123 (show 122 ≤ 123 by omega) (show 123 < 124 by omega) (Int32.toNatClampNeg q24.1)
    exact wt_H_gd (fun _ => hK4 _ ⟨rfl, g3.1, g3.2⟩)
/-- tried together, taken apart again -/
def wu_KT (z y : wt_St) : Prop := wt_RI y ∧ (∀ j, wt_ga y 111 j = wt_ga z 111 j) ∧ (∀ c, wt_ga y 121 c = wt_ga z 121 c) ∧ ∀ c, wt_ga y 124 c = wt_ga z 124 c ∨ (wt_ga z 124 c = (-1 : Int32) ∧ wt_ga y 124 c = (4 : Int32)) ∨ wt_ga z 124 c = (4 : Int32)
theorem wu_KT_fr {z y y' : wt_St} {F : Nat → Nat → Prop} {A : Nat → Prop} (h : wu_KT z y) (f : wt_fr F A y y') (r : wt_RI y') (hA : ¬ A 111 ∧ ¬ A 121 ∧ ¬ A 124) : wu_KT z y' := ⟨r, fun j => (f.2 111 hA.1 j).trans (h.2.1 j), fun c => (f.2 121 hA.2.1 c).trans (h.2.2.1 c), fun c => by rw [f.2 124 hA.2.2 c]; exact h.2.2.2 c⟩
def wu_K0 (z y : wt_St) : Prop := wt_RI y ∧ (∀ j, wt_ga y 111 j = wt_ga z 111 j) ∧ (∀ c, wt_ga y 121 c = wt_ga z 121 c) ∧ ∀ c, c < 338 → wt_ga y 124 c = wt_ga z 124 c ∨ wt_ga z 124 c = (4 : Int32)
set_option maxHeartbeats 8000000 in
theorem wh_togetherR (n : Nat) (hn : 4294967297 < n) {x1 : Int32} {z : wt_St} (r : wt_RI z) : wt_H (wp_md_together n x1 z) (fun q => wu_K0 z q.2) := by
  have k0 : (0 : Int32).toInt = 0 := by decide
  have k338 : (338 : Int32).toInt = 338 := by decide
  unfold wp_md_together
  obtain ⟨z0, ε0⟩ : ∃ o : wt_St, o = wt_sf z 108 0 (0 : Int32) := ⟨_, rfl⟩
  rw [← ε0]
  have g0 := wt_fr_sf ε0
  have t0 : wt_gf z0 108 0 = 0 := wt_v_sf ε0
  have r0 : wt_RI z0 := wt_RI_fno r ε0 (Or.inr (by decide +kernel))
  have T0 : wu_K0 z z0 := ⟨r0, g0.2 111 (fun h => h), g0.2 121 (fun h => h), fun c _ => Or.inl (g0.2 124 (fun h => h) c)⟩
  refine wt_H_bh (wh_isCopies n) (fun q1 h1 => ?_)
  rw [h1.1]
  unfold wp_md_together_B18
  refine wt_H_if (fun _ => wh_b1 n t0 (by decide) ?_) (fun _ => ?_)
  · have g1 : wt_fr _ _ z0 (wt_sf z0 108 0 (1 : Int32)) := wt_fr_sf rfl
    exact ⟨wt_RI_fno r0 rfl (Or.inr (by decide +kernel)), fun j => (g1.2 111 (fun h => h) j).trans (T0.2.1 j), fun c => (g1.2 121 (fun h => h) c).trans (T0.2.2.1 c), fun c hc => by rw [g1.2 124 (fun h => h) c]; exact T0.2.2.2 c hc⟩
  refine wt_H_bh (wh_bad0 n t0) (fun y hy => ?_)
  subst hy
  rw [if_pos (show ((0 : Int32), z0).1 = 0 from rfl)]
  refine wt_H_it (fun t : Int32 × Int32 × wt_St => wu_K0 z t.2.2) (fun K t I hK => ?_) n _ T0
  unfold wp_md_together_B31 wp_md_together_B164
  refine wt_H_if (fun _ => wt_H_some I) (fun _ => ?_)
  refine wt_H_bh (wq_md_ones n hn _ _ I.1).h (fun q6 h6 => ?_)
  rw [h6]
  refine wt_H_bh (wq_md_ones n hn _ _ I.1).h (fun q7 h7 => ?_)
  rw [h7]
  refine wt_H_if (fun _ => ?_) (fun _ => hK _ I)
  -- the row is taken back at the end
  have BACK : ∀ (x4 : Int32) (s : wt_St), wt_RI s → (∀ j, wt_ga s 111 j = wt_ga z 111 j) → (∀ c, wt_ga s 121 c = wt_ga z 121 c) → (∀ c, c < 338 → wt_ga s 124 c = wt_ga z 124 c ∨ (wt_ga z 124 c = (-1 : Int32) ∧ wt_ga s 124 c = (4 : Int32)) ∨ wt_ga z 124 c = (4 : Int32)) → wt_H (wp_md_together_B107 n x1 t.1 t.2.1 x4 K s) (fun q => wu_K0 z q.2) := fun x4 s rs e1 e2 e4 => by
    unfold wp_md_together_B107
    refine wt_H_it (fun u : Int32 × wt_St => 0 ≤ u.1.toInt ∧ wt_RI u.2 ∧ wt_fr (fun _ _ => False) (fun i => i = 124) s u.2 ∧ (∀ c : Nat, (c : Int) < u.1.toInt → c < 338 → wt_ga u.2 124 c = wt_ga z 124 c ∨ wt_ga z 124 c = (4 : Int32)) ∧ ∀ c : Nat, u.1.toInt ≤ (c : Int) → wt_ga u.2 124 c = wt_ga s 124 c) (fun K2 u J hK2 => ?_) n _ ⟨by show 0 ≤ ((0 : Int32)).toInt; omega, rs, wt_fr.rf, fun k hk => absurd (show (k : Int) < ((0 : Int32)).toInt from hk) (by omega), fun _ _ => rfl⟩
    obtain ⟨j0, jr, jf, j1, j2⟩ := J
    have eu := wt_tnI j0
    unfold wp_md_together_B110 wp_md_together_B163 wp_md_together_B164
    refine wt_H_if (fun c => ?_) (fun c => ?_)
    · have c' := wt_cle c
      have F : wu_K0 z u.2 := ⟨jr, fun j => (jf.2 111 (by decide) j).trans (e1 j), fun c => (jf.2 121 (by decide) c).trans (e2 c), fun c hc => j1 c (by omega) hc⟩
      exact wt_H_if (fun _ => hK _ F) (fun _ => hK _ F)
    · have c' := wt_ncle c
      have ei := wt_i1 (c := u.1) (by omega)
      have v := j2 (Int32.toNatClampNeg u.1) (by omega)
      unfold wp_md_together_B146
      have N : ∀ w : Int32, (w = wt_ga z 124 (Int32.toNatClampNeg u.1) ∨ wt_ga z 124 (Int32.toNatClampNeg u.1) = (4 : Int32)) → wt_H (K2 ((u.1 + (1 : Int32)), (wt_sa u.2 124 (Int32.toNatClampNeg u.1) w))) (fun q => wu_K0 z q.2) := fun w hw => by
        obtain ⟨s1, ε1⟩ : ∃ o : wt_St, o = wt_sa u.2 124 (Int32.toNatClampNeg u.1) w := ⟨_, rfl⟩
        rw [← ε1]
        refine hK2 _ ⟨by show 0 ≤ (u.1 + (1 : Int32)).toInt; omega, wt_RI_no jr ε1 124 125 (by decide +kernel) (by decide) (by decide), jf.sa ε1 rfl, fun c hc h3 => ?_, fun c hc => ?_⟩
        · have hc' : (c : Int) < (u.1 + (1 : Int32)).toInt := hc
          show wt_ga s1 124 c = wt_ga z 124 c ∨ wt_ga z 124 c = (4 : Int32)
          by_cases h : c = Int32.toNatClampNeg u.1
          · rw [h, wt_v_sa ε1]; exact hw
          · rw [wt_w_sa ε1 c h]; exact j1 c (by omega) h3
        · have hc' : (u.1 + (1 : Int32)).toInt ≤ (c : Int) := hc
          show wt_ga s1 124 c = wt_ga s 124 c
          rw [wt_w_sa ε1 c (by omega)]
          exact j2 c (by omega)
      have e := e4 (Int32.toNatClampNeg u.1) (by omega)
      refine wt_H_gd (fun _ => wt_H_if (fun d => wt_H_gd (fun _ => N _ ?_)) (fun d => wt_H_gd (fun _ => wt_H_gd (fun _ => N _ ?_))))
      · rw [v] at d
        rcases e with e | ⟨e, -⟩ | e
        · rw [d] at e
          exact Or.inr e.symm
        · exact Or.inl e.symm
        · exact Or.inr e
      · rw [v]
        rw [v] at d
        rcases e with e | ⟨-, e⟩ | e
        · exact Or.inl e
        · exact absurd e d
        · exact Or.inr e
  refine wt_H_it (fun u : Int32 × Int32 × wt_St => 0 ≤ u.2.1.toInt ∧ wt_RI u.2.2 ∧ (∀ j, wt_ga u.2.2 111 j = wt_ga z 111 j) ∧ (∀ c, wt_ga u.2.2 121 c = wt_ga z 121 c) ∧ ∀ c, c < 338 → wt_ga u.2.2 124 c = wt_ga z 124 c ∨ (wt_ga z 124 c = (-1 : Int32) ∧ wt_ga u.2.2 124 c = (4 : Int32)) ∨ wt_ga z 124 c = (4 : Int32)) (fun K2 u J hK2 => ?_) n _ ⟨by show 0 ≤ ((0 : Int32)).toInt; omega, I.1, I.2.1, I.2.2.1, fun c hc => (I.2.2.2 c hc).imp (fun h => h) (fun h => Or.inr h)⟩
  obtain ⟨j0, jr, j1, j2, j3⟩ := J
  have hz : 0 ≤ (wt_gf u.2.2 108 39).toInt ∧ (wt_gf u.2.2 108 39).toInt ≤ 8 := wt_Rf7 jr
  unfold wp_md_together_B61 wp_md_together_B101
  refine wt_H_if (fun _ => BACK _ _ jr j1 j2 j3) (fun c => wt_H_if (fun _ => BACK _ _ jr j1 j2 j3) (fun _ => ?_))
  have c' := wt_ncle c
  have ei := wt_i1 (c := u.2.1) (by omega)
  refine wt_H_if (fun _ => hK2 _ ⟨by show 0 ≤ (u.2.1 + (1 : Int32)).toInt; omega, jr, j1, j2, j3⟩) (fun _ => ?_)
  refine wt_H_bh (wq_md_needsText n hn u.2.1 u.2.2 jr j0 (by omega)).h (fun q18 h18 => ?_)
  obtain ⟨f18, r18, nb, -⟩ := h18
  have k4 : (4 : Int32).toInt = 4 := by decide
  refine wt_H_bh (wt_H_and (wh_takesR n hn r18) (wq_md_takes n hn x1 (4 : Int32) q18 r18 (by omega) (by omega) nb).h) (fun q19 h19 => ?_)
  obtain ⟨h19, f19, r19, -⟩ := h19
  have F := wt_fr.tr (F := fun i k => i = 108 ∧ k = 54) (A := fun i => i = 287 ∨ i = 124 ∨ i = 288) (wt_frw f18 (fun i k h => h.elim) (fun i h => Or.inl h)) f19 (fun i k h => h) (fun i h => Or.inr h)
  refine hK2 _ ⟨by show 0 ≤ (u.2.1 + (1 : Int32)).toInt; omega, r19, fun j => (F.2 111 (by decide) j).trans (j1 j), fun c => (F.2 121 (by decide) c).trans (j2 c), fun c hc => ?_⟩
  show wt_ga q19.2 124 c = wt_ga z 124 c ∨ (wt_ga z 124 c = (-1 : Int32) ∧ wt_ga q19.2 124 c = (4 : Int32)) ∨ wt_ga z 124 c = (4 : Int32)
  have a : wt_ga q18 124 c = wt_ga u.2.2 124 c := f18.2 124 (by decide) c
  rcases h19 with ⟨-, h19⟩ | ⟨-, h19, -⟩
  · rw [h19, a]
    exact j3 c hc
  · rcases h19 c with h | ⟨h1, h2, -⟩
    · rw [h, a]
      exact j3 c hc
    · rw [a] at h1
      rcases j3 c hc with j | ⟨j, -⟩ | j
      · exact Or.inr (Or.inl ⟨by rw [← j]; exact h1, h2⟩)
      · exact Or.inr (Or.inl ⟨j, h2⟩)
      · exact Or.inr (Or.inr j)
end WTQ3
-- 96i.rm.lean.txt
section WTQ4
/-! case, pieces, pages, wants, images: alike on both sides between the calls -/
def wu_RM (σ : wt_St) : Prop := wu_LC σ σ ∧ wu_SC σ σ ∧ wu_SI σ σ
def wu_mF (i k : Nat) : Prop := (i = 4 ∧ k = 7) ∨ (i = 39 ∧ (k = 8 ∨ k = 9)) ∨ (i = 0 ∧ k = 14) ∨ i = 49 ∨ i = 58 ∨ i = 67
def wu_mA (i : Nat) : Prop := i = 5 ∨ (6 < i ∧ i < 12) ∨ (39 < i ∧ i < 48) ∨ (49 < i ∧ i < 76)
def wu_mG (k : Nat) : Prop := k = 25 ∨ k = 26 ∨ k = 39 ∨ k = 40 ∨ k = 41
def wu_mB (i : Nat) : Prop := i = 111 ∨ i = 113 ∨ i = 115 ∨ i = 117 ∨ i = 119 ∨ i = 121 ∨ i = 123 ∨ i = 124 ∨ (264 ≤ i ∧ i < 274) ∨ i = 275 ∨ i = 276 ∨ (278 ≤ i ∧ i < 282) ∨ (283 ≤ i ∧ i < 286)
/-- of it, case and images alone -/
def wu_iF (i k : Nat) : Prop := (i = 4 ∧ k = 7) ∨ (i = 0 ∧ k = 14) ∨ i = 49 ∨ i = 58 ∨ i = 67
def wu_iA (i : Nat) : Prop := i = 5 ∨ (6 < i ∧ i < 12) ∨ (49 < i ∧ i < 76)
def wu_iG (k : Nat) : Prop := k = 25 ∨ k = 39 ∨ k = 41
def wu_iB (i : Nat) : Prop := i = 111 ∨ i = 113 ∨ i = 115 ∨ i = 117 ∨ i = 119 ∨ i = 123 ∨ (283 ≤ i ∧ i < 286)
theorem wu_LI1 {s s' z z' : wt_St} {F F' : Nat → Nat → Prop} {A A' : Nat → Prop} (r : wt_RI z) (a : wu_LC s z) (b : wu_SI s z) (f : wt_fr F A s s') (g : wt_fr F' A' z z') (h1 : ∀ i k, wu_iF i k → ¬ F i k) (h2 : ∀ i, wu_iA i → ¬ A i) (h7 : ∀ k, wu_iG k → ¬ F' 108 k) (h8 : ∀ i, wu_iB i → ¬ A' i) : wu_LC s' z' ∧ wu_SI s' z' := by
  have g41 : 0 ≤ (wt_gf z 108 41).toInt ∧ (wt_gf z 108 41).toInt ≤ 3 := wt_Rf9 r
  exact ⟨wu_LC_fr a f g (h1 _ _ (by unfold wu_iF; omega)) (fun i hi => h2 _ (by unfold wu_iA; omega)) (h7 _ (by unfold wu_iG; omega)) (fun i hi => h8 _ (by unfold wu_iB; omega)), wu_SI_fr b f g g41.2 (fun i k h => h1 _ _ (by unfold wu_iF; omega)) (fun k h => h7 _ (by unfold wu_iG; omega)) (fun i p q => h2 _ (by unfold wu_iA; omega)) (fun i h => h8 _ (by unfold wu_iB; omega))⟩
theorem wu_LI_fr {σ σ1 σ2 : wt_St} {F F' : Nat → Nat → Prop} {A A' : Nat → Prop} (r0 : wt_RI σ) (r : wt_RI σ1) (j : wu_RM σ) (f : wt_fr F A σ σ1) (g : wt_fr F' A' σ1 σ2) (h1 : ∀ i k, wu_iF i k → ¬ F i k) (h2 : ∀ i, wu_iA i → ¬ A i) (h3 : ∀ k, ¬ F 108 k) (h4 : ∀ i, 108 ≤ i → ¬ A i) (h5 : ∀ i k, i < 108 → ¬ F' i k) (h6 : ∀ i, i < 108 → ¬ A' i) (h7 : ∀ k, wu_iG k → ¬ F' 108 k) (h8 : ∀ i, wu_iB i → ¬ A' i) : wu_LC σ2 σ2 ∧ wu_SI σ2 σ2 := by
  obtain ⟨a1, b1⟩ := wu_LI1 r0 j.1 j.2.2 f f h1 h2 (fun k _ => h3 k) (fun i hi => h4 i (by unfold wu_iB at hi; omega))
  exact wu_LI1 r a1 b1 g g (fun i k h => h5 i k (by unfold wu_iF at h; omega)) (fun i h => h6 i (by unfold wu_iA at h; omega)) h7 h8
theorem wu_RM_fr {σ σ1 σ2 : wt_St} {F F' : Nat → Nat → Prop} {A A' : Nat → Prop} (r0 : wt_RI σ) (r : wt_RI σ1) (j : wu_RM σ) (f : wt_fr F A σ σ1) (g : wt_fr F' A' σ1 σ2) (h1 : ∀ i k, wu_mF i k → ¬ F i k) (h2 : ∀ i, wu_mA i → ¬ A i) (h3 : ∀ k, ¬ F 108 k) (h4 : ∀ i, 108 ≤ i → ¬ A i) (h5 : ∀ i k, i < 108 → ¬ F' i k) (h6 : ∀ i, i < 108 → ¬ A' i) (h7 : ∀ k, wu_mG k → ¬ F' 108 k) (h8 : ∀ i, wu_mB i → ¬ A' i) : wu_RM σ2 := by
  obtain ⟨a, b⟩ := wu_LI_fr r0 r j f g (fun i k h => h1 i k (by unfold wu_iF at h; unfold wu_mF; omega)) (fun i h => h2 i (by unfold wu_iA at h; unfold wu_mA; omega)) h3 h4 h5 h6 (fun k h => h7 k (by unfold wu_iG at h; unfold wu_mG; omega)) (fun i h => h8 i (by unfold wu_iB at h; unfold wu_mB; omega))
  have c1 : wu_SC σ1 σ1 := wu_SC_fr j.2.1 f f (fun k hk => h1 39 k (by unfold wu_mF; omega)) (fun k _ => h3 k) (fun i p q => h2 i (by unfold wu_mA; omega)) (fun i hi => h4 i (by omega))
  exact ⟨a, wu_SC_fr c1 g g (fun k _ => h5 39 k (by omega)) (fun k hk => h7 k (by unfold wu_mG; omega)) (fun i p q => h6 i (by omega)) (fun i hi => h8 i (by unfold wu_mB; omega)), b⟩
/-- the class has run -/
theorem wu_midM {σ σ1 : wt_St} {F : Nat → Nat → Prop} {A : Nat → Prop} (j : wu_RM σ) (r0 : wt_RI σ) (f : wt_fr F A σ σ1) (h3 : ∀ k, ¬ F 108 k) (h4 : ∀ i, 108 ≤ i → ¬ A i) : wu_LC σ σ1 ∧ wu_SC σ σ1 ∧ wu_SI σ σ1 := by
  have R : wt_fr (fun _ _ => False) (fun _ => False) σ σ := wt_fr.rf
  obtain ⟨a, b⟩ := wu_LI1 r0 j.1 j.2.2 R f (fun _ _ _ h => h) (fun _ _ h => h) (fun k _ => h3 k) (fun i hi => h4 i (by unfold wu_iB at hi; omega))
  exact ⟨a, wu_SC_fr j.2.1 R f (fun _ _ h => h) (fun k _ => h3 k) (fun _ _ _ h => h) (fun i hi => h4 i (by omega)), b⟩
/-- the reference has run -/
theorem wu_endSC {q r : wt_St} {F : Nat → Nat → Prop} {A : Nat → Prop} (sc : wu_SC q r) (g : wt_fr F A q r) (h5 : ∀ i k, i < 108 → ¬ F i k) (h6 : ∀ i, i < 108 → ¬ A i) : wu_SC r r := wu_SC_fr sc g (wt_fr.rf (F := fun _ _ => False) (A := fun _ => False)) (fun k _ => h5 39 k (by omega)) (fun _ _ h => h) (fun i p q => h6 i (by omega)) (fun _ _ h => h)
theorem wu_endLC {q r : wt_St} {F : Nat → Nat → Prop} {A : Nat → Prop} (lc : wu_LC q r) (g : wt_fr F A q r) (h5 : ∀ i k, i < 108 → ¬ F i k) (h6 : ∀ i, i < 108 → ¬ A i) : wu_LC r r := wu_LC_fr lc g (wt_fr.rf (F := fun _ _ => False) (A := fun _ => False)) (h5 4 7 (by omega)) (fun i hi => h6 i (by omega)) (fun h => h) (fun _ _ h => h)
theorem wu_endSI {q r : wt_St} {F : Nat → Nat → Prop} {A : Nat → Prop} (si : wu_SI q r) (rr : wt_RI r) (g : wt_fr F A q r) (h5 : ∀ i k, i < 108 → ¬ F i k) (h6 : ∀ i, i < 108 → ¬ A i) : wu_SI r r := by
  have g41 : 0 ≤ (wt_gf r 108 41).toInt ∧ (wt_gf r 108 41).toInt ≤ 3 := wt_Rf9 rr
  exact wu_SI_fr si g (wt_fr.rf (F := fun _ _ => False) (A := fun _ => False)) g41.2 (fun i k h => h5 i k (by omega)) (fun _ _ h => h) (fun i p q => h6 i (by omega)) (fun _ _ h => h)
/-- only the pieces that there are count -/
theorem wu_SC_kv {s z y : wt_St} {F : Nat → Nat → Prop} {A : Nat → Prop} (h : wu_SC s z) (kv : wu_KV z y) (f : wt_fr F A z y) (hF : ∀ k, k = 40 ∨ k = 26 ∨ k = 39 → ¬ F 108 k) (hA : ∀ i, i = 275 ∨ i = 276 ∨ (278 ≤ i ∧ i < 282) ∨ (264 ≤ i ∧ i < 274) → ¬ A i) : wu_SC s y := by
  have A' : ∀ i, i = 275 ∨ i = 276 ∨ (278 ≤ i ∧ i < 282) ∨ (264 ≤ i ∧ i < 274) → wt_ga y i = wt_ga z i := fun i hi => funext (f.2 i (hA i hi))
  have A1 : wt_ga y 111 = wt_ga z 111 := funext kv.1
  obtain ⟨h1, h2, h3, h4⟩ := h
  refine ⟨?_, ?_, ?_, ?_⟩
  · rw [f.1 108 26 (hF 26 (by omega))]; exact h1
  · rw [f.1 108 40 (hF 40 (by omega)), f.1 108 39 (hF 39 (by omega))]
    refine ⟨h2.1, h2.2.1, fun k hk => ?_⟩
    have g := h2.2.1
    show (wt_ga s (39 + 5) k = wt_ga y (264 + k) 0 ∧ wt_ga s (39 + 6) k = wt_ga y (264 + k) 1 ∧ wt_ga s (39 + 7) k = wt_ga y (264 + k) 2 ∧ wt_ga s (39 + 8) k = wt_ga y (264 + k) 3) ∧ _
    rw [A' (264 + k) (by omega)]
    exact h2.2.2 k hk
  · rw [A1, A' 275 (by omega)]
    intro l hl
    refine ⟨fun i hi => ?_, (h3 l hl).2⟩
    obtain ⟨p1, p2⟩ := kv.2 l i hl hi
    rw [p1, p2]
    exact (h3 l hl).1 i hi
  · rw [A1, A' 275 (by omega), A' 276 (by omega)]
    intro g hg
    obtain ⟨q1, q2⟩ := h4 g hg
    refine ⟨q1, fun st => ⟨fun k hk => ?_, fun l i hl hi ho => ?_⟩⟩
    · obtain ⟨l, i, l1, l2, l3, l4, l5⟩ := (q2 st).1 k hk
      refine ⟨l, i, l1, l2, ?_, ?_, ?_⟩
      · show (wt_ga y (278 + g) k).toInt = _
        rw [A' (278 + g) (by omega)]; exact l3
      · rw [(kv.2 l i l1 l2).2]; exact l4
      · show (wt_ga s (39 + 3) (12 * l + i)).toInt = wt_ct (fun k' => (wt_ga y (278 + g) k').toInt / 13) (l : Int) k
        rw [A' (278 + g) (by omega)]; exact l5
    · rw [(kv.2 l i hl hi).2] at ho
      obtain ⟨k, k1, k2⟩ := (q2 st).2 l i hl hi ho
      refine ⟨k, k1, ?_⟩
      show (wt_ga y (278 + g) k).toInt = _
      rw [A' (278 + g) (by omega)]; exact k2
theorem wt_fr_less {F : Nat → Nat → Prop} {A : Nat → Prop} {s s' : wt_St} {i0 : Nat} (f : wt_fr F A s s') (h : ∀ j, wt_ga s' i0 j = wt_ga s i0 j) : wt_fr F (fun i => A i ∧ i ≠ i0) s s' := ⟨f.1, fun i hi j => by
  by_cases e : i = i0
  · rw [e]; exact h j
  · exact f.2 i (fun a => hi ⟨a, e⟩) j⟩
theorem wu_KV_K0 {s z y : wt_St} (m : wt_M12 z) (sc : wu_SC s z) (h : wu_K0 z y) : wu_KV z y := ⟨h.2.1, fun l i hl hi => ⟨h.2.2.1 _, by
  have k4 : (4 : Int32).toInt = 4 := by decide
  rcases h.2.2.2 (13 * l + i) (by have := m l; omega) with e | e
  · exact e
  · obtain ⟨-, -, o⟩ := (sc.2.2.1 l hl).1 i hi
    have e' := congrArg Int32.toInt e
    rw [k4] at e'
    rcases o with o | ⟨g, g4, o, -⟩
    · omega
    · omega⟩⟩
theorem wu_RM_kv {σ σ1 σ2 : wt_St} {F F' : Nat → Nat → Prop} {A A' : Nat → Prop} (r0 : wt_RI σ) (r : wt_RI σ1) (j : wu_RM σ) (f : wt_fr F A σ σ1) (g : wt_fr F' A' σ1 σ2) (kv : wu_KV σ1 σ2) (h1 : ∀ i k, wu_mF i k → ¬ F i k) (h2 : ∀ i, wu_mA i → ¬ A i) (h3 : ∀ k, ¬ F 108 k) (h4 : ∀ i, 108 ≤ i → ¬ A i) (h5 : ∀ i k, i < 108 → ¬ F' i k) (h6 : ∀ i, i < 108 → ¬ A' i) (h7 : ∀ k, wu_mG k → ¬ F' 108 k) (h8 : ∀ i, wu_mB i → ¬ (i = 121 ∨ i = 124 ∨ i = 111) → ¬ A' i) : wu_RM σ2 := by
  have g' := wt_fr_less g kv.1
  obtain ⟨a, b⟩ := wu_LI_fr r0 r j f g' (fun i k h => h1 i k (by unfold wu_iF at h; unfold wu_mF; omega)) (fun i h => h2 i (by unfold wu_iA at h; unfold wu_mA; omega)) h3 h4 h5 (fun i h a => h6 i h a.1) (fun k h => h7 k (by unfold wu_iG at h; unfold wu_mG; omega)) (fun i h a => h8 i (by unfold wu_iB at h; unfold wu_mB; omega) (by unfold wu_iB at h; have := a.2; omega) a.1)
  have c1 : wu_SC σ1 σ1 := wu_SC_fr j.2.1 f f (fun k hk => h1 39 k (by unfold wu_mF; omega)) (fun k _ => h3 k) (fun i p q => h2 i (by unfold wu_mA; omega)) (fun i hi => h4 i (by omega))
  have c2 : wu_SC σ1 σ2 := wu_SC_kv c1 kv g (fun k hk => h7 k (by unfold wu_mG; omega)) (fun i hi => h8 i (by unfold wu_mB; omega) (by omega))
  exact ⟨a, wu_endSC c2 g h5 h6, b⟩
end WTQ4
