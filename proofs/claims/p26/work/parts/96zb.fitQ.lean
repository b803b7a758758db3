-- 96zb.fit.lean.txt
section WTQ0
/-! fitting: tools -/
theorem wt_H_rec {α ρ : Type} {body : (α → Option ρ) → α → Option ρ} (I : α → Prop) (Q : α → ρ → Prop) (h : ∀ (R : α → Option ρ) (s : α), I s → (∀ t, I t → wt_H (R t) (Q t)) → wt_H (body R s) (Q s)) : ∀ (n : Nat) (s : α), I s → wt_H (wt_it body n s) (Q s) := by
  intro n
  induction n with
  | zero => intro s _; exact wt_H_none
  | succ n ih => intro s hs; exact h _ s hs ih
theorem wt_HH_rec {α α' ρ ρ' : Type} {body : (α → Option ρ) → α → Option ρ} {body' : (α' → Option ρ') → α' → Option ρ'} (I : α → α' → Prop) (Q : α → α' → ρ → ρ' → Prop) (h : ∀ (R : α → Option ρ) (m' : Nat) (s : α) (s' : α'), I s s' → (∀ t t', I t t' → wt_HH (R t) (wt_it body' m' t') (Q t t')) → wt_HH (body R s) (body' (wt_it body' m') s') (Q s s')) : ∀ (n n' : Nat) (s : α) (s' : α'), I s s' → wt_HH (wt_it body n s) (wt_it body' n' s') (Q s s') := by
  intro n
  induction n with
  | zero => intro n' s s' _; exact wt_HH_nl
  | succ n ih =>
    intro n' s s' hs
    cases n' with
    | zero => exact wt_HH_nr
    | succ n' => exact h _ n' s s' hs (fun t t' ht => ih n' t t' ht)
theorem wt_HH_ita {α α' ρ ρ' : Type} {body : (α → Option ρ) → α → Option ρ} {body' : (α' → Option ρ') → α' → Option ρ'} {Q : ρ → ρ' → Prop} (I : α → α' → Prop) (h : ∀ (K' : α' → Option ρ') (m : Nat) (s : α) (s' : α'), I s s' → (∀ m' t t', I t t' → wt_HH (wt_it body m' t) (K' t') Q) → wt_HH (wt_it body m s) (body' K' s') Q) : ∀ (n' m : Nat) (s : α) (s' : α'), I s s' → wt_HH (wt_it body m s) (wt_it body' n' s') Q := by
  intro n'
  induction n' with
  | zero => intro m s s' _; exact wt_HH_nr
  | succ n' ih => intro m s s' hs; exact h _ m s s' hs (fun m' t t' ht => ih m' t t' ht)
theorem wt_HH_sl {α ρ β : Type} {body : (α → Option ρ) → α → Option ρ} {p' : Option β} {Q : ρ → β → Prop} {m : Nat} {s : α} (h : ∀ m', wt_HH (body (wt_it body m') s) p' Q) : wt_HH (wt_it body m s) p' Q := by
  cases m with
  | zero => exact wt_HH_nl
  | succ m => exact h m
set_option maxHeartbeats 1000000 in
theorem wh_spend (n : Nat) (hn : 4294967297 < n) {s z : wt_St} {t m W G w : Nat} {o : Nat → Nat} {x1 x2 : Int32} (R : wu_RW s z t m W G o) (hx : x1.toInt = (w : Int)) (hw : w < W) (h2 : x2.toInt = 1 ∨ x2.toInt = -1) (hb : ∀ l, l < 26 → -200 ≤ (wt_ga s 83 l).toInt ∧ (wt_ga s 83 l).toInt ≤ 200) : wt_H (wp_rw_spend n x1 x2 s) (fun q => wt_fr (fun _ _ => False) (fun i => i = 83) s q.2 ∧ (∀ l : Nat, l < 26 → (wt_ga q.2 83 l).toInt = (wt_ga s 83 l).toInt - x2.toInt * wt_nw z w (l : Int)) ∧ (x2.toInt = 1 → (∀ l : Nat, l < 26 → 0 ≤ (wt_ga s 83 l).toInt) → (q.1 = 1 ∧ ∀ l : Nat, l < 26 → 0 ≤ (wt_ga q.2 83 l).toInt) ∨ (q.1 = 0 ∧ ∃ l : Nat, l < 26 ∧ (wt_ga q.2 83 l).toInt < 0))) := by
  have k0 : (0 : Int32).toInt = 0 := by decide
  have R' := R
  obtain ⟨⟨-, -, -, h4, -⟩, -, -, tt, -⟩ := R'
  obtain ⟨a2, -, -, b2, -, e2⟩ := tt w hw
  have a2' : wt_ga s 22 w = wt_ga z 126 w := a2
  have b2' : 1 ≤ (wt_ga s 22 w).toInt ∧ (wt_ga s 22 w).toInt ≤ 9 := b2
  have el := wt_tnI (x := wt_ga s 22 w) (by omega)
  unfold wp_rw_spend
  refine wt_H_it (fun u : Int32 × Int32 × wt_St => (0 ≤ u.2.1.toInt ∧ u.2.1.toInt ≤ (wt_ga s 22 w).toInt) ∧ wt_fr (fun _ _ => False) (fun i => i = 83) s u.2.2 ∧ (∀ l : Nat, l < 26 → (wt_ga u.2.2 83 l).toInt = (wt_ga s 83 l).toInt - x2.toInt * wt_ct (fun k => (wt_ga z (193 + w) k).toInt) (l : Int) (Int32.toNatClampNeg u.2.1)) ∧ (x2.toInt = 1 → (∀ l : Nat, l < 26 → 0 ≤ (wt_ga s 83 l).toInt) → (u.1 = 1 ∧ ∀ l : Nat, l < 26 → 0 ≤ (wt_ga u.2.2 83 l).toInt) ∨ (u.1 = 0 ∧ ∃ l : Nat, l < 26 ∧ (wt_ga u.2.2 83 l).toInt < 0))) (fun K u I hK => ?_) n _ ⟨⟨by show 0 ≤ ((0 : Int32)).toInt; omega, by show ((0 : Int32)).toInt ≤ _; omega⟩, wt_fr.rf, fun l hl => by
    show (wt_ga s 83 l).toInt = (wt_ga s 83 l).toInt - x2.toInt * wt_ct _ (l : Int) (Int32.toNatClampNeg (0 : Int32))
    rw [wt_tn0]
    show _ = _ - x2.toInt * 0
    rw [Int.mul_zero]
    omega, fun _ h => Or.inl ⟨rfl, h⟩⟩
  obtain ⟨⟨i0, i1⟩, fu, i2, i3⟩ := I
  have eu := wt_tnI i0
  unfold wp_rw_spend_B5 wp_rw_spend_B70 wp_rw_spend_B71
  refine wt_H_bh (wh_look n hn (k := w) hx (by rw [show wt_ln 22 = 60 from by decide]; omega)) (fun q1 e1 => ?_)
  subst e1
  dsimp only
  rw [fu.2 22 (by decide)]
  refine wt_H_if (fun c => ?_) (fun c => ?_)
  · have c' := wt_cle c
    have en : Int32.toNatClampNeg u.2.1 = Int32.toNatClampNeg (wt_ga z 126 w) := by
      have := wt_tnI (x := wt_ga z 126 w) (by rw [← a2']; omega)
      rw [← a2'] at this ⊢
      omega
    rw [en] at i2
    exact wt_H_if (fun _ => wt_H_some ⟨fu, i2, i3⟩) (fun _ => wt_H_none)
  · have c' := wt_ncle c
    have ei := wt_i1 (c := u.2.1) (by omega)
    have en : Int32.toNatClampNeg (u.2.1 + (1 : Int32)) = Int32.toNatClampNeg u.2.1 + 1 := by have := wt_tnI (x := u.2.1 + (1 : Int32)) (by omega); omega
    obtain ⟨l1, l2, l3⟩ := e2 (Int32.toNatClampNeg u.2.1) (by show ((Int32.toNatClampNeg u.2.1 : Nat) : Int) < (wt_ga s 22 w).toInt; omega)
    have l1' : wt_ga s 21 (9 * w + Int32.toNatClampNeg u.2.1) = wt_ga z (193 + w) (Int32.toNatClampNeg u.2.1) := l1
    have l2' : 0 ≤ (wt_ga s 21 (9 * w + Int32.toNatClampNeg u.2.1)).toInt := l2
    have l3' : (wt_ga s 21 (9 * w + Int32.toNatClampNeg u.2.1)).toInt ≤ 25 := l3
    refine wt_H_bh (wh_letterAt n hn (t0 := 20) (w := w) (k := Int32.toNatClampNeg u.2.1) (by decide) hx (by omega) eu.symm (by omega)) (fun q4 e4 => ?_)
    subst e4
    dsimp only
    rw [fu.2 (20 + 1) (by decide)]
    obtain ⟨a, ha⟩ : ∃ a : Nat, a = Int32.toNatClampNeg (wt_ga s (20 + 1) (9 * w + Int32.toNatClampNeg u.2.1)) := ⟨_, rfl⟩
    have ea : (wt_ga s (20 + 1) (9 * w + Int32.toNatClampNeg u.2.1)).toInt = (a : Int) := by rw [ha]; exact (wt_tnI l2).symm
    have a26 : a < 26 := by
      have : (wt_ga s (20 + 1) (9 * w + Int32.toNatClampNeg u.2.1)).toInt ≤ 25 := l3
      omega
    refine wt_H_bh (wh_look n hn (k := a) ea (by rw [show wt_ln 83 = 26 from by decide]; exact a26)) (fun q5 e5 => ?_)
    subst e5
    dsimp only
    refine wt_H_bh (wh_put n (k := a) ea (by rw [show wt_ln 83 = 26 from by decide]; exact a26)) (fun q6 ε => ?_)
    have za : (wt_ga z (193 + w) (Int32.toNatClampNeg u.2.1)).toInt = (a : Int) := by rw [← l1']; exact ea
    have ctS : ∀ l : Nat, wt_ct (fun k => (wt_ga z (193 + w) k).toInt) (l : Int) (Int32.toNatClampNeg u.2.1 + 1) = wt_ct (fun k => (wt_ga z (193 + w) k).toInt) (l : Int) (Int32.toNatClampNeg u.2.1) + if (a : Int) = (l : Int) then 1 else 0 := fun l => by
      rw [wt_ct_s, za]
    have cb := wt_ct_bd (fun k => (wt_ga z (193 + w) k).toInt) (a : Int) (Int32.toNatClampNeg u.2.1)
    have va := i2 a a26
    have hba := hb a a26
    have es : (wt_ga u.2.2 83 a - x2).toInt = (wt_ga u.2.2 83 a).toInt - x2.toInt := by
      refine wt_subE ?_ ?_
      · rcases h2 with h | h <;> rw [h] at va ⊢ <;> omega
      · rcases h2 with h | h <;> rw [h] at va ⊢ <;> omega
    have v83 : ∀ l : Nat, l < 26 → (wt_ga q6 83 l).toInt = (wt_ga u.2.2 83 l).toInt - if l = a then x2.toInt else 0 := fun l hl => by
      by_cases x : l = a
      · rw [x, wt_v_sa ε, if_pos rfl]
        exact es
      · rw [wt_w_sa ε l x, if_neg x]
        omega
    have F6 := fu.sa ε rfl
    have VAL : ∀ l : Nat, l < 26 → (wt_ga q6 83 l).toInt = (wt_ga s 83 l).toInt - x2.toInt * wt_ct (fun k => (wt_ga z (193 + w) k).toInt) (l : Int) (Int32.toNatClampNeg (u.2.1 + (1 : Int32))) := fun l hl => by
      rw [v83 l hl, i2 l hl, en, ctS]
      by_cases x : l = a
      · rw [if_pos x, if_pos (by omega), Int.mul_add, Int.mul_one]
        omega
      · rw [if_neg x, if_neg (by omega), Int.add_zero]
        omega
    have N : ∀ y : Int32, (x2.toInt = 1 → (∀ l : Nat, l < 26 → 0 ≤ (wt_ga s 83 l).toInt) → (y = 1 ∧ ∀ l : Nat, l < 26 → 0 ≤ (wt_ga q6 83 l).toInt) ∨ (y = 0 ∧ ∃ l : Nat, l < 26 ∧ (wt_ga q6 83 l).toInt < 0)) → wt_H (K (y, (u.2.1 + (1 : Int32)), q6)) (fun q => wt_fr (fun _ _ => False) (fun i => i = 83) s q.2 ∧ (∀ l : Nat, l < 26 → (wt_ga q.2 83 l).toInt = (wt_ga s 83 l).toInt - x2.toInt * wt_nw z w (l : Int)) ∧ (x2.toInt = 1 → (∀ l : Nat, l < 26 → 0 ≤ (wt_ga s 83 l).toInt) → (q.1 = 1 ∧ ∀ l : Nat, l < 26 → 0 ≤ (wt_ga q.2 83 l).toInt) ∨ (q.1 = 0 ∧ ∃ l : Nat, l < 26 ∧ (wt_ga q.2 83 l).toInt < 0))) := fun y hy => hK _ ⟨⟨by show 0 ≤ (u.2.1 + (1 : Int32)).toInt; omega, by show (u.2.1 + (1 : Int32)).toInt ≤ _; omega⟩, F6, VAL, hy⟩
    refine wt_H_if (fun d => N 0 (fun h1 h3 => ?_)) (fun d => wt_H_if (fun g => N 0 (fun h1 _ => ?_)) (fun g => N 1 (fun h1 h3 => ?_)))
    · rcases i3 h1 h3 with ⟨p, -⟩ | ⟨-, l, p1, p2⟩
      · rw [d] at p
        exact absurd p (by decide)
      · refine Or.inr ⟨rfl, l, p1, ?_⟩
        rw [v83 l p1]
        split <;> omega
    · have g' := wt_clt g
      refine Or.inr ⟨rfl, a, a26, ?_⟩
      rw [v83 a a26, if_pos rfl]
      omega
    · have g' := wt_ncl g
      rcases i3 h1 h3 with ⟨-, p⟩ | ⟨p, -⟩
      · refine Or.inl ⟨rfl, fun l hl => ?_⟩
        rw [v83 l hl]
        by_cases x : l = a
        · rw [if_pos x, x]
          omega
        · rw [if_neg x]
          have := p l hl
          omega
      · exact absurd p d
/-- what a row of words needs -/
def wu_nd (z Z : wt_St) (k : Nat) (l : Int) : Int := wt_sum (fun j => wt_nw z (Int32.toNatClampNeg (wt_ga Z 319 j)) l) k
theorem wu_nd_s (z Z : wt_St) (k : Nat) (l : Int) : wu_nd z Z (k + 1) l = wu_nd z Z k l + wt_nw z (Int32.toNatClampNeg (wt_ga Z 319 k)) l := rfl
theorem wu_nd_eq {z Z Z' : wt_St} {k : Nat} {l : Int} (h : ∀ j, j < k → wt_ga Z' 319 j = wt_ga Z 319 j) : wu_nd z Z' k l = wu_nd z Z k l := wt_sum_congr k (fun j hj => by
  show wt_nw z (Int32.toNatClampNeg (wt_ga Z' 319 j)) l = wt_nw z (Int32.toNatClampNeg (wt_ga Z 319 j)) l
  rw [h j hj])
theorem wu_nw_bd {s z : wt_St} {t m W G w : Nat} {o : Nat → Nat} {l : Int} (R : wu_RW s z t m W G o) (hw : w < W) : 0 ≤ wt_nw z w l ∧ wt_nw z w l ≤ 9 := by
  obtain ⟨-, -, -, tt, -⟩ := R
  obtain ⟨a, -, -, b, -⟩ := tt w hw
  have c := wt_ct_bd (fun k' => (wt_ga z (193 + w) k').toInt) l (Int32.toNatClampNeg (wt_ga z 126 w))
  have d := wt_tnle (b := 9) (x := wt_ga z 126 w) (by rw [← a]; omega)
  unfold wt_nw
  omega
def wu_fF (z Z : wt_St) : Prop := wt_fr (fun i k => i = 108 ∧ k = 60) (fun i => i = 287 ∨ i = 318 ∨ i = 319) z Z
set_option maxHeartbeats 2000000 in
theorem wh_leaf (n : Nat) (hn : 4294967297 < n) {RR : Int32 × Int32 × Int32 × Int32 × wt_St → Option wt_St} {s z Z : wt_St} {t m W G k : Nat} {o : Nat → Nat} {x2 x3 x4 : Int32} (R : wu_RW s z t m W G o) (f : wu_fF z Z) (r : wt_RI Z) (h2 : x2.toInt = (k : Int)) (hk : k ≤ 12) (pw : ∀ j, j < k → 0 ≤ (wt_ga Z 319 j).toInt ∧ (wt_ga Z 319 j).toInt < (W : Int)) : wt_H ((wp_md_needsNone n Z).bind fun q14 => wt_it (wp_md_tries_B35 n RR x2 x3 x4) n ((0 : Int32), q14)) (fun q => wu_fF z q ∧ wt_RI q ∧ (∀ j, wt_ga q 319 j = wt_ga Z 319 j) ∧ (((∀ l : Nat, l < 26 → wu_nd z Z k (l : Int) ≤ wt_go z x3.toInt l) ∧ wt_gf q 108 60 = x4 ∧ ∀ j, j < k → wt_ga q 318 j = wt_ga Z 319 j) ∨ ((∃ l : Nat, l < 26 ∧ wt_go z x3.toInt l < wu_nd z Z k (l : Int)) ∧ wt_gf q 108 60 = wt_gf Z 108 60 ∧ ∀ j, wt_ga q 318 j = wt_ga Z 318 j))) := by
  have k0 : (0 : Int32).toInt = 0 := by decide
  have hW := R.1.2.2.2.1
  refine wt_H_bh (wq_md_needsNoneP n hn Z r).h (fun q14 h14 => ?_)
  obtain ⟨f14, r14, v14⟩ := h14
  refine wt_H_it (fun u : Int32 × wt_St => (0 ≤ u.1.toInt ∧ u.1.toInt ≤ (k : Int)) ∧ wt_RI u.2 ∧ wt_fr (fun _ _ => False) (fun i => i = 287) Z u.2 ∧ ∀ l : Nat, l < 26 → (wt_ga u.2 287 l).toInt = wu_nd z Z (Int32.toNatClampNeg u.1) (l : Int)) (fun K u I hK => ?_) n _ ⟨⟨by show 0 ≤ ((0 : Int32)).toInt; omega, by show ((0 : Int32)).toInt ≤ _; omega⟩, r14, f14, fun l hl => by
    show (wt_ga q14 287 l).toInt = wu_nd z Z (Int32.toNatClampNeg (0 : Int32)) (l : Int)
    rw [wt_tn0, v14 l hl]
    rfl⟩
  obtain ⟨⟨i0, i1⟩, ru, fu, i2⟩ := I
  have eu := wt_tnI i0
  have Fu : wu_fF z u.2 := wt_fr.tr f fu (fun _ _ h => h.elim) (fun _ h => Or.inl h)
  unfold wp_md_tries_B35
  refine wt_H_if (fun c => ?_) (fun c => ?_)
  · have c' := wt_cle c
    have ek : Int32.toNatClampNeg u.1 = k := by omega
    rw [ek] at i2
    have GO : ∀ l : Nat, wt_go u.2 x3.toInt l = wt_go z x3.toInt l := fun l => by
      unfold wt_go
      rw [Fu.2 111 (by decide)]
      refine wt_sum_congr _ (fun k _ => ?_)
      show wt_gf1 u.2 x3.toInt (13 * l + k) = wt_gf1 z x3.toInt (13 * l + k)
      unfold wt_gf1
      rw [Fu.2 124 (by decide), Fu.2 121 (by decide)]
    refine wt_H_bh (wh_lackingM n hn ru) (fun q16 h16 => ?_)
    obtain ⟨e16, h16⟩ := h16
    rw [e16]
    refine wt_H_if (fun d => ?_) (fun d => ?_)
    · have all : ∀ l : Nat, l < 26 → wu_nd z Z k (l : Int) ≤ wt_go z x3.toInt l := fun l hl => by
        rcases h16 with ⟨w, -, w2, -⟩ | ⟨-, w2⟩
        · rw [d, wt_lm1] at w2
          omega
        · have : ¬ wt_go u.2 x3.toInt l < (wt_ga u.2 287 l).toInt := w2 l hl
          rw [GO, i2 l hl] at this
          omega
      obtain ⟨s1, ε⟩ : ∃ q : wt_St, q = wt_sf u.2 108 60 x4 := ⟨_, rfl⟩
      rw [← ε]
      have g1 := wt_fr_sf ε
      have e319 : ∀ j, wt_ga s1 319 j = wt_ga Z 319 j := fun j => (g1.2 319 (fun h => h) j).trans (fu.2 319 (by decide) j)
      refine wt_H_it (fun v : Int32 × wt_St => (0 ≤ v.1.toInt ∧ v.1.toInt ≤ (k : Int)) ∧ wt_RI v.2 ∧ wt_fr (fun _ _ => False) (fun i => i = 318) s1 v.2 ∧ ∀ j : Nat, (j : Int) < v.1.toInt → wt_ga v.2 318 j = wt_ga Z 319 j) (fun K2 v J hK2 => ?_) n _ ⟨⟨by show 0 ≤ ((0 : Int32)).toInt; omega, by show ((0 : Int32)).toInt ≤ _; omega⟩, wt_RI_fno ru ε (Or.inr (by decide +kernel)), wt_fr.rf, fun j hj => absurd (show (j : Int) < ((0 : Int32)).toInt from hj) (by omega)⟩
      obtain ⟨⟨j0, j1⟩, rv, fv, j2⟩ := J
      have ev := wt_tnI j0
      unfold wp_md_tries_B77
      refine wt_H_if (fun g => ?_) (fun g => ?_)
      · have g' := wt_cle g
        refine wt_H_some ⟨wt_fr.tr (wt_fr.tr Fu g1 (fun _ _ h => h) (fun _ h => h.elim)) fv (fun _ _ h => h.elim) (fun _ h => Or.inr (Or.inl h)), rv, fun j => (fv.2 319 (by decide) j).trans (e319 j), Or.inl ⟨all, ?_, fun j hj => j2 j (by omega)⟩⟩
        rw [fv.1 108 60 (fun h => h)]
        exact wt_v_sf ε
      · have g' := wt_ncle g
        have evi := wt_i1 (c := v.1) (by omega)
        refine wt_H_gd (fun _ => wt_H_gd (fun _ => ?_))
        obtain ⟨s2, δ⟩ : ∃ q : wt_St, q = wt_sa v.2 318 (Int32.toNatClampNeg v.1) (wt_ga v.2 319 (Int32.toNatClampNeg v.1)) := ⟨_, rfl⟩
        rw [← δ]
        refine hK2 _ ⟨⟨by show 0 ≤ (v.1 + (1 : Int32)).toInt; omega, by show (v.1 + (1 : Int32)).toInt ≤ _; omega⟩, wt_RI_no rv δ 317 319 (by decide +kernel) (by decide) (by decide), fv.sa δ rfl, fun j hj => ?_⟩
        have hj' : (j : Int) < (v.1 + (1 : Int32)).toInt := hj
        show wt_ga s2 318 j = _
        by_cases x : j = Int32.toNatClampNeg v.1
        · rw [x, wt_v_sa δ, fv.2 319 (by decide)]
          exact e319 _
        · rw [wt_w_sa δ j x]
          exact j2 j (by omega)
    · refine wt_H_some ⟨Fu, ru, fun j => fu.2 319 (by decide) j, Or.inr ⟨?_, fu.1 108 60 (fun h => h), fun j => fu.2 318 (by decide) j⟩⟩
      rcases h16 with ⟨w, w1, -, w3, -⟩ | ⟨w1, -⟩
      · rw [GO, i2 w w1] at w3
        exact ⟨w, w1, w3⟩
      · exact absurd w1 d
  · have c' := wt_ncle c
    have ei := wt_i1 (c := u.1) (by omega)
    have en : Int32.toNatClampNeg (u.1 + (1 : Int32)) = Int32.toNatClampNeg u.1 + 1 := by have := wt_tnI (x := u.1 + (1 : Int32)) (by omega); omega
    have p := pw (Int32.toNatClampNeg u.1) (by omega)
    have ep := wt_tnI p.1
    rw [fu.2 319 (by decide)]
    have ndb : ∀ l : Nat, 0 ≤ wu_nd z Z (Int32.toNatClampNeg u.1) (l : Int) ∧ wu_nd z Z (Int32.toNatClampNeg u.1) (l : Int) ≤ 9 * ((Int32.toNatClampNeg u.1 : Nat) : Int) := fun l => wt_sum_bd (f := fun j => wt_nw z (Int32.toNatClampNeg (wt_ga Z 319 j)) (l : Int)) (c := 9) _ (fun j hj => by
      have q := pw j (by omega)
      have e := wt_tnI q.1
      exact wu_nw_bd R (by omega))
    refine wt_H_gd (fun _ => ?_)
    refine wt_H_bh (wq_md_needsWordP n hn (wt_ga Z 319 (Int32.toNatClampNeg u.1)) u.2 ru p.1 (by omega) (fun l hl => by rw [i2 l hl]; have := ndb l; omega)).h (fun q22 h22 => ?_)
    obtain ⟨f22, r22, v22⟩ := h22
    refine hK _ ⟨⟨by show 0 ≤ (u.1 + (1 : Int32)).toInt; omega, by show (u.1 + (1 : Int32)).toInt ≤ _; omega⟩, r22, wt_fr.tr fu f22 (fun _ _ h => h) (fun _ h => h), fun l hl => ?_⟩
    show (wt_ga q22 287 l).toInt = wu_nd z Z (Int32.toNatClampNeg (u.1 + (1 : Int32))) (l : Int)
    rw [v22 l hl, en, wu_nd_s, i2 l hl]
    have : wt_nw u.2 (Int32.toNatClampNeg (wt_ga Z 319 (Int32.toNatClampNeg u.1))) (l : Int) = wt_nw z (Int32.toNatClampNeg (wt_ga Z 319 (Int32.toNatClampNeg u.1))) (l : Int) := wt_nw_fr (by omega) (fun i hi j => Fu.2 i (by unfold wt_PA at hi; (try dsimp only); omega) j)
    rw [this]
end WTQ0
-- 96ze.most.lean.txt
section WTQ1
/-! most: which sets can be printed -/
theorem wu_bb_nI {x j : Nat} (hj : j < 32) : wu_bb (nI x) j = x.testBit j := by
  show (BitVec.ofNat 32 x).getLsbD j = x.testBit j
  rw [BitVec.getLsbD_ofNat]
  simp [hj]
theorem wu_bb_lt {x W j : Nat} (hx : x < 2 ^ W) (hj : W ≤ j) (h32 : j < 32) : wu_bb (nI x) j = false := by
  rw [wu_bb_nI h32]
  exact Nat.testBit_lt_two_pow (Nat.lt_of_lt_of_le hx (Nat.pow_le_pow_right (by omega) hj))
/-- the printing of a set, in the order of weeks; behind one that can't be, nothing -/
noncomputable def wu_CF (n : Nat) (o : Nat → Int32) (X : Int32) (z : wt_St) : Nat → Option (Bool × wt_St)
  | 0 => some (true, z)
  | i + 1 => (wu_CF n o X z i).bind (fun u => if (u.1 && wu_bb X (Int32.toNatClampNeg (o i))) = true then (wp_md_isPrinted n (o i) u.2).bind (fun q => some (decide (¬ q.1 = 0), q.2)) else some u)
theorem wu_CF_ex (n : Nat) (hn : 4294967297 < n) {W : Nat} {X : Int32} {z : wt_St} {o : Nat → Int32} (r : wt_RI z) (hW : (wt_gf z 108 40).toInt = (W : Int)) (ho : ∀ i, i < W → 0 ≤ (o i).toInt ∧ (o i).toInt < (W : Int)) : ∀ i, i ≤ W → ∃ u, wu_CF n o X z i = some u ∧ wu_fR z u.2 ∧ wt_RI u.2 := by
  intro i
  induction i with
  | zero => exact fun _ => ⟨_, rfl, wt_fr.rf, r⟩
  | succ i ih =>
    intro hi
    obtain ⟨u, e, f, ru⟩ := ih (by omega)
    have E : wu_CF n o X z (i + 1) = if (u.1 && wu_bb X (Int32.toNatClampNeg (o i))) = true then (wp_md_isPrinted n (o i) u.2).bind (fun q => some (decide (¬ q.1 = 0), q.2)) else some u := by
      show (wu_CF n o X z i).bind _ = _
      rw [e]
      rfl
    rw [E]
    by_cases c : (u.1 && wu_bb X (Int32.toNatClampNeg (o i))) = true
    · rw [if_pos c]
      have ob := ho i (by omega)
      obtain ⟨q, eq, fq, rq⟩ := wq_md_isPrinted n hn (o i) u.2 ru ob.1 (by rw [f.1 108 40 (by decide), hW]; exact ob.2)
      exact ⟨(decide (¬ q.1 = 0), q.2), by rw [eq]; rfl, wu_fR_tr f (fq.wk (fun _ _ h => by omega) (fun _ h => by omega)), rq⟩
    · rw [if_neg c]
      exact ⟨u, rfl, f, ru⟩
theorem wu_CF_s (n : Nat) {X : Int32} {z : wt_St} {o : Nat → Int32} {i : Nat} {u : Bool × wt_St} (e : wu_CF n o X z i = some u) : wu_CF n o X z (i + 1) = if (u.1 && wu_bb X (Int32.toNatClampNeg (o i))) = true then (wp_md_isPrinted n (o i) u.2).bind (fun q => some (decide (¬ q.1 = 0), q.2)) else some u := by
  show (wu_CF n o X z i).bind _ = _
  rw [e]
  rfl
theorem wu_CF_no (n : Nat) {X : Int32} {z : wt_St} {o : Nat → Int32} {i : Nat} {y : wt_St} (e : wu_CF n o X z i = some (false, y)) : ∀ j, i ≤ j → wu_CF n o X z j = some (false, y) := by
  intro j
  induction j with
  | zero =>
    intro h
    rw [show (0 : Nat) = i by omega]
    exact e
  | succ j ih =>
    intro h
    by_cases c : i = j + 1
    · rw [← c]
      exact e
    · rw [wu_CF_s n (ih (by omega)), Bool.false_and, if_neg (by decide)]
theorem wu_CF_eq (n : Nat) {X Y : Int32} {z : wt_St} {o : Nat → Int32} : ∀ d : Nat, (∀ j, j < d → wu_bb X (Int32.toNatClampNeg (o j)) = wu_bb Y (Int32.toNatClampNeg (o j))) → wu_CF n o X z d = wu_CF n o Y z d := by
  intro d
  induction d with
  | zero => exact fun _ => rfl
  | succ d ih =>
    intro h
    show (wu_CF n o X z d).bind _ = (wu_CF n o Y z d).bind _
    rw [ih (fun j hj => h j (by omega)), h d (by omega)]
/-- a set can be printed, from wherever its pieces are the same -/
def wu_pf (n : Nat) (o : Nat → Int32) (W : Nat) (z : wt_St) (X : Int32) : Prop := ∃ y, wu_CF n o X z W = some (true, y)
theorem wu_CF_two (n : Nat) (hn : 4294967297 < n) {W : Nat} {X : Int32} {s z z' : wt_St} {o : Nat → Int32} (bs : wu_BS 40 s z) (bs' : wu_BS 40 s z') (hW : (wt_gf z 108 40).toInt = (W : Int)) (hW' : (wt_gf z' 108 40).toInt = (W : Int)) (so : wu_so s o W) : ∀ i, i ≤ W → ∃ b S y y', wu_CF n o X z i = some (b, y) ∧ wu_CF n o X z' i = some (b, y') ∧ wu_fC s S ∧ (wu_fR z y ∧ wt_RI y) ∧ (wu_fR z' y' ∧ wt_RI y') ∧ (b = true → wu_SK 40 S y ∧ wu_SK 40 S y') := by
  intro i
  induction i with
  | zero => exact fun _ => ⟨true, s, z, z', rfl, rfl, wt_fr.rf, ⟨wt_fr.rf, bs.1⟩, ⟨wt_fr.rf, bs'.1⟩, fun _ => ⟨bs.2.1, bs'.2.1⟩⟩
  | succ i ih =>
    intro hi
    obtain ⟨b, S, y, y', e, e', fS, ⟨f, r⟩, ⟨f', r'⟩, sk⟩ := ih (by omega)
    rw [wu_CF_s n e, wu_CF_s n e']
    show ∃ b_1 S y_1 y'_1, (if (b && wu_bb X (Int32.toNatClampNeg (o i))) = true then (wp_md_isPrinted n (o i) y).bind (fun q => some (decide (¬ q.1 = 0), q.2)) else some (b, y)) = some (b_1, y_1) ∧ (if (b && wu_bb X (Int32.toNatClampNeg (o i))) = true then (wp_md_isPrinted n (o i) y').bind (fun q => some (decide (¬ q.1 = 0), q.2)) else some (b, y')) = some (b_1, y'_1) ∧ _
    by_cases c : (b && wu_bb X (Int32.toNatClampNeg (o i))) = true
    · rw [if_pos c, if_pos c]
      rw [Bool.and_eq_true] at c
      obtain ⟨k1, k2⟩ := sk c.1
      have ob := so.1 i (by omega)
      have eo := wt_tnI ob.1
      have g1 := wu_BS_fr bs fS f r k1
      have g2 := wu_BS_fr bs' fS f' r' k2
      have w1 : (wt_gf y 108 40).toInt = (W : Int) := by rw [f.1 108 40 (by decide)]; exact hW
      have w2 : (wt_gf y' 108 40).toInt = (W : Int) := by rw [f'.1 108 40 (by decide)]; exact hW'
      obtain ⟨S1, eS, gS⟩ := wq_wk_printOne n hn 40 (o i) S (by decide)
      obtain ⟨q, eq, fq, rq⟩ := wq_md_isPrinted n hn (o i) y r ob.1 (by rw [w1]; exact ob.2)
      obtain ⟨q', eq', fq', rq'⟩ := wq_md_isPrinted n hn (o i) y' r' ob.1 (by rw [w2]; exact ob.2)
      have h1 := wr_printOne n hn (a := 40) (w := Int32.toNatClampNeg (o i)) (by decide) (by decide) g1.1 g1.2.1 g1.2.2.1 g1.2.2.2.1 g1.2.2.2.2.1 g1.2.2.2.2.2 eo.symm (by omega) S1 q eS eq
      have h2 := wr_printOne n hn (a := 40) (w := Int32.toNatClampNeg (o i)) (by decide) (by decide) g2.1 g2.2.1 g2.2.2.1 g2.2.2.2.1 g2.2.2.2.2.1 g2.2.2.2.2.2 eo.symm (by omega) S1 q' eS eq'
      have same : q.1 = q'.1 := h1.1.1.symm.trans h2.1.1
      refine ⟨decide (¬ q.1 = 0), S1.2, q.2, q'.2, by rw [eq]; rfl, by rw [eq', same]; rfl, wu_fC_tr fS (gS.wk (fun _ _ h => h.elim) (fun _ h => by omega)), ⟨wu_fR_tr f (fq.wk (fun _ _ h => by omega) (fun _ h => by omega)), rq⟩, ⟨wu_fR_tr f' (fq'.wk (fun _ _ h => by omega) (fun _ h => by omega)), rq'⟩, fun _ => ⟨h1.2.2.2.2.1, h2.2.2.2.2.1⟩⟩
    · rw [if_neg c, if_neg c]
      exact ⟨b, S, y, y', rfl, rfl, fS, ⟨f, r⟩, ⟨f', r'⟩, sk⟩
theorem wu_pf_two (n : Nat) (hn : 4294967297 < n) {W : Nat} {X : Int32} {s z z' : wt_St} {o : Nat → Int32} (bs : wu_BS 40 s z) (bs' : wu_BS 40 s z') (hW : (wt_gf z 108 40).toInt = (W : Int)) (hW' : (wt_gf z' 108 40).toInt = (W : Int)) (so : wu_so s o W) : wu_pf n o W z X ↔ wu_pf n o W z' X := by
  obtain ⟨b, S, y, y', e, e', -⟩ := wu_CF_two n hn (X := X) bs bs' hW hW' so W (Nat.le_refl _)
  unfold wu_pf
  rw [e, e']
  constructor
  · rintro ⟨w, hw⟩
    exact ⟨y', by rw [show b = true from congrArg Prod.fst (Option.some.inj hw)]⟩
  · rintro ⟨w, hw⟩
    exact ⟨y, by rw [show b = true from congrArg Prod.fst (Option.some.inj hw)]⟩
set_option maxHeartbeats 2000000 in
theorem wh_printsF (n : Nat) (hn : 4294967297 < n) {W : Nat} {X x3 : Int32} {s z : wt_St} {o : Nat → Int32} (so : wu_so s o W) (h10 : W ≤ 10) (hW : (wt_gf z 108 40).toInt = (W : Int)) (hw : ∀ k, k < W → wt_ga s 46 k = wt_ga z (264 + k) 2 ∧ 0 ≤ (wt_ga s 46 k).toInt) (r : wt_RI z) (h3 : x3.toInt = 100) (h99 : ∀ j, j < W → wu_wk s (o j) ≤ 99) : wt_H (wp_md_prints n X (0 : Int32) x3 z) (fun q => (q.1 = -1 ∧ ¬ wu_pf n o W z X) ∨ (¬ q.1 = -1 ∧ wu_pf n o W z X)) := by
  have k0 : (0 : Int32).toInt = 0 := by decide
  have e2 : Int32.toNatClampNeg (2 : Int32) = 2 := by decide
  have m31 : wu_bb (-1) 31 = true := by decide
  have PF : ∀ (x : Int32) (y : wt_St), wu_bb x 31 = false → wu_CF n o X z W = some (true, y) → (x = -1 ∧ ¬ wu_pf n o W z X) ∨ (¬ x = -1 ∧ wu_pf n o W z X) := fun x y hx hy => Or.inr ⟨fun h => by rw [h, m31] at hx; exact absurd hx (by decide), y, hy⟩
  unfold wp_md_prints
  refine wt_H_it (fun t : Int32 × Int32 × wt_St => (0 ≤ t.2.1.toInt ∧ t.2.1.toInt ≤ x3.toInt) ∧ wu_bb t.1 31 = false ∧ ∃ d, d ≤ W ∧ wu_CF n o X z d = some (true, t.2.2) ∧ (∀ j, j < d → wu_wk s (o j) < t.2.1.toInt) ∧ ∀ j, d ≤ j → j < W → t.2.1.toInt ≤ wu_wk s (o j)) (fun K t I hK => ?_) n _ ⟨⟨by show 0 ≤ ((0 : Int32)).toInt; omega, by show ((0 : Int32)).toInt ≤ _; omega⟩, wu_bb_0 31, 0, by omega, rfl, fun j hj => absurd hj (by omega), fun j _ hj => by
    have b := so.1 j hj
    have e := wt_tnI b.1
    show ((0 : Int32)).toInt ≤ (wt_ga s 46 (Int32.toNatClampNeg (o j))).toInt
    rw [k0]
    exact (hw (Int32.toNatClampNeg (o j)) (by omega)).2⟩
  obtain ⟨⟨i0, i1⟩, i31, d, d0, d1, d2, d3⟩ := I
  unfold wp_md_prints_B6
  refine wt_H_if (fun cc => ?_) (fun cc => ?_)
  · have cc' := wt_cle cc
    have e : d = W := by
      by_cases h : d < W
      · have a := d3 d (Nat.le_refl _) h
        have b := h99 d h
        omega
      · omega
    rw [e] at d1
    exact wt_H_some (PF _ _ i31 d1)
  · have cc' := wt_ncle cc
    have ei := wt_i1 (c := t.2.1) (by have := wt_bd x3; omega)
    refine wt_H_it (fun u : Int32 × Int32 × wt_St => (0 ≤ u.2.1.toInt ∧ u.2.1.toInt ≤ (W : Int)) ∧ wu_bb u.1 31 = false ∧ ∃ d, d ≤ W ∧ wu_CF n o X z d = some (true, u.2.2) ∧ (∀ j, j < d → wu_wk s (o j) < t.2.1.toInt ∨ (wu_wk s (o j) = t.2.1.toInt ∧ (o j).toInt < u.2.1.toInt)) ∧ ∀ j, d ≤ j → j < W → t.2.1.toInt < wu_wk s (o j) ∨ (wu_wk s (o j) = t.2.1.toInt ∧ u.2.1.toInt ≤ (o j).toInt)) (fun K2 u J hK2 => ?_) n _ ⟨⟨by show 0 ≤ ((0 : Int32)).toInt; omega, by show ((0 : Int32)).toInt ≤ _; omega⟩, i31, d, d0, d1, fun j hj => Or.inl (d2 j hj), fun j h1 h2 => by
      have a := d3 j h1 h2
      have b := (so.1 j h2).1
      by_cases e : wu_wk s (o j) = t.2.1.toInt
      · exact Or.inr ⟨e, by show ((0 : Int32)).toInt ≤ _; omega⟩
      · exact Or.inl (by omega)⟩
    obtain ⟨⟨j0, j1⟩, j31, d', d0', d1', d2', d3'⟩ := J
    have eu := wt_tnI j0
    obtain ⟨w, ew, fu', ru⟩ := wu_CF_ex n hn (X := X) r hW so.1 d' d0'
    rw [d1'] at ew
    have ew' := Option.some.inj ew
    rw [← ew'] at fu' ru
    have fu2 : wu_fR z u.2.2 := fu'
    have ru2 : wt_RI u.2.2 := ru
    unfold wp_md_prints_B15
    rw [fu2.1 108 40 (by decide)]
    refine wt_H_if (fun g => ?_) (fun g => ?_)
    · have g' := wt_cle g
      refine hK _ ⟨⟨by show 0 ≤ (t.2.1 + (1 : Int32)).toInt; omega, by show (t.2.1 + (1 : Int32)).toInt ≤ _; omega⟩, j31, d', d0', d1', fun j hj => ?_, fun j h1 h2 => ?_⟩
      · show wu_wk s (o j) < (t.2.1 + (1 : Int32)).toInt
        rcases d2' j hj with h | h <;> omega
      · show (t.2.1 + (1 : Int32)).toInt ≤ wu_wk s (o j)
        have b := (so.1 j h2).2
        rcases d3' j h1 h2 with h | h <;> omega
    · have g' := wt_ncle g
      have ek := wt_i1 (c := u.2.1) (by omega)
      obtain ⟨k, hk⟩ : ∃ k : Nat, k = Int32.toNatClampNeg u.2.1 := ⟨_, rfl⟩
      have euk : u.2.1 = nI k := by rw [hk]; exact wt_nIt j0
      rw [← hk] at eu
      rw [← hk, e2, fu2.2 (264 + k) (by (try dsimp only); omega)]
      have wkk : ∀ x : Int32, x.toInt = (k : Int) → wu_wk s x = (wt_ga z (264 + k) 2).toInt := fun x hx => by
        unfold wu_wk
        rw [wt_tnN hx, (hw k (by omega)).1]
      unfold wp_md_prints_B77
      -- a want that is not of the set, or of another week
      have SKIP : (∀ j, d' ≤ j → j < W → wu_wk s (o j) = t.2.1.toInt → (o j).toInt ≠ (k : Int)) → wt_H (K2 (u.1, (u.2.1 + (1 : Int32)), u.2.2)) (fun q => (q.1 = -1 ∧ ¬ wu_pf n o W z X) ∨ (¬ q.1 = -1 ∧ wu_pf n o W z X)) := fun h => by
        refine hK2 _ ⟨⟨by show 0 ≤ (u.2.1 + (1 : Int32)).toInt; omega, by show (u.2.1 + (1 : Int32)).toInt ≤ _; omega⟩, j31, d', d0', d1', fun j hj => ?_, fun j h1 h2 => ?_⟩
        · show wu_wk s (o j) < t.2.1.toInt ∨ (wu_wk s (o j) = t.2.1.toInt ∧ (o j).toInt < (u.2.1 + (1 : Int32)).toInt)
          rcases d2' j hj with q | q
          · exact Or.inl q
          · exact Or.inr ⟨q.1, by omega⟩
        · show t.2.1.toInt < wu_wk s (o j) ∨ (wu_wk s (o j) = t.2.1.toInt ∧ (u.2.1 + (1 : Int32)).toInt ≤ (o j).toInt)
          rcases d3' j h1 h2 with q | q
          · exact Or.inl q
          · have := h j h1 h2 q.1
            exact Or.inr ⟨q.1, by omega⟩
      refine wt_H_gd (fun _ => wt_H_gd (fun _ => wt_H_if (fun e => ?_) (fun e => ?_)))
      · have e' := wt_ceq e
        obtain ⟨j, jW, ej⟩ := so.2.2 k (by omega)
        have wj := wkk _ ej
        have ejd : j = d' := by
          rcases Nat.lt_trichotomy j d' with h | h | h
          · rcases d2' j h with q | q <;> omega
          · exact h
          · rcases d3' d' (Nat.le_refl _) (by omega) with q | q
            · rcases so.2.1 d' j h jW with q2 | q2 <;> omega
            · rcases so.2.1 d' j h jW with q2 | q2 <;> omega
        rw [ejd] at ej jW wj
        have eo : o d' = u.2.1 := wt_eqI (by omega)
        have NEXT : ∀ (w : Int32) (y : wt_St), wu_bb w 31 = false → wu_CF n o X z (d' + 1) = some (true, y) → wt_H (K2 (w, (u.2.1 + (1 : Int32)), y)) (fun q => (q.1 = -1 ∧ ¬ wu_pf n o W z X) ∨ (¬ q.1 = -1 ∧ wu_pf n o W z X)) := fun w y hb hc => by
          refine hK2 _ ⟨⟨by show 0 ≤ (u.2.1 + (1 : Int32)).toInt; omega, by show (u.2.1 + (1 : Int32)).toInt ≤ _; omega⟩, hb, d' + 1, by omega, hc, fun j hj => ?_, fun j h1 h2 => ?_⟩
          · show wu_wk s (o j) < t.2.1.toInt ∨ (wu_wk s (o j) = t.2.1.toInt ∧ (o j).toInt < (u.2.1 + (1 : Int32)).toInt)
            by_cases e : j = d'
            · rw [e]
              exact Or.inr ⟨by omega, by omega⟩
            · rcases d2' j (by omega) with q | q
              · exact Or.inl q
              · exact Or.inr ⟨q.1, by omega⟩
          · show t.2.1.toInt < wu_wk s (o j) ∨ (wu_wk s (o j) = t.2.1.toInt ∧ (u.2.1 + (1 : Int32)).toInt ≤ (o j).toInt)
            rcases so.2.1 d' j (by omega) h2 with q | q
            · exact Or.inl (by omega)
            · exact Or.inr ⟨by omega, by omega⟩
        have kd : Int32.toNatClampNeg (o d') = k := by rw [eo]; exact hk.symm
        refine wt_H_if (fun y => ?_) (fun y => ?_)
        · have y' : wu_bt X u.2.1 := y
          rw [euk] at y'
          have yb := (wu_bt_bb (by omega)).mp y'
          refine NEXT _ _ j31 ?_
          rw [wu_CF_s n d1', kd, yb, Bool.and_false, if_neg (by decide)]
        · have y' : ¬ wu_bt X (nI k) := fun h => y (by rw [← euk] at h; exact h)
          have yb : wu_bb X k = true := by
            cases hb : wu_bb X k
            · exact absurd ((wu_bt_bb (by omega)).mpr hb) y'
            · rfl
          have CFS : wu_CF n o X z (d' + 1) = (wp_md_isPrinted n u.2.1 u.2.2).bind (fun q => some (decide (¬ q.1 = 0), q.2)) := by
            rw [wu_CF_s n d1', kd, yb, if_pos (show ((true, u.2.2).1 && true) = true from rfl), eo]
          refine wt_H_bh (wt_H_self _) (fun q7 h7 => ?_)
          have h7' : wp_md_isPrinted n u.2.1 u.2.2 = some q7 := h7
          rw [h7'] at CFS
          refine wt_H_if (fun x => ?_) (fun x => ?_)
          · rw [if_pos (show (0 : Int32) = 0 from rfl)]
            refine wt_H_some (Or.inl ⟨rfl, ?_⟩)
            have c1 : wu_CF n o X z (d' + 1) = some (false, q7.2) := by
              rw [CFS]
              show some (decide (¬ q7.1 = 0), q7.2) = _
              rw [decide_eq_false (fun h => h x)]
            rintro ⟨y, hy⟩
            rw [wu_CF_no n c1 W (by omega)] at hy
            exact absurd (show false = true from congrArg Prod.fst (Option.some.inj hy)) (by decide)
          · refine NEXT _ _ ?_ ?_
            · rw [euk, wu_bb_set (by omega) (by omega), j31, decide_eq_false (by omega)]
              rfl
            · rw [CFS]
              show some (decide (¬ q7.1 = 0), q7.2) = _
              rw [decide_eq_true x]
      · have e' := wt_nceq e
        refine SKIP (fun j _ _ hwk ho => ?_)
        have := wkk _ ho
        omega
end WTQ1
-- 96zf.most2.lean.txt
section WTQ2
/-! most: the call -/
noncomputable def wu_cn (P : Nat → Prop) : Nat → Nat
  | 0 => 0
  | k + 1 => wu_cn P k + @ite Nat (P k) (Classical.propDecidable (P k)) 1 0
theorem wu_cn_t {P : Nat → Prop} {k : Nat} (h : P k) : wu_cn P (k + 1) = wu_cn P k + 1 := by
  show wu_cn P k + @ite Nat (P k) (Classical.propDecidable (P k)) 1 0 = _
  rw [if_pos h]
theorem wu_cn_f {P : Nat → Prop} {k : Nat} (h : ¬ P k) : wu_cn P (k + 1) = wu_cn P k := by
  show wu_cn P k + @ite Nat (P k) (Classical.propDecidable (P k)) 1 0 = _
  rw [if_neg h]
  rfl
theorem wu_cn_congr {P Q : Nat → Prop} : ∀ N : Nat, (∀ x, x < N → (P x ↔ Q x)) → wu_cn P N = wu_cn Q N := by
  intro N
  induction N with
  | zero => exact fun _ => rfl
  | succ N ih =>
    intro h
    by_cases c : P N
    · rw [wu_cn_t c, wu_cn_t ((h N (by omega)).mp c), ih (fun x hx => h x (by omega))]
    · rw [wu_cn_f c, wu_cn_f (fun q => c ((h N (by omega)).mpr q)), ih (fun x hx => h x (by omega))]
theorem wu_cn_or {P Q R : Nat → Prop} : ∀ N : Nat, (∀ x, x < N → (P x ↔ (Q x ∨ R x)) ∧ ¬ (Q x ∧ R x)) → wu_cn P N = wu_cn Q N + wu_cn R N := by
  intro N
  induction N with
  | zero => exact fun _ => rfl
  | succ N ih =>
    intro h
    have i := ih (fun x hx => h x (by omega))
    obtain ⟨a, b⟩ := h N (by omega)
    by_cases q : Q N
    · rw [wu_cn_t (a.mpr (Or.inl q)), wu_cn_t q, wu_cn_f (fun r => b ⟨q, r⟩), i]
      omega
    · by_cases r : R N
      · rw [wu_cn_t (a.mpr (Or.inr r)), wu_cn_f q, wu_cn_t r, i]
        omega
      · rw [wu_cn_f (fun p => (a.mp p).elim q r), wu_cn_f q, wu_cn_f r, i]
theorem wu_cn_0 {P : Nat → Prop} : ∀ N : Nat, (∀ x, x < N → ¬ P x) → wu_cn P N = 0 := by
  intro N
  induction N with
  | zero => exact fun _ => rfl
  | succ N ih =>
    intro h
    rw [wu_cn_f (h N (by omega))]
    exact ih (fun x hx => h x (by omega))
theorem wu_cn_1 {P : Nat → Prop} {b : Nat} : ∀ N : Nat, b < N → P b → (∀ x, x < N → P x → x = b) → wu_cn P N = 1 := by
  intro N
  induction N with
  | zero => intro h; omega
  | succ N ih =>
    intro hb p u
    by_cases c : b = N
    · rw [← c, wu_cn_t p, wu_cn_0 b (fun x hx q => by have := u x (by omega) q; omega)]
    · rw [wu_cn_f (fun q => c (u N (by omega) q).symm)]
      exact ih (by omega) p (fun x hx q => u x (by omega) q)
/-- as told so far -/
def wu_ag (o : Nat → Int32) (d : Nat) (B : Int32) (x : Nat) : Prop := ∀ j, j < d → wu_bb (nI x) (Int32.toNatClampNeg (o j)) = wu_bb B (Int32.toNatClampNeg (o j))
def wu_Tx (n : Nat) (o : Nat → Int32) (W : Nat) (z : wt_St) (d : Nat) (B : Int32) (x : Nat) : Prop := x < 2 ^ W ∧ wu_ag o d B x ∧ wu_pf n o W z (nI x)
/-- what a search has found, ahead of it and behind it -/
def wu_RS (z : wt_St) (W : Nat) (T : Nat → Prop) (σ q : wt_St) : Prop := wt_gf q 86 10 = wt_gf σ 86 10 + nI (wu_cn T (2 ^ W)) ∧ ((wt_gf q 86 8 = wt_gf σ 86 8 ∧ wt_gf q 86 9 = wt_gf σ 86 9) ∨ ∃ x, T x ∧ (wt_gf q 86 8).toInt = wu_wo z (nI x) W ∧ wt_gf q 86 9 = nI x) ∧ (∀ x, T x → wu_wo z (nI x) W < (wt_gf q 86 8).toInt ∨ (wu_wo z (nI x) W = (wt_gf q 86 8).toInt ∧ (wt_gf q 86 9).toInt ≤ (x : Int))) ∧ ((wt_gf σ 86 8).toInt < (wt_gf q 86 8).toInt ∨ ((wt_gf σ 86 8).toInt = (wt_gf q 86 8).toInt ∧ (wt_gf q 86 9).toInt ≤ (wt_gf σ 86 9).toInt))
theorem wu_RS_two {z : wt_St} {W : Nat} {T T1 T2 : Nat → Prop} {σ q1 q2 : wt_St} (h1 : wu_RS z W T1 σ q1) (h2 : wu_RS z W T2 q1 q2) (hT : ∀ x, x < 2 ^ W → (T x ↔ (T1 x ∨ T2 x)) ∧ ¬ (T1 x ∧ T2 x)) (hl : ∀ x, (T x ∨ T1 x ∨ T2 x) → x < 2 ^ W) : wu_RS z W T σ q2 := by
  obtain ⟨a1, a2, a3, a4⟩ := h1
  obtain ⟨b1, b2, b3, b4⟩ := h2
  refine ⟨?_, ?_, fun x hx => ?_, ?_⟩
  · rw [b1, a1, Int32.add_assoc, nI_add, wu_cn_or (2 ^ W) hT]
  · rcases b2 with ⟨c1, c2⟩ | ⟨x, c1, c2, c3⟩
    · rcases a2 with ⟨d1, d2⟩ | ⟨x, d1, d2, d3⟩
      · exact Or.inl ⟨c1.trans d1, c2.trans d2⟩
      · exact Or.inr ⟨x, ((hT x (hl x (Or.inr (Or.inl d1)))).1).mpr (Or.inl d1), by rw [c1]; exact d2, c2.trans d3⟩
    · exact Or.inr ⟨x, ((hT x (hl x (Or.inr (Or.inr c1)))).1).mpr (Or.inr c1), c2, c3⟩
  · rcases ((hT x (hl x (Or.inl hx))).1).mp hx with h | h
    · rcases a3 x h with c | ⟨c, c'⟩ <;> rcases b4 with d | ⟨d, d'⟩
      · exact Or.inl (by omega)
      · exact Or.inl (by omega)
      · exact Or.inl (by omega)
      · exact Or.inr ⟨by omega, by omega⟩
    · exact b3 x h
  · rcases a4 with c | ⟨c, c'⟩ <;> rcases b4 with d | ⟨d, d'⟩
    · exact Or.inl (by omega)
    · exact Or.inl (by omega)
    · exact Or.inl (by omega)
    · exact Or.inr ⟨by omega, by omega⟩
theorem wh_keep (n : Nat) {z σ : wt_St} {W b : Nat} {x1 x2 : Int32} {T : Nat → Prop} (h1 : x1.toInt = wu_wo z (nI b) W) (h2 : x2 = nI b) (hb : b < 2 ^ W) (h10 : W ≤ 10) (hT : ∀ x, T x ↔ x = b) : wt_H (wp_wk_keep n x1 x2 σ) (fun q => wt_fr (fun i _ => i = 86) (fun _ => False) σ q ∧ wu_RS z W T σ q) := by
  have p10 : (2 : Nat) ^ W ≤ 1024 := Nat.le_trans (Nat.pow_le_pow_right (by omega) h10) (by decide)
  have cn : wu_cn T (2 ^ W) = 1 := wu_cn_1 (2 ^ W) hb ((hT b).mpr rfl) (fun x _ q => (hT x).mp q)
  have bi : (nI b).toInt = (b : Int) := nI_toInt (by omega)
  have L : ∀ s1 : wt_St, wt_fr (fun i _ => i = 86) (fun _ => False) σ s1 → wt_gf s1 86 10 = wt_gf σ 86 10 → (((wt_gf s1 86 8 = wt_gf σ 86 8 ∧ wt_gf s1 86 9 = wt_gf σ 86 9) ∨ (wt_gf s1 86 8 = x1 ∧ wt_gf s1 86 9 = x2)) ∧ (x1.toInt < (wt_gf s1 86 8).toInt ∨ (x1.toInt = (wt_gf s1 86 8).toInt ∧ (wt_gf s1 86 9).toInt ≤ x2.toInt)) ∧ ((wt_gf σ 86 8).toInt < (wt_gf s1 86 8).toInt ∨ ((wt_gf σ 86 8).toInt = (wt_gf s1 86 8).toInt ∧ (wt_gf s1 86 9).toInt ≤ (wt_gf σ 86 9).toInt))) → wt_H (wp_wk_keep_B34 n s1) (fun q => wt_fr (fun i _ => i = 86) (fun _ => False) σ q ∧ wu_RS z W T σ q) := fun s1 f1 e10 h => by
    obtain ⟨h3, h4, h5⟩ := h
    unfold wp_wk_keep_B34
    obtain ⟨s2, ε⟩ : ∃ q : wt_St, q = wt_sf s1 86 10 ((wt_gf s1 86 10) + (1 : Int32)) := ⟨_, rfl⟩
    rw [← ε]
    have g := wt_fr_sf ε
    have e8 : wt_gf s2 86 8 = wt_gf s1 86 8 := g.1 86 8 (by decide)
    have e9 : wt_gf s2 86 9 = wt_gf s1 86 9 := g.1 86 9 (by decide)
    refine wt_H_some ⟨wt_fr.tr f1 g (fun _ _ h => h.1) (fun _ h => h), ?_, ?_, fun x hx => ?_, ?_⟩
    · rw [wt_v_sf ε, e10, cn]
      rfl
    · rw [e8, e9]
      rcases h3 with h3 | ⟨h3, h3'⟩
      · exact Or.inl h3
      · exact Or.inr ⟨b, (hT b).mpr rfl, by rw [h3]; exact h1, by rw [h3']; exact h2⟩
    · rw [(hT x).mp hx, e8, e9, ← h1]
      rw [h2, bi] at h4
      exact h4
    · rw [e8, e9]
      exact h5
  have SET : ((wt_gf σ 86 8).toInt < x1.toInt ∨ ((wt_gf σ 86 8).toInt = x1.toInt ∧ x2.toInt ≤ (wt_gf σ 86 9).toInt)) → wt_H (wp_wk_keep_B24 n x1 x2 σ) (fun q => wt_fr (fun i _ => i = 86) (fun _ => False) σ q ∧ wu_RS z W T σ q) := fun h => by
    unfold wp_wk_keep_B24
    obtain ⟨s1, ε1⟩ : ∃ q : wt_St, q = wt_sf σ 86 8 x1 := ⟨_, rfl⟩
    rw [← ε1]
    obtain ⟨s2, ε2⟩ : ∃ q : wt_St, q = wt_sf s1 86 9 x2 := ⟨_, rfl⟩
    rw [← ε2]
    have g1 := wt_fr_sf ε1
    have g2 := wt_fr_sf ε2
    have e8 : wt_gf s2 86 8 = x1 := (g2.1 86 8 (by decide)).trans (wt_v_sf ε1)
    have e9 : wt_gf s2 86 9 = x2 := wt_v_sf ε2
    refine L s2 (wt_fr.tr (g1.wk (F2 := fun i _ => i = 86) (fun _ _ h => h.1) (fun _ h => h)) g2 (fun _ _ h => h.1) (fun _ h => h)) ((g2.1 86 10 (by decide)).trans (g1.1 86 10 (by decide))) ?_
    rw [e8, e9]
    exact ⟨Or.inr ⟨rfl, rfl⟩, Or.inr ⟨rfl, Int.le_refl _⟩, h⟩
  unfold wp_wk_keep
  refine wt_H_if (fun c => SET (Or.inl (wt_clt c))) (fun c => wt_H_if (fun d => wt_H_if (fun e => ?_) (fun e => SET (Or.inr ⟨(wt_ceq d).symm, by have := wt_ncle e; omega⟩))) (fun d => ?_))
  · have d' := wt_ceq d
    have e' := wt_cle e
    exact L σ wt_fr.rf rfl ⟨Or.inl ⟨rfl, rfl⟩, Or.inr ⟨d', e'⟩, Or.inr ⟨rfl, Int.le_refl _⟩⟩
  · have c' := wt_ncl c
    have d' := wt_nceq d
    exact L σ wt_fr.rf rfl ⟨Or.inl ⟨rfl, rfl⟩, Or.inl (by omega), Or.inr ⟨rfl, Int.le_refl _⟩⟩
end WTQ2
-- 96zg.most3.lean.txt
section WTQ3
/-- the class's search, a set after the other -/
def wu_I4 (n : Nat) (s z : wt_St) (o : Nat → Int32) (W : Nat) (a : Nat × Int32 × Int32 × Int32 × wt_St) : Prop := (0 ≤ a.2.1.toInt ∧ a.2.1.toInt ≤ (W : Int)) ∧ (a.1 = 40 ∨ (88 ≤ a.1 ∧ a.1 < 88 + Int32.toNatClampNeg a.2.1)) ∧ wt_fr (fun i _ => i = 86) (fun i => (88 ≤ i ∧ i < 98) ∨ i = 100) s a.2.2.2.2 ∧ (∃ y, wu_CF n o a.2.2.2.1 z (Int32.toNatClampNeg a.2.1) = some (true, y) ∧ wu_SK a.1 a.2.2.2.2 y) ∧ (∀ k, k < 32 → wu_bb a.2.2.2.1 k = true → ∃ j, j < Int32.toNatClampNeg a.2.1 ∧ (o j).toInt = (k : Int)) ∧ a.2.2.1.toInt = wu_wo z a.2.2.2.1 W
def wu_Q4 (n : Nat) (z : wt_St) (o : Nat → Int32) (W : Nat) (a : Nat × Int32 × Int32 × Int32 × wt_St) (q : wt_St) : Prop := wt_fr (fun i _ => i = 86) (fun i => (88 + Int32.toNatClampNeg a.2.1 ≤ i ∧ i < 98) ∨ i = 100) a.2.2.2.2 q ∧ wu_RS z W (wu_Tx n o W z (Int32.toNatClampNeg a.2.1) a.2.2.2.1) a.2.2.2.2 q
theorem wu_set_nat {B : Int32} {W : Nat} (h10 : W ≤ 10) (h : ∀ k, k < 32 → W ≤ k → wu_bb B k = false) : ∃ b, b < 2 ^ W ∧ B = nI b := by
  have lt : B.toBitVec.toNat < 2 ^ W := by
    refine Nat.lt_pow_two_of_testBit _ (fun i hi => ?_)
    by_cases c : i < 32
    · exact h i c hi
    · exact Nat.testBit_lt_two_pow (Nat.lt_of_lt_of_le B.toBitVec.isLt (Nat.pow_le_pow_right (by omega) (by omega)))
  refine ⟨B.toBitVec.toNat, lt, wu_bb_ext (fun i hi => ?_)⟩
  rw [wu_bb_nI hi]
  rfl
set_option maxHeartbeats 4000000 in
theorem wh_tryFrom (n : Nat) (hn : 4294967297 < n) {W : Nat} {s z : wt_St} {o : Nat → Int32} (h10 : W ≤ 10) (bs : wu_BS 40 s z) (hW : (wt_gf z 108 40).toInt = (W : Int)) (so : wu_so s o W) (ho : ∀ j, wt_ga s 99 j = o j) : ∀ (m : Nat) (a : Nat × Int32 × Int32 × Int32 × wt_St), wu_I4 n s z o W a → wt_H (wt_it (fun R s => wp_wk_tryFrom_b n s.1 R s.2.1 s.2.2.1 s.2.2.2.1 s.2.2.2.2) m a) (wu_Q4 n z o W a) := by
  have k0 : (0 : Int32).toInt = 0 := by decide
  have k10 : (10 : Int32).toInt = 10 := by decide
  obtain ⟨W', -, W1, W2, W3⟩ := wu_BS_W bs
  have eW : W' = W := by omega
  rw [eW] at W1 W3
  have wb : ∀ k, k < W → 0 ≤ (wt_ga z (264 + k) 3).toInt ∧ (wt_ga z (264 + k) 3).toInt ≤ 999 := fun k hk => by
    have := W3 k hk
    rw [← this.2.1]
    omega
  refine wt_H_rec (wu_I4 n s z o W) (wu_Q4 n z o W) (fun R a I hR => ?_)
  obtain ⟨⟨h0, h1⟩, h2, f, ⟨y, cf, sk⟩, hb, hwo⟩ := I
  have ed := wt_tnI h0
  obtain ⟨d, hd⟩ : ∃ d : Nat, d = Int32.toNatClampNeg a.2.1 := ⟨_, rfl⟩
  unfold wu_Q4
  rw [← hd] at ed h2 cf hb ⊢
  have oW : ∀ j, j < W → Int32.toNatClampNeg (o j) < W := fun j hj => by
    have b := so.1 j hj
    have e := wt_tnI b.1
    omega
  have bW : ∀ k, k < 32 → W ≤ k → wu_bb a.2.2.2.1 k = false := fun k hk hk2 => by
    cases c : wu_bb a.2.2.2.1 k
    · rfl
    · obtain ⟨j, j1, j2⟩ := hb k hk c
      have := so.1 j (by omega)
      omega
  show wt_H (wp_wk_tryFrom_b n a.1 R a.2.1 a.2.2.1 a.2.2.2.1 a.2.2.2.2) _
  unfold wp_wk_tryFrom_b
  rw [if_neg (show ¬ a.2.1 < 0 from fun h => by have := wt_clt h; omega), f.1 39 8 (by decide)]
  refine wt_H_if (fun c => ?_) (fun c => ?_)
  · -- all told
    have c' := wt_cle c
    have dW : d = W := by omega
    obtain ⟨b, b1, b2⟩ := wu_set_nat h10 bW
    unfold wp_wk_tryFrom_B24
    refine wt_H_bh (wh_keep n (W := W) (b := b) (z := z) (T := wu_Tx n o W z d a.2.2.2.1) (by rw [← b2]; exact hwo) b2 b1 h10 (fun x => ⟨fun h => ?_, fun h => ?_⟩)) (fun q hq => wt_H_some ⟨hq.1.wk (fun _ _ h => h) (fun _ h => h.elim), hq.2⟩)
    · obtain ⟨x1, x2, -⟩ := h
      have p10 : (2 : Nat) ^ W ≤ 1024 := Nat.le_trans (Nat.pow_le_pow_right (by omega) h10) (by decide)
      have e : nI x = nI b := by
        rw [← b2]
        refine wu_bb_ext (fun i hi => ?_)
        by_cases y : i < W
        · obtain ⟨j, j1, j2⟩ := so.2.2 i y
          have := x2 j (by omega)
          rw [wt_tnN j2] at this
          exact this
        · rw [wu_bb_lt x1 (by omega) hi, bW i hi (by omega)]
      have e2 := congrArg Int32.toInt e
      rw [nI_toInt (by omega), nI_toInt (by omega)] at e2
      omega
    · rw [h]
      refine ⟨b1, fun j _ => by rw [← b2], y, ?_⟩
      rw [← b2, ← dW]
      exact cf
  · have c' := wt_ncle c
    have dW : d < W := by omega
    have ei := wt_i1 (c := a.2.1) (by omega)
    have ein : Int32.toNatClampNeg (a.2.1 + (1 : Int32)) = d + 1 := by have := wt_tnI (x := a.2.1 + (1 : Int32)) (by omega); omega
    rw [if_pos (show a.2.1 < (10 : Int32) from Int32.lt_iff_toInt_lt.mpr (by omega))]
    obtain ⟨k, hk⟩ : ∃ k : Nat, k = Int32.toNatClampNeg (o d) := ⟨_, rfl⟩
    have kW : k < W := by rw [hk]; exact oW d dW
    have ok : o d = nI k := by rw [hk]; exact wt_nIt (so.1 d dW).1
    have okI : (o d).toInt = (k : Int) := by rw [hk]; exact (wt_tnI (so.1 d dW).1).symm
    have fresh : wu_bb a.2.2.2.1 k = false := by
      cases c : wu_bb a.2.2.2.1 k
      · rfl
      · obtain ⟨j, j1, j2⟩ := hb k (by omega) c
        have := wu_so_inj so (show j < W by omega) dW (by omega)
        omega
    -- without it
    have I1 : wu_I4 n s z o W (a.1, (a.2.1 + (1 : Int32)), a.2.2.1, a.2.2.2.1, a.2.2.2.2) := by
      refine ⟨⟨by show 0 ≤ (a.2.1 + (1 : Int32)).toInt; omega, by show (a.2.1 + (1 : Int32)).toInt ≤ _; omega⟩, ?_, f, ⟨y, ?_, sk⟩, fun k hk hkb => ?_, hwo⟩
      · show a.1 = 40 ∨ (88 ≤ a.1 ∧ a.1 < 88 + Int32.toNatClampNeg (a.2.1 + (1 : Int32)))
        omega
      · show wu_CF n o a.2.2.2.1 z (Int32.toNatClampNeg (a.2.1 + (1 : Int32))) = some (true, y)
        rw [ein, wu_CF_s n cf, ← hk, fresh, Bool.and_false, if_neg (by decide)]
      · obtain ⟨j, j1, j2⟩ := hb k hk hkb
        exact ⟨j, by show j < Int32.toNatClampNeg (a.2.1 + (1 : Int32)); omega, j2⟩
    refine wt_H_bh (hR _ I1) (fun q5 h5 => ?_)
    unfold wu_Q4 at h5
    obtain ⟨f5, r5⟩ := h5
    have f5' : wt_fr (fun i _ => i = 86) (fun i => (88 + Int32.toNatClampNeg (a.2.1 + (1 : Int32)) ≤ i ∧ i < 98) ∨ i = 100) a.2.2.2.2 q5 := f5
    have r5' : wu_RS z W (wu_Tx n o W z (Int32.toNatClampNeg (a.2.1 + (1 : Int32))) a.2.2.2.1) a.2.2.2.2 q5 := r5
    rw [ein] at f5' r5'
    refine wt_H_gd (fun _ => ?_)
    rw [← hd]
    have l88 : wt_ln (88 + d) = 312 := by
      have h : ∀ d, d < 10 → wt_ln (88 + d) = 312 := by decide
      exact h d (by omega)
    have la : wt_ln a.1 = 312 := by
      rcases h2 with h2 | ⟨h2, h3⟩
      · rw [h2]
        decide
      · have h : ∀ d, d < 10 → wt_ln (88 + d) = 312 := by decide
        have := h (a.1 - 88) (by omega)
        rw [show 88 + (a.1 - 88) = a.1 by omega] at this
        exact this
    refine wt_H_bh (wh_copyRow n (a := a.1) (b := 88 + d) (by omega) (by rw [l88, la])) (fun q7 h7 => ?_)
    obtain ⟨f7, v7⟩ := h7
    have F7 : wt_fr (fun i _ => i = 86) (fun i => (88 + d ≤ i ∧ i < 98) ∨ i = 100) a.2.2.2.2 q7 := wt_fr.tr (f5'.wk (F2 := fun i _ => i = 86) (A2 := fun i => (88 + d ≤ i ∧ i < 98) ∨ i = 100) (fun _ _ h => h) (fun _ h => by omega)) f7 (fun _ _ h => h.elim) (fun i h => by have h' : i = 88 + d := h; omega)
    have S7 : wt_fr (fun i _ => i = 86) (fun i => (88 ≤ i ∧ i < 98) ∨ i = 100) s q7 := wt_fr.tr f F7 (fun _ _ h => h) (fun _ h => by omega)
    refine wt_H_bh (wh_look n hn (k := d) ed.symm (by rw [show wt_ln 99 = 10 from by decide]; omega)) (fun q8 h8 => ?_)
    subst h8
    dsimp only
    rw [S7.2 99 (by decide), ho]
    -- what it does
    obtain ⟨u, eu, fu, ru⟩ := wu_CF_ex n hn (X := a.2.2.2.1) bs.1 hW so.1 d (by omega)
    rw [cf] at eu
    have eu' := Option.some.inj eu
    rw [← eu'] at fu ru
    have fy : wu_fR z y := fu
    have ry : wt_RI y := ru
    have sk7 : wu_SK (88 + d) q7 y := fun l hl => by
      obtain ⟨m1, m2, m3⟩ := sk l hl
      rw [F7.2 5 (by (try dsimp only); omega)]
      refine ⟨m1, m2, fun i hi => ?_⟩
      obtain ⟨p1, p2⟩ := m3 i hi
      rw [v7 _ (by rw [la]; omega), f5'.2 a.1 (by (try dsimp only); omega), F7.2 41 (by (try dsimp only); omega)]
      exact ⟨p1, p2⟩
    have bs7 : wu_BS (88 + d) q7 y := wu_BS_fr bs (S7.wk (fun _ _ h => h) (fun _ h => by omega)) fy ry sk7
    have hWy : (wt_gf y 108 40).toInt = (W : Int) := by rw [fy.1 108 40 (by decide)]; exact hW
    obtain ⟨q, eq, fq, rq⟩ := wq_md_isPrinted n hn (o d) y ry (so.1 d dW).1 (by rw [hWy]; exact (so.1 d dW).2)
    refine wt_H_bh (wt_H_and (fun q9 h9 => wr_printOne n hn (a := 88 + d) (w := k) l88 (by omega) bs7.1 bs7.2.1 bs7.2.2.1 bs7.2.2.2.1 bs7.2.2.2.2.1 bs7.2.2.2.2.2 okI (by omega) q9 q h9 eq) (wt_H_self _)) (fun q9 h9 => ?_)
    obtain ⟨⟨⟨e9, b9⟩, f9, -, -, sk9, -, -⟩, -⟩ := h9
    have F9 : wt_fr (fun i _ => i = 86) (fun i => (88 + d ≤ i ∧ i < 98) ∨ i = 100) a.2.2.2.2 q9.2 := wt_fr.tr F7 f9 (fun _ _ h => h.elim) (fun i h => by have h' : i = 88 + d ∨ i = 100 := h; omega)
    have S9 : wt_fr (fun i _ => i = 86) (fun i => (88 ≤ i ∧ i < 98) ∨ i = 100) s q9.2 := wt_fr.tr f F9 (fun _ _ h => h) (fun _ h => by omega)
    have same9 : ∀ j, wt_gf q9.2 86 j = wt_gf q5 86 j := fun j => (f9.1 86 j (fun h => h)).trans (f7.1 86 j (fun h => h))
    -- with it
    obtain ⟨B2, hB2⟩ : ∃ B2 : Int32, B2 = a.2.2.2.1 ||| ((1 : Int32) <<< (o d &&& 31)) := ⟨_, rfl⟩
    have bb2 : ∀ j, j < 32 → wu_bb B2 j = (wu_bb a.2.2.2.1 j || decide (j = k)) := fun j hj => by
      rw [hB2, ok]
      exact wu_bb_set (by omega) hj
    have agO : ∀ j, j < d → wu_bb B2 (Int32.toNatClampNeg (o j)) = wu_bb a.2.2.2.1 (Int32.toNatClampNeg (o j)) := fun j hj => by
      rw [bb2 _ (by have := oW j (by omega); omega), decide_eq_false (fun h => by
        have b := so.1 j (by omega)
        have e := wt_tnI b.1
        have := wu_so_inj so (show j < W by omega) dW (by omega)
        omega), Bool.or_false]
    have CF2 : wu_CF n o B2 z (d + 1) = some (decide (¬ q.1 = 0), q.2) := by
      have e : wu_CF n o B2 z d = some (true, y) := by rw [wu_CF_eq n d agO]; exact cf
      rw [wu_CF_s n e, ← hk, bb2 k (by omega), decide_eq_true rfl, Bool.or_true, if_pos (show ((true, y).1 && true) = true from rfl)]
      show (wp_md_isPrinted n (o d) y).bind (fun q => some (decide (¬ q.1 = 0), q.2)) = _
      rw [eq]
      rfl
    have split : ∀ x, x < 2 ^ W → (wu_Tx n o W z d a.2.2.2.1 x ↔ (wu_Tx n o W z (d + 1) a.2.2.2.1 x ∨ wu_Tx n o W z (d + 1) B2 x)) ∧ ¬ (wu_Tx n o W z (d + 1) a.2.2.2.1 x ∧ wu_Tx n o W z (d + 1) B2 x) := fun x hx => by
      refine ⟨⟨fun h => ?_, fun h => ?_⟩, fun h => ?_⟩
      · obtain ⟨t1, t2, t3⟩ := h
        by_cases c : wu_bb (nI x) k = true
        · refine Or.inr ⟨t1, fun j hj => ?_, t3⟩
          by_cases e : j = d
          · rw [e, ← hk, c, bb2 k (by omega), decide_eq_true rfl, Bool.or_true]
          · rw [agO j (by omega)]
            exact t2 j (by omega)
        · refine Or.inl ⟨t1, fun j hj => ?_, t3⟩
          by_cases e : j = d
          · rw [e, ← hk, fresh]
            cases h : wu_bb (nI x) k
            · rfl
            · exact absurd h c
          · exact t2 j (by omega)
      · rcases h with ⟨t1, t2, t3⟩ | ⟨t1, t2, t3⟩
        · exact ⟨t1, fun j hj => t2 j (by omega), t3⟩
        · exact ⟨t1, fun j hj => by rw [t2 j (by omega)]; exact agO j hj, t3⟩
      · have a1 := h.1.2.1 d (by omega)
        have a2 := h.2.2.1 d (by omega)
        rw [← hk, fresh] at a1
        rw [← hk, a1, bb2 k (by omega), decide_eq_true rfl, Bool.or_true] at a2
        exact absurd a2 (by decide)
    have lim : ∀ {d' : Nat} {B : Int32} {x : Nat}, wu_Tx n o W z d' B x → x < 2 ^ W := fun h => h.1
    refine wt_H_if (fun g => ?_) (fun g => ?_)
    · -- it can't be printed
      have no : ∀ x, ¬ wu_Tx n o W z (d + 1) B2 x := fun x h => by
        obtain ⟨x1, x2, w, hw⟩ := h
        have e : wu_CF n o (nI x) z (d + 1) = some (false, q.2) := by
          rw [wu_CF_eq n (d + 1) x2, CF2, decide_eq_false (fun h => h (by rw [← e9]; exact g))]
        rw [wu_CF_no n e W (by omega)] at hw
        exact absurd (show false = true from congrArg Prod.fst (Option.some.inj hw)) (by decide)
      refine wt_H_some ⟨F9, ?_⟩
      obtain ⟨a1, a2, a3, a4⟩ := r5'
      refine ⟨?_, ?_, fun x hx => ?_, ?_⟩
      · rw [same9, a1, wu_cn_congr (P := wu_Tx n o W z d a.2.2.2.1) (Q := wu_Tx n o W z (d + 1) a.2.2.2.1) (2 ^ W) (fun x hx => ⟨fun h => (((split x hx).1).mp h).elim (fun h => h) (fun h => absurd h (no x)), fun h => ((split x hx).1).mpr (Or.inl h)⟩)]
      · rw [same9, same9]
        rcases a2 with a2 | ⟨x, x1, x2⟩
        · exact Or.inl a2
        · exact Or.inr ⟨x, ((split x (lim x1)).1).mpr (Or.inl x1), x2⟩
      · rw [same9, same9]
        rcases ((split x (lim hx)).1).mp hx with h | h
        · exact a3 x h
        · exact absurd h (no x)
      · rw [same9, same9]
        exact a4
    · -- it is printed
      have q1 : ¬ q.1 = 0 := by rw [← e9]; exact g
      refine wt_H_bh (wh_look n hn (k := k) okI (by rw [show wt_ln 47 = 10 from by decide]; omega)) (fun q11 h11 => ?_)
      subst h11
      dsimp only
      have w47 : wt_ga q9.2 47 k = wt_ga z (264 + k) 3 := by
        rw [S9.2 47 (by decide)]
        exact (W3 k kW).2.1
      rw [w47, ← hB2]
      have wbd := wu_wo_bd (x := a.2.2.2.1) (W := W) wb
      have wk := wb k kW
      have ea := wt_addE (x := a.2.2.1) (y := wt_ga z (264 + k) 3) (by omega) (by omega)
      have I2 : wu_I4 n s z o W ((88 + d), (a.2.1 + (1 : Int32)), (a.2.2.1 + wt_ga z (264 + k) 3), B2, q9.2) := by
        refine ⟨⟨by show 0 ≤ (a.2.1 + (1 : Int32)).toInt; omega, by show (a.2.1 + (1 : Int32)).toInt ≤ _; omega⟩, Or.inr ⟨by show 88 ≤ 88 + d; omega, by show 88 + d < 88 + Int32.toNatClampNeg (a.2.1 + (1 : Int32)); omega⟩, S9, ⟨q.2, ?_, sk9⟩, fun j hj hjb => ?_, ?_⟩
        · show wu_CF n o B2 z (Int32.toNatClampNeg (a.2.1 + (1 : Int32))) = some (true, q.2)
          rw [ein, CF2, decide_eq_true q1]
        · show ∃ i, i < Int32.toNatClampNeg (a.2.1 + (1 : Int32)) ∧ (o i).toInt = (j : Int)
          have hjb' : wu_bb B2 j = true := hjb
          rw [bb2 j hj] at hjb'
          by_cases e : j = k
          · exact ⟨d, by omega, by rw [e]; exact okI⟩
          · rw [decide_eq_false e, Bool.or_false] at hjb'
            obtain ⟨i, i1, i2⟩ := hb j hj hjb'
            exact ⟨i, by omega, i2⟩
        · show (a.2.2.1 + wt_ga z (264 + k) 3).toInt = wu_wo z B2 W
          rw [ea, hwo, hB2, ok, wu_wo_set h10 kW fresh]
      refine wt_H_bh (hR _ I2) (fun q12 h12 => ?_)
      unfold wu_Q4 at h12
      obtain ⟨f12, r12⟩ := h12
      have f12' : wt_fr (fun i _ => i = 86) (fun i => (88 + Int32.toNatClampNeg (a.2.1 + (1 : Int32)) ≤ i ∧ i < 98) ∨ i = 100) q9.2 q12 := f12
      have r12' : wu_RS z W (wu_Tx n o W z (Int32.toNatClampNeg (a.2.1 + (1 : Int32))) B2) q9.2 q12 := r12
      rw [ein] at f12' r12'
      refine wt_H_some ⟨wt_fr.tr F9 f12' (fun _ _ h => h) (fun _ h => by omega), ?_⟩
      refine wu_RS_two (q1 := q5) r5' ?_ split (fun x h => by rcases h with h | h | h <;> exact lim h)
      unfold wu_RS at r12' ⊢
      rw [same9, same9, same9] at r12'
      exact r12'
end WTQ3
-- 96zh.most4.lean.txt
section WTQ4
theorem wu_pow2 : ∀ W, W < 11 → ((1 : Int32) <<< (nI W &&& 31)).toInt = ((2 ^ W : Nat) : Int) := by decide +kernel
theorem wu_pf_0 (n : Nat) {o : Nat → Int32} {W : Nat} {z : wt_St} : wu_pf n o W z (nI 0) := by
  have h : ∀ i, wu_CF n o (nI 0) z i = some (true, z) := by
    intro i
    induction i with
    | zero => rfl
    | succ i ih =>
      rw [wu_CF_s n ih]
      have : wu_bb (nI 0) (Int32.toNatClampNeg (o i)) = false := wu_bb_0 _
      rw [this, Bool.and_false, if_neg (by decide)]
  exact ⟨z, h W⟩
/-- of most worth, of these the least -/
def wu_best (n : Nat) (o : Nat → Int32) (W : Nat) (z : wt_St) (b : Nat) : Prop := b < 2 ^ W ∧ wu_pf n o W z (nI b) ∧ ∀ x, x < 2 ^ W → wu_pf n o W z (nI x) → wu_wo z (nI x) W < wu_wo z (nI b) W ∨ (wu_wo z (nI x) W = wu_wo z (nI b) W ∧ b ≤ x)
theorem wu_best_u {n : Nat} {o : Nat → Int32} {W : Nat} {z : wt_St} {b c : Nat} (h : wu_best n o W z b) (h' : wu_best n o W z c) : b = c := by
  have a := h.2.2 c h'.1 h'.2.1
  have d := h'.2.2 b h.1 h.2.1
  omega
set_option maxHeartbeats 1000000 in
theorem wh_findMost (n : Nat) (hn : 4294967297 < n) {s z : wt_St} {W : Nat} (bs : wu_BS 40 s z) (h10 : W ≤ 10) (hW : (wt_gf z 108 40).toInt = (W : Int)) : wt_H (wp_wk_findMost n s) (fun q => ∃ s1 o, (wu_BS 40 s1 z ∧ wu_so s1 o W ∧ (∀ j, wt_ga s1 46 j = wt_ga s 46 j)) ∧ wt_gf q 86 10 = nI (wu_cn (fun x => x < 2 ^ W ∧ wu_pf n o W z (nI x)) (2 ^ W)) ∧ ∃ b, wu_best n o W z b ∧ (wt_gf q 86 8).toInt = wu_wo z (nI b) W ∧ wt_gf q 86 9 = nI b) := by
  have k0 : (0 : Int32).toInt = 0 := by decide
  obtain ⟨W', -, W1, W2, W3⟩ := wu_BS_W bs
  have eW : W' = W := by omega
  rw [eW] at W1 W3
  unfold wp_wk_findMost
  refine wt_H_bh (wh_sort n hn W1 h10) (fun q1 h1 => ?_)
  obtain ⟨f1, so⟩ := h1
  obtain ⟨s2, ε2⟩ : ∃ q : wt_St, q = wt_sf q1 86 8 (0 : Int32) := ⟨_, rfl⟩
  rw [← ε2]
  obtain ⟨s3, ε3⟩ : ∃ q : wt_St, q = wt_sf s2 86 9 (0 : Int32) := ⟨_, rfl⟩
  rw [← ε3]
  obtain ⟨s4, ε4⟩ : ∃ q : wt_St, q = wt_sf s3 86 10 (0 : Int32) := ⟨_, rfl⟩
  rw [← ε4]
  have g2 := wt_fr_sf ε2
  have g3 := wt_fr_sf ε3
  have g4 := wt_fr_sf ε4
  have F : wu_fC s s4 := wt_fr.tr (wt_fr.tr (wt_fr.tr (f1.wk (F2 := fun i _ => i = 86) (A2 := fun i => i = 40 ∨ (88 ≤ i ∧ i ≤ 100)) (fun _ _ h => h.elim) (fun _ h => by omega)) g2 (fun _ _ h => h.1) (fun _ h => h.elim)) g3 (fun _ _ h => h.1) (fun _ h => h.elim)) g4 (fun _ _ h => h.1) (fun _ h => h.elim)
  have F40 : wt_fr (fun i _ => i = 86) (fun i => i = 99) s s4 := wt_fr.tr (wt_fr.tr (wt_fr.tr (f1.wk (F2 := fun i _ => i = 86) (fun _ _ h => h.elim) (fun _ h => h)) g2 (fun _ _ h => h.1) (fun _ h => h.elim)) g3 (fun _ _ h => h.1) (fun _ h => h.elim)) g4 (fun _ _ h => h.1) (fun _ h => h.elim)
  have e8 : wt_gf s4 86 8 = 0 := (g4.1 86 8 (by decide)).trans ((g3.1 86 8 (by decide)).trans (wt_v_sf ε2))
  have e9 : wt_gf s4 86 9 = 0 := (g4.1 86 9 (by decide)).trans (wt_v_sf ε3)
  have e10 : wt_gf s4 86 10 = 0 := wt_v_sf ε4
  have e46 : wt_ga s4 46 = wt_ga s 46 := funext (F40.2 46 (by decide))
  have e99 : ∀ j, wt_ga s4 99 j = wt_ga q1 99 j := fun j => (g4.2 99 (fun h => h) j).trans ((g3.2 99 (fun h => h) j).trans (g2.2 99 (fun h => h) j))
  have so4 : wu_so s4 (wt_ga q1 99) W := by
    unfold wu_so wu_lx wu_wk
    rw [e46]
    exact so
  have bs4 : wu_BS 40 s4 z := wu_BS_fr bs F (wt_fr.rf : wu_fR z z) bs.1 (wu_SK_fr bs.2.1 F40 (wt_fr.rf (F := fun _ _ => False) (A := fun _ => False)) ⟨by decide, by decide, by decide⟩ ⟨fun h => h, fun h => h, fun h => h⟩)
  have I0 : wu_I4 n s4 z (wt_ga q1 99) W (40, (0 : Int32), (0 : Int32), (0 : Int32), s4) := by
    refine ⟨⟨by show 0 ≤ ((0 : Int32)).toInt; omega, by show ((0 : Int32)).toInt ≤ _; omega⟩, Or.inl rfl, wt_fr.rf, ⟨z, ?_, bs4.2.1⟩, fun k hk hb => ?_, ?_⟩
    · show wu_CF n (wt_ga q1 99) 0 z (Int32.toNatClampNeg (0 : Int32)) = some (true, z)
      rw [wt_tn0]
      rfl
    · have hb' : wu_bb 0 k = true := hb
      rw [wu_bb_0] at hb'
      exact absurd hb' (by decide)
    · show ((0 : Int32)).toInt = wu_wo z 0 W
      rw [k0]
      have : wt_sum (fun k => if wu_bb 0 k = true then (wt_ga z (264 + k) 3).toInt else 0) W = 0 := wt_sum_z W (fun k _ => by
        show (if wu_bb 0 k = true then (wt_ga z (264 + k) 3).toInt else 0) = 0
        rw [wu_bb_0, if_neg (by decide)])
      exact this.symm
  unfold wp_wk_tryFrom
  refine wt_H_bh (wh_tryFrom n hn h10 bs4 hW so4 e99 16 _ I0) (fun q2 h2 => wt_H_some ?_)
  unfold wu_Q4 at h2
  obtain ⟨-, h2⟩ := h2
  have h2' : wu_RS z W (wu_Tx n (wt_ga q1 99) W z (Int32.toNatClampNeg (0 : Int32)) 0) s4 q2 := h2
  rw [wt_tn0] at h2'
  obtain ⟨a1, a2, a3, a4⟩ := h2'
  rw [e8, e9] at a2 a4
  have TT : ∀ x, wu_Tx n (wt_ga q1 99) W z 0 0 x ↔ (x < 2 ^ W ∧ wu_pf n (wt_ga q1 99) W z (nI x)) := fun x => ⟨fun h => ⟨h.1, h.2.2⟩, fun h => ⟨h.1, fun j hj => absurd hj (by omega), h.2⟩⟩
  have p10 : (2 : Nat) ^ W ≤ 1024 := Nat.le_trans (Nat.pow_le_pow_right (by omega) h10) (by decide)
  have p1 : 1 ≤ (2 : Nat) ^ W := Nat.one_le_two_pow
  have w0 : wu_wo z (nI 0) W = 0 := wt_sum_z W (fun k _ => by
    show (if wu_bb (nI 0) k = true then (wt_ga z (264 + k) 3).toInt else 0) = 0
    have : wu_bb (nI 0) k = false := wu_bb_0 k
    rw [this, if_neg (by decide)])
  refine ⟨s4, wt_ga q1 99, ⟨bs4, so4, fun j => congrFun e46 j⟩, ?_, ?_⟩
  · rw [a1, e10, wu_cn_congr (Q := fun x => x < 2 ^ W ∧ wu_pf n (wt_ga q1 99) W z (nI x)) (2 ^ W) (fun x _ => TT x), Int32.zero_add]
  · have OPT : ∀ b : Nat, b < 2 ^ W → wu_pf n (wt_ga q1 99) W z (nI b) → (wt_gf q2 86 8).toInt = wu_wo z (nI b) W → wt_gf q2 86 9 = nI b → ∃ b, wu_best n (wt_ga q1 99) W z b ∧ (wt_gf q2 86 8).toInt = wu_wo z (nI b) W ∧ wt_gf q2 86 9 = nI b := fun b hb hp h8 h9 => by
      refine ⟨b, ⟨hb, hp, fun x hx hpx => ?_⟩, h8, h9⟩
      have := a3 x ((TT x).mpr ⟨hx, hpx⟩)
      rw [h8, h9, nI_toInt (by omega)] at this
      omega
    rcases a2 with ⟨b1, b2⟩ | ⟨x, x1, x2, x3⟩
    · exact OPT 0 (by omega) (wu_pf_0 n) (by rw [b1, w0]; exact k0) b2
    · exact OPT x ((TT x).mp x1).1 ((TT x).mp x1).2 x2 x3
set_option maxHeartbeats 4000000 in
theorem wh_mostM (n : Nat) (hn : 4294967297 < n) {s z : wt_St} {o : Nat → Int32} {W : Nat} {x1 : Int32} (bs : wu_BS 40 s z) (so : wu_so s o W) (h10 : W ≤ 10) (hW : (wt_gf z 108 40).toInt = (W : Int)) : wt_H (wt_it (wp_md_most_B36 n x1) n ((0 : Int32), (0 : Int32), (0 : Int32), z)) (fun y => wt_gf y.2 108 0 = wt_gf z 108 0 ∧ ∃ b, wu_best n o W z b ∧ ((x1 = 0 ∧ y.1.toInt = wu_wo z (nI b) W) ∨ (¬ x1 = 0 ∧ x1 = 1 ∧ y.1 = nI b) ∨ (¬ x1 = 0 ∧ ¬ x1 = 1 ∧ y.1 = nI (wu_cn (fun x => x < 2 ^ W ∧ wu_pf n o W z (nI x)) (2 ^ W))))) := by
  have k0 : (0 : Int32).toInt = 0 := by decide
  have k100 : (100 : Int32).toInt = 100 := by decide
  obtain ⟨W', -, W1, W2, W3⟩ := wu_BS_W bs
  have eW : W' = W := by omega
  rw [eW] at W1 W3
  have p10 : (2 : Nat) ^ W ≤ 1024 := Nat.le_trans (Nat.pow_le_pow_right (by omega) h10) (by decide)
  have p1 : 1 ≤ (2 : Nat) ^ W := Nat.one_le_two_pow
  have e40 : wt_gf z 108 40 = nI W := wt_eqI (by rw [hW, nI_toInt (by omega)])
  have wb : ∀ k, k < W → 0 ≤ (wt_ga z (264 + k) 3).toInt ∧ (wt_ga z (264 + k) 3).toInt ≤ 999 := fun k hk => by
    have := W3 k hk
    rw [← this.2.1]
    omega
  have WO : ∀ Z x, wu_fR z Z → wu_wo Z x W = wu_wo z x W := fun Z x f => wt_sum_congr W (fun k hk => by
    show (if wu_bb x k = true then (wt_ga Z (264 + k) 3).toInt else 0) = if wu_bb x k = true then (wt_ga z (264 + k) 3).toInt else 0
    rw [f.2 (264 + k) (by (try dsimp only); omega)])
  have WH : ∀ Z x, wu_fR z Z → wt_H (wp_md_worthOf n x Z) (fun q => q.2 = Z ∧ q.1.toInt = wu_wo z x W) := fun Z x f => (wh_worthOf n (x := x) (W := W) (by rw [f.1 108 40 (by decide)]; exact hW) h10 (fun k hk => by rw [f.2 (264 + k) (by (try dsimp only); omega)]; exact wb k hk)).imp (fun q hq => ⟨hq.1, by rw [hq.2]; exact WO Z x f⟩)
  refine wt_H_it (fun t : Int32 × Int32 × Int32 × wt_St => (wu_fR z t.2.2.2 ∧ wu_KE z t.2.2.2) ∧ ∃ k b : Nat, t.2.2.1.toInt = (k : Int) ∧ k ≤ 2 ^ W ∧ t.2.1 = nI (wu_cn (fun x => x < 2 ^ W ∧ wu_pf n o W z (nI x)) k) ∧ t.1 = nI b ∧ (b < 2 ^ W ∧ (b = 0 ∨ b < k)) ∧ wu_pf n o W z (nI b) ∧ ∀ x, x < k → wu_pf n o W z (nI x) → wu_wo z (nI x) W < wu_wo z (nI b) W ∨ (wu_wo z (nI x) W = wu_wo z (nI b) W ∧ b ≤ x)) (fun K t I hK => ?_) n _ ⟨⟨wt_fr.rf, bs.1, fun _ => rfl, fun _ _ => rfl⟩, 0, 0, k0, by omega, rfl, rfl, ⟨by omega, Or.inl rfl⟩, wu_pf_0 n, fun x hx => absurd hx (by omega)⟩
  obtain ⟨⟨f, ke⟩, k, b, h1, h2, h3, h4, ⟨h5, h5'⟩, h6, h7⟩ := I
  unfold wp_md_most_B36
  rw [f.1 108 40 (by decide), e40]
  have pw := wu_pow2 W (by omega)
  refine wt_H_if (fun c => ?_) (fun c => ?_)
  · have c' := wt_cle c
    have kW : k = 2 ^ W := by omega
    rw [kW] at h3 h7
    have best : wu_best n o W z b := ⟨h5, h6, fun x hx hp => h7 x hx hp⟩
    refine wt_H_if (fun d => ?_) (fun d => wt_H_if (fun e => ?_) (fun e => ?_))
    · refine wt_H_bh (WH _ t.1 f) (fun q8 h8 => wt_H_some ⟨by show wt_gf q8.2 108 0 = _; rw [h8.1]; exact f.1 108 0 (by decide), b, best, Or.inl ⟨d, ?_⟩⟩)
      show q8.1.toInt = _
      rw [h8.2, h4]
    · exact wt_H_some ⟨f.1 108 0 (by decide), b, best, Or.inr (Or.inl ⟨d, e, h4⟩)⟩
    · exact wt_H_some ⟨f.1 108 0 (by decide), b, best, Or.inr (Or.inr ⟨d, e, h3⟩)⟩
  · have c' := wt_ncle c
    have ei := wt_i1 (c := t.2.2.1) (by omega)
    have ek : t.2.2.1 = nI k := wt_eqI (by rw [h1, nI_toInt (by omega)])
    refine wt_H_bh (wt_H_and (wt_H_and (wh_puts_KA n hn ke) (wh_putsR n)) (wq_md_puts n hn t.2.2.2 ke.1).h) (fun q9 h9 => ?_)
    obtain ⟨⟨ka, g9, -⟩, -, r9⟩ := h9
    have F9 : wu_fR z q9 := wu_fR_tr f (g9.wk (fun _ _ h => h.elim) (fun _ h => by omega))
    have sk9 : wu_SK 40 s q9 := fun l hl => by
      obtain ⟨m1, m2, m3⟩ := bs.2.1 l hl
      rw [F9.2 111 (by decide)]
      refine ⟨m1, m2, fun i hi => ?_⟩
      obtain ⟨p1, p2⟩ := m3 i hi
      rw [g9.2 121 (by decide), g9.2 124 (by decide), ke.2.1, ke.2.2 _ (by omega)]
      exact ⟨p1, p2⟩
    have bs9 : wu_BS 40 s q9 := wu_BS_fr bs (wt_fr.rf : wu_fC s s) F9 r9 sk9
    have hW9 : (wt_gf q9 108 40).toInt = (W : Int) := by rw [F9.1 108 40 (by decide)]; exact hW
    have two := wu_pf_two n hn (X := nI k) bs bs9 hW hW9 so
    have wk99 : ∀ j, j < W → wu_wk s (o j) ≤ 99 := fun j hj => by
      have b := so.1 j hj
      have e := wt_tnI b.1
      unfold wu_wk
      exact (W3 _ (by omega)).2.2.1.2
    refine wt_H_bh (wt_H_and (wh_printsF n hn (X := t.2.2.1) (x3 := (100 : Int32)) so h10 hW9 (fun k hk => by
      obtain ⟨a, -, b, -⟩ := W3 k hk
      rw [F9.2 (264 + k) (by (try dsimp only); omega)]
      exact ⟨a, b.1⟩) r9 k100 wk99) (wt_H_and (wh_prints_KA n hn ka) (wh_printsR n hn r9))) (fun q10 h10' => ?_)
    obtain ⟨pr, ka10, r10, f10, -⟩ := h10'
    have F10 : wu_fR z q10.2 := wu_fR_tr F9 (f10.wk (fun _ _ h => by omega) (fun _ h => by omega))
    rw [ek] at pr
    rw [← two] at pr
    have B69 : ∀ y0 : Int32, ((y0 = 0 ∧ ¬ wu_pf n o W z (nI k)) ∨ (¬ y0 = 0 ∧ wu_pf n o W z (nI k))) → wt_H (wp_md_most_B69 n x1 t.1 t.2.1 t.2.2.1 K y0 q10.2) (fun y => wt_gf y.2 108 0 = wt_gf z 108 0 ∧ ∃ b, wu_best n o W z b ∧ ((x1 = 0 ∧ y.1.toInt = wu_wo z (nI b) W) ∨ (¬ x1 = 0 ∧ x1 = 1 ∧ y.1 = nI b) ∨ (¬ x1 = 0 ∧ ¬ x1 = 1 ∧ y.1 = nI (wu_cn (fun x => x < 2 ^ W ∧ wu_pf n o W z (nI x)) (2 ^ W))))) := fun y0 hy => by
      unfold wp_md_most_B69 wp_md_most_B106 wp_md_most_B107
      refine wt_H_bh (wt_H_and (wh_putsBack_KE n hn ka10) (wh_putsBackR n)) (fun q12 h12 => ?_)
      obtain ⟨ke12, f12, -⟩ := h12
      have F12 : wu_fR z q12 := wu_fR_tr F10 (f12.wk (fun _ _ h => h.elim) (fun _ h => by omega))
      refine wt_H_if (fun d => ?_) (fun d => ?_)
      · have np : ¬ wu_pf n o W z (nI k) := by
          rcases hy with ⟨-, h⟩ | ⟨h, -⟩
          · exact h
          · exact absurd d h
        refine hK _ ⟨⟨F12, ke12⟩, k + 1, b, by show (t.2.2.1 + (1 : Int32)).toInt = _; omega, by omega, ?_, h4, ⟨h5, by omega⟩, h6, fun x hx hp => ?_⟩
        · show t.2.1 = _
          rw [h3, wu_cn_f (fun h => np h.2)]
        · by_cases e : x = k
          · rw [e] at hp
            exact absurd hp np
          · exact h7 x (by omega) hp
      · have yp : wu_pf n o W z (nI k) := by
          rcases hy with ⟨h, -⟩ | ⟨-, h⟩
          · exact absurd h d
          · exact h
        have cnk : t.2.1 + (1 : Int32) = nI (wu_cn (fun x => x < 2 ^ W ∧ wu_pf n o W z (nI x)) (k + 1)) := by
          rw [wu_cn_t ⟨by omega, yp⟩, h3]
          exact nI_1 _
        refine wt_H_bh (WH _ t.2.2.1 F12) (fun q14 h14 => ?_)
        rw [h14.1]
        refine wt_H_bh (WH _ t.1 F12) (fun q15 h15 => ?_)
        rw [h15.1]
        have v14 := h14.2
        have v15 := h15.2
        rw [ek] at v14
        rw [h4] at v15
        refine wt_H_if (fun e => ?_) (fun e => ?_)
        · have e' := wt_cle e
          refine hK _ ⟨⟨F12, ke12⟩, k + 1, b, by show (t.2.2.1 + (1 : Int32)).toInt = _; omega, by omega, cnk, h4, ⟨h5, by omega⟩, h6, fun x hx hp => ?_⟩
          by_cases g : x = k
          · rw [g]
            by_cases l : wu_wo z (nI k) W < wu_wo z (nI b) W
            · exact Or.inl l
            · refine Or.inr ⟨by omega, ?_⟩
              omega
          · exact h7 x (by omega) hp
        · have e' := wt_ncle e
          refine hK _ ⟨⟨F12, ke12⟩, k + 1, k, by show (t.2.2.1 + (1 : Int32)).toInt = _; omega, by omega, cnk, ek, ⟨by omega, by omega⟩, yp, fun x hx hp => ?_⟩
          by_cases g : x = k
          · rw [g]
            exact Or.inr ⟨rfl, Nat.le_refl _⟩
          · have := h7 x (by omega) hp
            exact Or.inl (by omega)
    refine wt_H_if (fun d => B69 0 (Or.inl ⟨rfl, ?_⟩)) (fun d => B69 1 (Or.inr ⟨by decide, ?_⟩))
    · rcases pr with ⟨-, h⟩ | ⟨h, -⟩
      · exact h
      · exact absurd d h
    · rcases pr with ⟨h, -⟩ | ⟨-, h⟩
      · exact absurd h d
      · exact h
theorem wr_most (n : Nat) (hn : 4294967297 < n) {x1 : Int32} {s z : wt_St} (v : wt_IV z) (rl : wu_RL s z) : wt_HH (wp_ap_most n x1 s) (wp_md_most n x1 z) (fun q y => (q.1 = 1 ∧ wt_gf y.2 108 0 = 1) ∨ (q.1 = 0 ∧ wt_gf y.2 108 0 = 0 ∧ q.2.1 = y.1)) := by
  have k0 : (0 : Int32).toInt = 0 := by decide
  have k1 : (1 : Int32).toInt = 1 := by decide
  have k2 : (2 : Int32).toInt = 2 := by decide
  unfold wp_ap_most wp_md_most wp_ap_most_B9 wp_ap_most_B14 wp_md_most_B20
  obtain ⟨z0, ε0⟩ : ∃ o : wt_St, o = wt_sf z 108 0 (0 : Int32) := ⟨_, rfl⟩
  rw [← ε0]
  have g0 := wt_fr_sf ε0
  have t0 : wt_gf z0 108 0 = 0 := wt_v_sf ε0
  have r0 : wt_RI z0 := wt_RI_fno v.1 ε0 (Or.inr (by decide +kernel))
  have bs := wu_BS_of r0 (wu_RL_z0 rl v.1 g0)
  obtain ⟨W, h10, W1, W2, W3⟩ := wu_BS_W bs
  refine wr_gI n t0 (by decide) (Or.inl ⟨rfl, wt_v_sf rfl⟩) (fun p0 p2 => ?_)
  refine wt_HH_l (wh_findMost n hn bs h10 W2) (fun q3 h3 => ?_)
  obtain ⟨s1, o, ⟨bs1, so, -⟩, cn, b, best, h8, h9⟩ := h3
  refine wt_HH_rr (wh_mostM n hn (x1 := x1) bs1 so h10 W2) (fun y hy => ?_)
  obtain ⟨ty, c, bc, ans⟩ := hy
  have bcE : b = c := wu_best_u best bc
  have T0 : wt_gf y.2 108 0 = 0 := ty.trans t0
  refine wt_H_if (fun d => ?_) (fun d => wt_H_if (fun e => ?_) (fun e => ?_))
  · refine wt_H_some (Or.inr ⟨rfl, T0, ?_⟩)
    show wt_gf q3 86 10 = y.1
    rcases ans with ⟨a, -⟩ | ⟨-, a, -⟩ | ⟨-, -, a⟩
    · rw [d] at a
      exact absurd a (by decide)
    · rw [d] at a
      exact absurd a (by decide)
    · rw [cn, a]
  · refine wt_H_some (Or.inr ⟨rfl, T0, ?_⟩)
    show wt_gf q3 86 8 = y.1
    rcases ans with ⟨-, a⟩ | ⟨a, -, -⟩ | ⟨a, -, -⟩
    · exact wt_eqI (by rw [h8, a, bcE])
    · exact absurd e a
    · exact absurd e a
  · refine wt_H_some (Or.inr ⟨rfl, T0, ?_⟩)
    show wt_gf q3 86 9 = y.1
    rcases ans with ⟨a, -⟩ | ⟨-, -, a⟩ | ⟨a, a2, -⟩
    · exact absurd a e
    · rw [h9, a, bcE]
    · have n0 := wt_nceq d
      have n1 := wt_nceq a
      have n2 := wt_nceq a2
      omega
end WTQ4
