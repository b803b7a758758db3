theorem wt_fin0 (n : Nat) (s : wt_St) : wt_fin n ((0 : Int32), s) = some ((0 : Int32), s) := if_pos rfl
theorem wt_len_w : wt_w0.length = 6 ∧ wt_w1.length = 5 ∧ wt_w2.length = 5 ∧ wt_w3.length = 5 ∧ wt_w4.length = 4 ∧ wt_w5.length = 6 := ⟨rfl, rfl, rfl, rfl, rfl, rfl⟩
theorem wt_kcl_none {β : Nat → Int32} {k : Nat} {y : Int32} (h : wt_kcl β k k y) : y = -1 := by
  obtain ⟨l0, l1, l2, l3, l4, l5⟩ := wt_len_w
  rcases h with ⟨hy, m⟩ | ⟨hy, m0, m⟩ | ⟨hy, m0, m1, m⟩ | ⟨hy, m0, m1, m2, m⟩ | ⟨hy, m0, m1, m2, m3, m⟩ | ⟨hy, m0, m1, m2, m3, m4, m⟩ | ⟨hy, -⟩
  · have := m.1; omega
  · have := m.1; omega
  · have := m.1; omega
  · have := m.1; omega
  · have := m.1; omega
  · have := m.1; omega
  · exact hy
set_option maxRecDepth 100000 in
set_option maxHeartbeats 8000000 in
theorem wr_clause (n : Nat) (hn : 4294967297 < n) {b : Int32} {β : Nat → Int32} {e k : Nat} {s z : wt_St} (hb0 : 0 ≤ b.toInt) (hb : b.toInt ≤ 60) (tv : wt_tv β e k s) (rv : wt_rv β e k z) (h0 : wt_gf z 108 5 = 0) (lr : wt_lr b s z) (r1 : wt_run β e wt_bl k k) : wt_HH ((wp_ld_fillClause n 12 b s).bind (wt_fin n)) (wp_md_clause n z) (fun q y => (q.1 = 0 ∧ wt_ft q.2 y) ∨ (q.1 = 1 ∧ wt_ok (wt_lr (b + 1)) β e q.2 y ∧ b.toInt < 60)) := by
  have k60 : (60 : Int32).toInt = 60 := by decide
  have k1 : (1 : Int32).toInt = 1 := by decide
  have k3 : (3 : Int32).toInt = 3 := by decide
  have o1 : ¬ (1 : Int32) = 0 := by decide
  unfold wp_ld_fillClause
  refine wt_HH_lb (wh_takeWord n hn tv) (fun q1 h1 => ?_)
  obtain ⟨j, j2, s1, s2, tv1, st1, hc⟩ := h1
  have ej : j = k := wt_run_u s1 r1
  rw [ej] at s2 st1 hc
  have W : ∀ (f : Nat) (x : Int32) (y0 : Int32) (q : wt_St) (z1 : wt_St), x.toInt = (f : Int) → 0 < f → wt_flt q f k → wt_rv β e k z1 → wt_fr (fun i k => i = 108 ∧ k = 4) (fun _ => False) z z1 → wt_HH (some ((0 : Int32), q)) ((wp_md_wrong n x (wt_gf z 108 4) z1).bind fun q46 => wp_md_clause_B179 n y0 q46) (fun q y => (q.1 = 0 ∧ wt_ft q.2 y) ∨ (q.1 = 1 ∧ wt_ok (wt_lr (b + 1)) β e q.2 y ∧ b.toInt < 60)) := by
    intro f x y0 q z1 hx hf hq rv1 f1
    refine wt_HH_r (wh_wrong n ((f1.1 108 5 (by (try dsimp only); omega)).trans h0) hx rv.2.2.1) (fun z2 h2 => ?_)
    unfold wp_md_clause_B179
    rw [if_neg (wt_frt_nz h2.1 hf)]
    exact wt_HH_some (Or.inl ⟨rfl, f, k, hf, hq, h2.1⟩)
  rcases hc with ⟨e2, q0, fl, -⟩ | ⟨lt, q0, fr, sp⟩
  · rw [if_pos q0]
    show wt_HH (wt_fin n ((0 : Int32), q1.2)) _ _
    rw [wt_fin0]
    rw [e2] at s2
    refine wr_names n rv h0 r1 s2 (fun y z1 rv1 f1 hy => ?_)
    rw [wt_kcl_none hy]
    unfold wp_md_clause_B149
    rw [if_pos rfl]
    exact W 1 _ _ _ _ (by decide) (by omega) fl rv1 f1
  · rw [if_neg (by rw [q0]; decide)]
    refine wr_names n rv h0 r1 s2 (fun y z1 rv1 f1 hy => ?_)
    have h01 : wt_gf z1 108 5 = 0 := (f1.1 108 5 (by (try dsimp only); omega)).trans h0
    have h71 : wt_gf z1 108 7 = b := (f1.1 108 7 (by (try dsimp only); omega)).trans lr.2.2.2.2.2.2.1
    refine wt_HH_lb (wh_names n hn tv1 (by omega) st1 y hy) (fun q3 h3 => ?_)
    obtain ⟨e3, hm, hp⟩ := h3
    rw [e3]
    unfold wp_md_clause_B149
    by_cases hy1 : y = -1
    · rw [if_pos (hm hy1), if_pos hy1]
      refine wt_HH_lb (wh_fail n (x := (1 : Int32)) (f := 1) (by decide) st1) (fun q28 h28 => ?_)
      rw [h28.1]
      show wt_HH (wt_fin n ((0 : Int32), q28.2)) _ _
      rw [wt_fin0]
      exact W 1 _ _ _ _ (by decide) (by omega) h28.2.1 rv1 f1
    · rw [if_neg (hp hy1), if_neg hy1, h71]
      by_cases h60 : b = 60
      · rw [if_neg (fun c => by have := wt_clt c; rw [h60] at this; omega), if_pos h60]
        refine wt_HH_lb (wh_fail n (x := (3 : Int32)) (f := 3) (by decide) st1) (fun q28 h28 => ?_)
        rw [h28.1]
        show wt_HH (wt_fin n ((0 : Int32), q28.2)) _ _
        rw [wt_fin0]
        exact W 3 _ _ _ _ (by decide) (by omega) h28.2.1 rv1 f1
      · have hlt : b.toInt < 60 := by
          have : b.toInt ≠ 60 := fun c => h60 (wt_eqI (c.trans k60.symm))
          omega
        rw [if_pos (Int32.lt_iff_toInt_lt.mpr (by omega)), if_neg h60]
        refine wt_HH.imp (P := wt_CQ (b + 1) β e) ?_ (fun q y hq => hq.elim Or.inl (fun h => Or.inr ⟨h.1, h.2, hlt⟩))
        unfold wp_md_clause_B179
        rw [if_pos h01]
        refine wt_HH_r (wh_lettersHere n rv1) (fun q22 h22 => ?_)
        obtain ⟨i, i2, u1, u2, rv2, e22, f2⟩ := h22
        have ei : i = k := wt_run_u u1 r1
        rw [ei] at u2 rv2 e22
        have ei2 : i2 = j2 := wt_run_u u2 s2
        rw [ei2] at e22
        have tb := tv1.2.2.2
        have ea := wt_addE (x := wt_gf z1 108 4) (y := q22.1) (by rw [rv1.2.2.1]; omega) (by rw [rv1.2.2.1]; omega)
        obtain ⟨z2, ε2⟩ : ∃ o : wt_St, o = wt_sf q22.2 108 4 ((wt_gf z1 108 4) + q22.1) := ⟨_, rfl⟩
        rw [← ε2]
        have g2 := wt_fr_sf ε2
        have e72 : wt_gf z2 108 7 = b := (g2.1 108 7 (by (try dsimp only); omega)).trans ((f2.1 108 7 (by (try dsimp only); omega)).trans h71)
        rw [e72]
        obtain ⟨z3, ε3⟩ : ∃ o : wt_St, o = wt_sf z2 108 7 (b + (1 : Int32)) := ⟨_, rfl⟩
        rw [← ε3]
        have g3 := wt_fr_sf ε3
        have rvz2 : wt_rv β e j2 z2 := wt_rv_adv rv2 ε2 (by rw [ea, rv1.2.2.1]; omega) (by omega)
        have ok3 : wt_ok (wt_lr (b + 1)) β e q1.2 z3 := by
          refine ⟨j2, tv1, wt_rv_fr rvz2 g3 (fun h => h) (by (try dsimp only); omega) (by (try dsimp only); omega), ?_, ?_⟩
          · rw [g3.1 108 5 (by (try dsimp only); omega), g2.1 108 5 (by (try dsimp only); omega), f2.1 108 5 (by (try dsimp only); omega)]; exact h01
          · have l2 := wt_lr_lxc s q1.2 z z2 lr fr (wt_fr.tr (wt_fr.tr f1 f2 (fun i k h => h) (fun i h => h)) g2 (fun i k h => by (try dsimp only at h); omega) (fun i h => h))
            obtain ⟨c1, c2, c3, c4, c5, c6, c7, c8⟩ := l2
            have fi : wt_fr (fun _ _ => False) (fun _ => False) q1.2 q1.2 := wt_fr.rf
            refine ⟨wt_pr_fr c1 fi g3 (fun h => h) (fun h => h) (fun h => h) (fun h => h), wt_pr_fr c2 fi g3 (fun h => h) (fun h => h) (fun h => h) (fun h => h), fun l hl => ?_, fun l hl => ?_, fun l hl => ?_, ?_, wt_v_sf ε3, ?_⟩
            · rw [g3.2 114 (fun h => h)]; exact c3 l hl
            · rw [g3.2 116 (fun h => h)]; exact c4 l hl
            · rw [g3.2 118 (fun h => h)]; exact c5 l hl
            · rw [g3.1 108 24 (by (try dsimp only); omega)]; exact c6
            · rw [g3.1 108 6 (by (try dsimp only); omega)]; exact c8
        have T := fun bs hb hm => wh_wordT n hn (σ := q1.2) (j := k) bs hb tv1 (by omega) st1 hm
        have F := fun bs hb hm => wh_wordF n hn (σ := q1.2) (j := k) bs hb tv1 (by omega) st1 hm
        rcases hy with ⟨hy, m0⟩ | ⟨hy, m0, m1⟩ | ⟨hy, m0, m1, m2⟩ | ⟨hy, m0, m1, m2, m3⟩ | ⟨hy, m0, m1, m2, m3, m4⟩ | ⟨hy, m0, m1, m2, m3, m4, m5⟩ | ⟨hy, -⟩
        · subst hy
          refine wt_HH_lb (T wt_w0 (by decide) m0) (fun q hq => ?_)
          subst hq
          rw [if_neg o1, if_neg (by decide), if_pos (by decide)]
          unfold wp_md_clause_B231 wp_md_clause_B246
          rw [if_pos (by decide)]
          exact wt_HH_bb (wr_pieces n hn 13 14 110 120 (Or.inl ⟨rfl, rfl, rfl, rfl⟩) ok3) (fun a y hp => wr_fin n hn hp)
        · subst hy
          refine wt_HH_lb (F wt_w0 (by decide) m0) (fun q hq => ?_)
          subst hq
          rw [if_pos rfl]
          refine wt_HH_lb (T wt_w1 (by decide) m1) (fun q hq => ?_)
          subst hq
          rw [if_neg o1, if_neg (by decide), if_neg (by decide)]
          unfold wp_md_clause_B231 wp_md_clause_B246
          rw [if_neg (by decide)]
          exact wt_HH_bb (wr_pieces n hn 15 16 112 122 (Or.inr ⟨rfl, rfl, rfl, rfl⟩) ok3) (fun a y hp => wr_fin n hn hp)
        · subst hy
          refine wt_HH_lb (F wt_w0 (by decide) m0) (fun q hq => ?_)
          subst hq
          rw [if_pos rfl]
          refine wt_HH_lb (F wt_w1 (by decide) m1) (fun q hq => ?_)
          subst hq
          rw [if_pos rfl]
          refine wt_HH_lb (T wt_w2 (by decide) m2) (fun q hq => ?_)
          subst hq
          rw [if_neg o1, if_pos (by decide), if_pos rfl, Option.bind_assoc]
          exact wr_price n hn ok3 (fun a y hp => wr_fin n hn hp)
        · subst hy
          refine wt_HH_lb (F wt_w0 (by decide) m0) (fun q hq => ?_)
          subst hq
          rw [if_pos rfl]
          refine wt_HH_lb (F wt_w1 (by decide) m1) (fun q hq => ?_)
          subst hq
          rw [if_pos rfl]
          refine wt_HH_lb (F wt_w2 (by decide) m2) (fun q hq => ?_)
          subst hq
          rw [if_pos rfl]
          refine wt_HH_lb (T wt_w3 (by decide) m3) (fun q hq => ?_)
          subst hq
          rw [if_neg o1, if_pos (by decide), if_neg (by decide), if_pos rfl, Option.bind_assoc]
          exact wr_faint n hn ok3 (fun a y hp => wr_fin n hn hp)
        · subst hy
          refine wt_HH_lb (F wt_w0 (by decide) m0) (fun q hq => ?_)
          subst hq
          rw [if_pos rfl]
          refine wt_HH_lb (F wt_w1 (by decide) m1) (fun q hq => ?_)
          subst hq
          rw [if_pos rfl]
          refine wt_HH_lb (F wt_w2 (by decide) m2) (fun q hq => ?_)
          subst hq
          rw [if_pos rfl]
          refine wt_HH_lb (F wt_w3 (by decide) m3) (fun q hq => ?_)
          subst hq
          rw [if_pos rfl]
          refine wt_HH_lb (T wt_w4 (by decide) m4) (fun q hq => ?_)
          subst hq
          rw [if_neg o1, if_pos (by decide), if_neg (by decide), if_neg (by decide), if_pos rfl, Option.bind_assoc]
          exact wr_like n hn ok3 (fun a y hp => wr_fin n hn hp)
        · subst hy
          refine wt_HH_lb (F wt_w0 (by decide) m0) (fun q hq => ?_)
          subst hq
          rw [if_pos rfl]
          refine wt_HH_lb (F wt_w1 (by decide) m1) (fun q hq => ?_)
          subst hq
          rw [if_pos rfl]
          refine wt_HH_lb (F wt_w2 (by decide) m2) (fun q hq => ?_)
          subst hq
          rw [if_pos rfl]
          refine wt_HH_lb (F wt_w3 (by decide) m3) (fun q hq => ?_)
          subst hq
          rw [if_pos rfl]
          refine wt_HH_lb (F wt_w4 (by decide) m4) (fun q hq => ?_)
          subst hq
          rw [if_pos rfl, if_pos (by decide), if_neg (by decide), if_neg (by decide), if_neg (by decide), Option.bind_assoc]
          exact wr_follow n hn ok3 (fun a y hp => wr_fin n hn hp)
        · exact absurd hy hy1
/-! a loop whose end goes on: the end may be taken out of it -/
theorem wt_it_fac {α ρ ρ' : Type} {body : (α → Option ρ) → α → Option ρ} {body' : (α → Option ρ') → α → Option ρ'} {r : ρ' → Option ρ} (h : ∀ (K : α → Option ρ') (s : α), body (fun a => (K a).bind r) s = (body' K s).bind r) : ∀ (n : Nat) (s : α), wt_it body n s = (wt_it body' n s).bind r := by
  intro n
  induction n with
  | zero => intro s; rfl
  | succ n ih =>
    intro s
    show body (wt_it body n) s = (body' (wt_it body' n) s).bind r
    rw [← h, show wt_it body n = (fun a => (wt_it body' n a).bind r) from funext ih]
noncomputable def wt_kL (n : Nat) (K : wt_St → Option wt_St) (s : wt_St) : Option wt_St :=
  if (wt_gf s 108 5) = 0 then
    if (wt_gf s 108 2) ≤ (wt_gf s 108 4) then some s
    else (wp_md_clause n s).bind fun q14 => (wp_md_blanks n q14).bind fun q15 => K q15
  else some s
theorem wt_kL_fac (n m : Nat) (s : wt_St) : wt_it (wp_md_kase_B41 n) m s = (wt_it (wt_kL n) m s).bind (wp_md_kase_B70 n) := by
  refine wt_it_fac (fun K s => ?_) m s
  unfold wp_md_kase_B41 wt_kL
  by_cases h1 : (wt_gf s 108 5) = 0
  · rw [if_pos h1, if_pos h1]
    by_cases h2 : (wt_gf s 108 2) ≤ (wt_gf s 108 4)
    · rw [if_pos h2, if_pos h2]
      rfl
    · rw [if_neg h2, if_neg h2]
      cases wp_md_clause n s with
      | none => rfl
      | some a =>
        show ((wp_md_blanks n a).bind fun q15 => (K q15).bind (wp_md_kase_B70 n)) = ((wp_md_blanks n a).bind fun q15 => K q15).bind (wp_md_kase_B70 n)
        cases wp_md_blanks n a with
        | none => rfl
        | some b => rfl
  · rw [if_neg h1, if_neg h1]
    rfl
theorem wt_HH_if2 {ρ ρ' ρ'' : Type} {x : Option (Int32 × wt_St)} {y : wt_St → Option (Int32 × wt_St)} {F K : wt_St → Option ρ} {x' : Option ρ'} {f' : ρ' → Option ρ''} {P : Int32 × wt_St → ρ' → Prop} {Q : ρ → ρ'' → Prop} (h : wt_HH (x.bind fun q5 => if q5.1 = 0 then some ((0 : Int32), q5.2) else y q5.2) x' P) (k0 : ∀ a b, a.1 = 0 → P a b → wt_HH (F a.2) (f' b) Q) (k1 : ∀ a b, ¬ a.1 = 0 → P a b → wt_HH (K a.2) (f' b) Q) : wt_HH (x.bind fun q5 => if q5.1 = 0 then F q5.2 else (y q5.2).bind fun q7 => if q7.1 = 0 then F q7.2 else K q7.2) (x'.bind f') Q := by
  cases x with
  | none => exact wt_HH_nl
  | some a =>
    cases x' with
    | none => exact wt_HH_nr
    | some b =>
      have h' : wt_HH (if a.1 = 0 then some ((0 : Int32), a.2) else y a.2) (some b) P := h
      show wt_HH (if a.1 = 0 then F a.2 else (y a.2).bind fun q7 => if q7.1 = 0 then F q7.2 else K q7.2) (f' b) Q
      by_cases ha : a.1 = 0
      · rw [if_pos ha] at h' ⊢
        exact k0 ((0 : Int32), a.2) b rfl (h' _ _ rfl rfl)
      · rw [if_neg ha] at h' ⊢
        cases hy : y a.2 with
        | none => exact wt_HH_nl
        | some c =>
          show wt_HH (if c.1 = 0 then F c.2 else K c.2) (f' b) Q
          have hp := h' c b hy rfl
          by_cases hc : c.1 = 0
          · rw [if_pos hc]; exact k0 c b hc hp
          · rw [if_neg hc]; exact k1 c b hc hp
theorem wh_over (n : Nat) (hn : 4294967297 < n) {β : Nat → Int32} {e k : Nat} {σ : wt_St} (h : wt_tv β e k σ) : wt_H (wp_tp_over n σ) (fun q => ∃ j, wt_run β e wt_bl k j ∧ wt_tv β e j q.2 ∧ (wt_gf q.2 1 5).toInt = (j : Int) ∧ wt_fr (fun i k => i = 1 ∧ (k = 4 ∨ k = 5)) (fun _ => False) σ q.2 ∧ ((q.1 = 0 ∧ j < e) ∨ (q.1 = 1 ∧ e ≤ j))) := by
  unfold wp_tp_over
  refine wt_H_bh (wh_skip n hn h) (fun s hs => ?_)
  obtain ⟨j, r1, tv, st, fr⟩ := hs
  have t2 := tv.2.1
  have t3 := tv.2.2.1
  refine wt_H_if (fun c => ?_) (fun c => ?_)
  · have c' := wt_clt c
    exact wt_H_some ⟨j, r1, tv, st, fr, Or.inl ⟨rfl, by omega⟩⟩
  · have c' := wt_ncl c
    exact wt_H_some ⟨j, r1, tv, st, fr, Or.inr ⟨rfl, by omega⟩⟩
theorem wt_run_self {β : Nat → Int32} {e : Nat} {P : Int → Prop} {k j : Nat} (h : wt_run β e P k j) : wt_run β e P j j := ⟨Nat.le_refl _, fun i h1 h2 => absurd h1 (by omega), h.2.2⟩
theorem wt_HH_itJ {α α' ρ ρ' : Type} {body : (α → Option ρ) → α → Option ρ} {body' : (α' → Option ρ') → α' → Option ρ'} {Q : ρ → ρ' → Prop} (I : α → α' → Prop) (J : α' → Prop) (QJ : α' → ρ' → Prop) (hJ : ∀ (n : Nat) (s' : α'), J s' → wt_H (wt_it body' n s') (QJ s')) (h : ∀ (K : α → Option ρ) (K' : α' → Option ρ') (s : α) (s' : α'), I s s' → (∀ t t', I t t' → wt_HH (K t) (K' t') Q) → (∀ t', J t' → wt_H (K' t') (QJ t')) → wt_HH (body K s) (body' K' s') Q) : ∀ (n n' : Nat) (s : α) (s' : α'), I s s' → wt_HH (wt_it body n s) (wt_it body' n' s') Q := by
  intro n
  induction n with
  | zero => intro n' s s' _; exact wt_HH_nl
  | succ n ih =>
    intro n' s s' hs
    cases n' with
    | zero => exact wt_HH_nr
    | succ n' => exact h _ _ s s' hs (fun t t' ht => ih n' t t' ht) (hJ n')
theorem wt_kL_f (n m : Nat) (s : wt_St) (h : ¬ wt_gf s 108 5 = 0) : wt_H (wt_it (wt_kL n) m s) (fun y => y = s) := by
  cases m with
  | zero => exact wt_H_none
  | succ m =>
    show wt_H (wt_kL n (wt_it (wt_kL n) m) s) _
    unfold wt_kL
    rw [if_neg h]
    exact wt_H_some rfl
set_option maxHeartbeats 4000000 in
/-- a case is read on both sides: the same fault, or the same tables -/
theorem wr_fillLoop (n m m' : Nat) (hn : 4294967297 < n) {β : Nat → Int32} {e k j : Nat} {s z : wt_St} (tv : wt_tv β e k s) (r : wt_run β e wt_bl k j) (rv : wt_rv β e j z) (h0 : wt_gf z 108 5 = 0) (lr : wt_lr 0 s z) : wt_HH (wt_it (wp_ld_fill_B6 n 12) m ((0 : Int32), s)) (wt_it (wt_kL n) m' z) (fun q y => (q.1 = 0 ∧ wt_ft q.2 y) ∨ (q.1 = 1 ∧ wt_gf y 108 5 = 0 ∧ ∃ c, wt_lr c q.2 y)) := by
  have k0 : (0 : Int32).toInt = 0 := by decide
  have k60 : (60 : Int32).toInt = 60 := by decide
  refine wt_HH_itJ (fun (t : Int32 × wt_St) (y : wt_St) => 0 ≤ t.1.toInt ∧ t.1.toInt ≤ 60 ∧ ∃ k j, wt_tv β e k t.2 ∧ wt_run β e wt_bl k j ∧ wt_rv β e j y ∧ wt_gf y 108 5 = 0 ∧ wt_lr t.1 t.2 y) (fun y => ¬ wt_gf y 108 5 = 0) (fun s y => y = s) (fun a b h => wt_kL_f n a b h) (fun K K' t y I hK hJ => ?_) m m' _ _ ⟨by show 0 ≤ ((0 : Int32)).toInt; omega, by show ((0 : Int32)).toInt ≤ 60; omega, k, j, tv, r, rv, h0, lr⟩
  obtain ⟨i1, i2, k, j, tv, r, rv, h0, lr⟩ := I
  unfold wp_ld_fill_B6 wt_kL
  rw [if_neg (fun c => by have := wt_clt c; omega), if_pos h0]
  refine wt_HH_l (wh_over n hn tv) (fun q3 h3 => ?_)
  obtain ⟨j', r', tv', st', fr', hc⟩ := h3
  have ej : j' = j := wt_run_u r' r
  rw [ej] at tv' hc
  have lr' : wt_lr t.1 q3.2 y := wt_lr_lxc _ _ _ _ lr (wt_frw fr' (fun i k h => h) (fun i h => h.elim)) wt_fr.rf
  have t2 := rv.2.1
  have t3 := rv.2.2.1
  rcases hc with ⟨c1, c2⟩ | ⟨c1, c2⟩
  · rw [if_pos c1, if_neg (fun c => by have := wt_cle c; omega)]
    refine wt_HH_if2 (y := wp_tp_needSign n (59 : Int32)) (F := fun q => some ((0 : Int32), q)) (K := fun q => K ((t.1 + (1 : Int32)), q)) (wr_clause n hn i1 i2 tv' rv h0 lr' (wt_run_self r)) (fun a b ha hp => ?_) (fun a b ha hp => ?_)
    · rcases hp with ⟨p1, p2⟩ | ⟨p1, -⟩
      · -- the reference skips blanks and stops at the fault
        obtain ⟨f, p, hf, hfl, hfr⟩ := p2
        have B : wt_H (wp_md_blanks n b) (fun w => wt_fr (fun i k => i = 108 ∧ k = 4) (fun _ => False) b w) := by
          unfold wp_md_blanks
          refine wt_H_it (fun w : wt_St => wt_fr (fun i k => i = 108 ∧ k = 4) (fun _ => False) b w) (fun K2 w hw hK2 => ?_) n b wt_fr.rf
          unfold wp_md_blanks_B0
          have BA : wt_H (wp_md_byteAt n (wt_gf w 108 4) w) (fun q => q.2 = w) := by
            unfold wp_md_byteAt
            exact wt_H_if (fun _ => wt_H_gd (fun _ => wt_H_some rfl)) (fun _ => wt_H_some rfl)
          refine wt_H_bh BA (fun q hq => ?_)
          rw [hq]
          refine wt_H_if (fun _ => hK2 _ (wt_fr.tr hw (wt_fr_sf rfl) (fun i k h => h) (fun i h => h))) (fun _ => wt_H_some hw)
        refine wt_HH_r B (fun w hw => ?_)
        have hw5 : wt_frt w f p := ⟨by rw [hw.1 108 5 (by (try dsimp only); omega)]; exact hfr.1, by rw [hw.1 108 6 (by (try dsimp only); omega)]; exact hfr.2⟩
        refine wt_HH_of (P := fun q => q = ((0 : Int32), a.2)) (P' := fun y => y = w) (wt_H_some rfl) ?_ (fun q y hq hy => Or.inl ⟨by rw [hq], f, p, hf, by rw [hq]; exact hfl, by rw [hy]; exact hw5⟩)
        exact hJ w (wt_frt_nz hw5 hf)
      · exact absurd ha (by rw [p1]; decide)
    · rcases hp with ⟨p1, -⟩ | ⟨p1, ⟨k2, tv2, rv2, h02, lr2⟩, hlt⟩
      · exact absurd p1 ha
      · refine wt_HH_r (wh_blanks n rv2) (fun w hw => ?_)
        obtain ⟨j3, r3, rv3, fr3⟩ := hw
        have ei := wt_i1 (c := t.1) (by omega)
        exact hK ((t.1 + (1 : Int32)), a.2) w ⟨by show 0 ≤ (t.1 + (1 : Int32)).toInt; omega, by show (t.1 + (1 : Int32)).toInt ≤ 60; omega, k2, j3, tv2, r3, rv3, (fr3.1 108 5 (by (try dsimp only); omega)).trans h02, wt_lr_lxc _ _ _ _ lr2 wt_fr.rf fr3⟩
  · rw [if_neg (by rw [c1]; decide), if_pos (Int32.le_iff_toInt_le.mpr (by omega))]
    exact wt_HH_some (Or.inr ⟨rfl, h0, t.1, lr'⟩)
