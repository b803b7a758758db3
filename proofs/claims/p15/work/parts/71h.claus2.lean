/-! what a clause may be -/
abbrev wt_w0 : List Int32 := [108, 101, 116, 116, 101, 114]
abbrev wt_w1 : List Int32 := [116, 104, 101, 114, 101]
abbrev wt_w2 : List Int32 := [112, 114, 105, 99, 101]
abbrev wt_w3 : List Int32 := [102, 97, 105, 110, 116]
abbrev wt_w4 : List Int32 := [108, 105, 107, 101]
abbrev wt_w5 : List Int32 := [102, 111, 108, 108, 111, 119]
theorem wh_six0 (n : Nat) {σ : wt_St} : wt_H (wp_md_six n (12 : Int32) (5 : Int32) (20 : Int32) (20 : Int32) (5 : Int32) (18 : Int32) σ) (fun q => q = ((175252482 : Int32), σ)) := by
  unfold wp_md_six wp_md_six_B36
  rw [if_neg (by decide), if_neg (by decide)]
  exact wt_H_some (congrArg (fun v => (v, σ)) (by decide : (27 * (27 * (27 * (27 * (27 * 12 + 5) + 20) + 20) + 5) + 18 : Int32) = 175252482))
theorem wh_six1 (n : Nat) {σ : wt_St} : wt_H (wp_md_six n (20 : Int32) (8 : Int32) (5 : Int32) (18 : Int32) (5 : Int32) (0 : Int32) σ) (fun q => q = ((10790420 : Int32), σ)) := by
  unfold wp_md_six wp_md_six_B36
  rw [if_neg (by decide), if_pos (by decide)]
  exact wt_H_some (congrArg (fun v => (v, σ)) (by decide : (27 * (27 * (27 * (27 * 20 + 8) + 5) + 18) + 5 : Int32) = 10790420))
theorem wh_six2 (n : Nat) {σ : wt_St} : wt_H (wp_md_six n (16 : Int32) (18 : Int32) (9 : Int32) (3 : Int32) (5 : Int32) (0 : Int32) σ) (fun q => q = ((8863997 : Int32), σ)) := by
  unfold wp_md_six wp_md_six_B36
  rw [if_neg (by decide), if_pos (by decide)]
  exact wt_H_some (congrArg (fun v => (v, σ)) (by decide : (27 * (27 * (27 * (27 * 16 + 18) + 9) + 3) + 5 : Int32) = 8863997))
theorem wh_six3 (n : Nat) {σ : wt_St} : wt_H (wp_md_six n (6 : Int32) (1 : Int32) (9 : Int32) (14 : Int32) (20 : Int32) (0 : Int32) σ) (fun q => q = ((3215288 : Int32), σ)) := by
  unfold wp_md_six wp_md_six_B36
  rw [if_neg (by decide), if_pos (by decide)]
  exact wt_H_some (congrArg (fun v => (v, σ)) (by decide : (27 * (27 * (27 * (27 * 6 + 1) + 9) + 14) + 20 : Int32) = 3215288))
theorem wh_six4 (n : Nat) {σ : wt_St} : wt_H (wp_md_six n (12 : Int32) (9 : Int32) (11 : Int32) (5 : Int32) (0 : Int32) (0 : Int32) σ) (fun q => q = ((243059 : Int32), σ)) := by
  unfold wp_md_six wp_md_six_B36
  rw [if_pos (by decide), if_pos (by decide)]
  exact wt_H_some (congrArg (fun v => (v, σ)) (by decide : (27 * (27 * (27 * 12 + 9) + 11) + 5 : Int32) = 243059))
theorem wh_six5 (n : Nat) {σ : wt_St} : wt_H (wp_md_six n (6 : Int32) (15 : Int32) (12 : Int32) (12 : Int32) (15 : Int32) (23 : Int32) σ) (fun q => q = ((94310429 : Int32), σ)) := by
  unfold wp_md_six wp_md_six_B36
  rw [if_neg (by decide), if_neg (by decide)]
  exact wt_H_some (congrArg (fun v => (v, σ)) (by decide : (27 * (27 * (27 * (27 * (27 * 6 + 15) + 12) + 12) + 15) + 23 : Int32) = 94310429))
/-- the reference asks for one name -/
theorem wh_isW (n : Nat) {β : Nat → Int32} {e k j2 : Nat} {σ : wt_St} {w : Int32} (bs : List Int32) (hb : bs.length < 7) (hbs : ∀ i, i < bs.length → 97 ≤ (wt_ch bs (nI i)).toInt ∧ (wt_ch bs (nI i)).toInt ≤ 122) (hw : wt_b27 (fun i => wt_ch bs (nI i)) 0 bs.length = w.toInt) (h : wt_rv β e k σ) (h0 : wt_gf σ 108 5 = 0) (r1 : wt_run β e wt_bl k k) (r2 : wt_run β e wt_sm k j2) : wt_H (wp_md_isWord n w σ) (fun q => wt_rv β e k q.2 ∧ wt_fr (fun i k => i = 108 ∧ k = 4) (fun _ => False) σ q.2 ∧ ((wt_is β k j2 bs ∧ ¬ q.1 = 0) ∨ (¬ wt_is β k j2 bs ∧ q.1 = 0))) := by
  refine (wh_isWord n bs hb hbs hw h h0).imp (fun q hq => ?_)
  obtain ⟨j, j2', s1, s2, rv, fr, hc⟩ := hq
  have e1 : j = k := wt_run_u s1 r1
  rw [e1] at s2 rv hc
  have e2 : j2' = j2 := wt_run_u s2 r2
  rw [e2] at hc
  refine ⟨rv, fr, ?_⟩
  rcases hc with ⟨a, b⟩ | ⟨a, b⟩
  · exact Or.inl ⟨a, by rw [b]; decide⟩
  · exact Or.inr ⟨a, b⟩
def wt_kcl (β : Nat → Int32) (k j2 : Nat) (y : Int32) : Prop := (y = 0 ∧ wt_is β k j2 wt_w0) ∨ (y = 1 ∧ ¬ wt_is β k j2 wt_w0 ∧ wt_is β k j2 wt_w1) ∨ (y = 2 ∧ ¬ wt_is β k j2 wt_w0 ∧ ¬ wt_is β k j2 wt_w1 ∧ wt_is β k j2 wt_w2) ∨ (y = 3 ∧ ¬ wt_is β k j2 wt_w0 ∧ ¬ wt_is β k j2 wt_w1 ∧ ¬ wt_is β k j2 wt_w2 ∧ wt_is β k j2 wt_w3) ∨ (y = 4 ∧ ¬ wt_is β k j2 wt_w0 ∧ ¬ wt_is β k j2 wt_w1 ∧ ¬ wt_is β k j2 wt_w2 ∧ ¬ wt_is β k j2 wt_w3 ∧ wt_is β k j2 wt_w4) ∨ (y = 5 ∧ ¬ wt_is β k j2 wt_w0 ∧ ¬ wt_is β k j2 wt_w1 ∧ ¬ wt_is β k j2 wt_w2 ∧ ¬ wt_is β k j2 wt_w3 ∧ ¬ wt_is β k j2 wt_w4 ∧ wt_is β k j2 wt_w5) ∨ (y = -1 ∧ ¬ wt_is β k j2 wt_w0 ∧ ¬ wt_is β k j2 wt_w1 ∧ ¬ wt_is β k j2 wt_w2 ∧ ¬ wt_is β k j2 wt_w3 ∧ ¬ wt_is β k j2 wt_w4 ∧ ¬ wt_is β k j2 wt_w5)
set_option maxRecDepth 100000 in
set_option maxHeartbeats 4000000 in
theorem wr_names {α : Type} {p : Option α} {Q : α → wt_St → Prop} (n : Nat) {β : Nat → Int32} {e k j2 : Nat} {z : wt_St} (rv : wt_rv β e k z) (h0 : wt_gf z 108 5 = 0) (r1 : wt_run β e wt_bl k k) (r2 : wt_run β e wt_sm k j2) (h : ∀ (y : Int32) (z1 : wt_St), wt_rv β e k z1 → wt_fr (fun i k => i = 108 ∧ k = 4) (fun _ => False) z z1 → wt_kcl β k j2 y → wt_HH p (wp_md_clause_B149 n (wt_gf z 108 4) y z1) Q) : wt_HH p (wp_md_clause n z) Q := by
  have fz : ∀ {z1 : wt_St}, wt_fr (fun i k => i = 108 ∧ k = 4) (fun _ => False) z z1 → wt_gf z1 108 5 = 0 := fun f => (f.1 108 5 (by (try dsimp only); omega)).trans h0
  have ft : ∀ {z1 z2 : wt_St}, wt_fr (fun i k => i = 108 ∧ k = 4) (fun _ => False) z z1 → wt_fr (fun i k => i = 108 ∧ k = 4) (fun _ => False) z1 z2 → wt_fr (fun i k => i = 108 ∧ k = 4) (fun _ => False) z z2 := fun f g => wt_fr.tr f g (fun i k h => h) (fun i h => h)
  unfold wp_md_clause
  refine wt_HH_r (wh_six0 n) (fun q hq => ?_)
  subst hq
  dsimp only
  refine wt_HH_r (wh_isW n wt_w0 (by decide) (by decide +kernel) (by decide +kernel) rv h0 r1 r2) (fun q1 g1 => ?_)
  obtain ⟨v1, f1, c1⟩ := g1
  rcases c1 with ⟨m1, c1⟩ | ⟨m1, c1⟩
  · rw [if_neg c1]
    exact h _ _ v1 f1 (Or.inl ⟨rfl, m1⟩)
  rw [if_pos c1]
  refine wt_HH_r (wh_six1 n) (fun q hq => ?_)
  subst hq
  dsimp only
  refine wt_HH_r (wh_isW n wt_w1 (by decide) (by decide +kernel) (by decide +kernel) v1 (fz f1) r1 r2) (fun q2 g2 => ?_)
  obtain ⟨v2, f2, c2⟩ := g2
  have f2 := ft f1 f2
  rcases c2 with ⟨m2, c2⟩ | ⟨m2, c2⟩
  · rw [if_neg c2]
    exact h _ _ v2 f2 (Or.inr (Or.inl ⟨rfl, m1, m2⟩))
  rw [if_pos c2]
  refine wt_HH_r (wh_six2 n) (fun q hq => ?_)
  subst hq
  dsimp only
  refine wt_HH_r (wh_isW n wt_w2 (by decide) (by decide +kernel) (by decide +kernel) v2 (fz f2) r1 r2) (fun q3 g3 => ?_)
  obtain ⟨v3, f3, c3⟩ := g3
  have f3 := ft f2 f3
  rcases c3 with ⟨m3, c3⟩ | ⟨m3, c3⟩
  · rw [if_neg c3]
    exact h _ _ v3 f3 (Or.inr (Or.inr (Or.inl ⟨rfl, m1, m2, m3⟩)))
  rw [if_pos c3]
  refine wt_HH_r (wh_six3 n) (fun q hq => ?_)
  subst hq
  dsimp only
  refine wt_HH_r (wh_isW n wt_w3 (by decide) (by decide +kernel) (by decide +kernel) v3 (fz f3) r1 r2) (fun q4 g4 => ?_)
  obtain ⟨v4, f4, c4⟩ := g4
  have f4 := ft f3 f4
  rcases c4 with ⟨m4, c4⟩ | ⟨m4, c4⟩
  · rw [if_neg c4]
    exact h _ _ v4 f4 (Or.inr (Or.inr (Or.inr (Or.inl ⟨rfl, m1, m2, m3, m4⟩))))
  rw [if_pos c4]
  refine wt_HH_r (wh_six4 n) (fun q hq => ?_)
  subst hq
  dsimp only
  refine wt_HH_r (wh_isW n wt_w4 (by decide) (by decide +kernel) (by decide +kernel) v4 (fz f4) r1 r2) (fun q5 g5 => ?_)
  obtain ⟨v5, f5, c5⟩ := g5
  have f5 := ft f4 f5
  rcases c5 with ⟨m5, c5⟩ | ⟨m5, c5⟩
  · rw [if_neg c5]
    exact h _ _ v5 f5 (Or.inr (Or.inr (Or.inr (Or.inr (Or.inl ⟨rfl, m1, m2, m3, m4, m5⟩)))))
  rw [if_pos c5]
  refine wt_HH_r (wh_six5 n) (fun q hq => ?_)
  subst hq
  dsimp only
  refine wt_HH_r (wh_isW n wt_w5 (by decide) (by decide +kernel) (by decide +kernel) v5 (fz f5) r1 r2) (fun q6 g6 => ?_)
  obtain ⟨v6, f6, c6⟩ := g6
  have f6 := ft f5 f6
  rcases c6 with ⟨m6, c6⟩ | ⟨m6, c6⟩
  · rw [if_neg c6]
    exact h _ _ v6 f6 (Or.inr (Or.inr (Or.inr (Or.inr (Or.inr (Or.inl ⟨rfl, m1, m2, m3, m4, m5, m6⟩))))))
  rw [if_pos c6]
  exact h _ _ v6 f6 (Or.inr (Or.inr (Or.inr (Or.inr (Or.inr (Or.inr ⟨rfl, m1, m2, m3, m4, m5, m6⟩))))))
theorem wh_wordT (n : Nat) (hn : 4294967297 < n) {β : Nat → Int32} {e j j2 : Nat} {σ : wt_St} (bs : List Int32) (hb : bs.length < 100) (h : wt_tv β e j2 σ) (hj : j ≤ j2) (st : (wt_gf σ 1 5).toInt = (j : Int)) (hm : wt_is β j j2 bs) : wt_H (wp_tp_wordIs n bs σ) (fun q => q = ((1 : Int32), σ)) := (wh_wordIs n hn bs hb h hj st).imp (fun q hq => by
  rcases hq with ⟨-, a⟩ | ⟨a, -⟩
  · exact a
  · exact absurd hm a)
theorem wh_wordF (n : Nat) (hn : 4294967297 < n) {β : Nat → Int32} {e j j2 : Nat} {σ : wt_St} (bs : List Int32) (hb : bs.length < 100) (h : wt_tv β e j2 σ) (hj : j ≤ j2) (st : (wt_gf σ 1 5).toInt = (j : Int)) (hm : ¬ wt_is β j j2 bs) : wt_H (wp_tp_wordIs n bs σ) (fun q => q = ((0 : Int32), σ)) := (wh_wordIs n hn bs hb h hj st).imp (fun q hq => by
  rcases hq with ⟨a, -⟩ | ⟨-, a⟩
  · exact absurd a hm
  · exact a)
set_option maxHeartbeats 4000000 in
theorem wh_names (n : Nat) (hn : 4294967297 < n) {β : Nat → Int32} {e j j2 : Nat} {σ : wt_St} (h : wt_tv β e j2 σ) (hj : j ≤ j2) (st : (wt_gf σ 1 5).toInt = (j : Int)) (y : Int32) (hc : wt_kcl β j j2 y) : wt_H (wp_ld_namesClause n σ) (fun q => q.2 = σ ∧ (y = -1 → q.1 = 0) ∧ (y ≠ -1 → ¬ q.1 = 0)) := by
  have T := fun bs hb hm => wh_wordT n hn (σ := σ) (j := j) bs hb h hj st hm
  have F := fun bs hb hm => wh_wordF n hn (σ := σ) (j := j) bs hb h hj st hm
  have o1 : ¬ (1 : Int32) = 0 := by decide
  have Y : ∀ y' : Int32, y = y' → ¬ y' = -1 → wt_H (some ((1 : Int32), σ)) (fun q => q.2 = σ ∧ (y = -1 → q.1 = 0) ∧ (y ≠ -1 → ¬ q.1 = 0)) := fun y' h1 h2 => wt_H_some ⟨rfl, fun z => absurd (h1.symm.trans z) h2, fun _ => o1⟩
  unfold wp_ld_namesClause
  rcases hc with ⟨hy, m0⟩ | ⟨hy, m0, m1⟩ | ⟨hy, m0, m1, m2⟩ | ⟨hy, m0, m1, m2, m3⟩ | ⟨hy, m0, m1, m2, m3, m4⟩ | ⟨hy, m0, m1, m2, m3, m4, m5⟩ | ⟨hy, m0, m1, m2, m3, m4, m5⟩
  · refine wt_H_bh (T wt_w0 (by decide) m0) (fun q hq => ?_)
    subst hq
    rw [if_neg o1]
    exact Y _ hy (by decide)
  · refine wt_H_bh (F wt_w0 (by decide) m0) (fun q hq => ?_)
    subst hq
    rw [if_pos rfl]
    refine wt_H_bh (T wt_w1 (by decide) m1) (fun q hq => ?_)
    subst hq
    rw [if_neg o1]
    exact Y _ hy (by decide)
  · refine wt_H_bh (F wt_w0 (by decide) m0) (fun q hq => ?_)
    subst hq
    rw [if_pos rfl]
    refine wt_H_bh (F wt_w1 (by decide) m1) (fun q hq => ?_)
    subst hq
    rw [if_pos rfl]
    refine wt_H_bh (T wt_w2 (by decide) m2) (fun q hq => ?_)
    subst hq
    rw [if_neg o1]
    exact Y _ hy (by decide)
  · refine wt_H_bh (F wt_w0 (by decide) m0) (fun q hq => ?_)
    subst hq
    rw [if_pos rfl]
    refine wt_H_bh (F wt_w1 (by decide) m1) (fun q hq => ?_)
    subst hq
    rw [if_pos rfl]
    refine wt_H_bh (F wt_w2 (by decide) m2) (fun q hq => ?_)
    subst hq
    rw [if_pos rfl]
    refine wt_H_bh (T wt_w3 (by decide) m3) (fun q hq => ?_)
    subst hq
    rw [if_neg o1]
    exact Y _ hy (by decide)
  · refine wt_H_bh (F wt_w0 (by decide) m0) (fun q hq => ?_)
    subst hq
    rw [if_pos rfl]
    refine wt_H_bh (F wt_w1 (by decide) m1) (fun q hq => ?_)
    subst hq
    rw [if_pos rfl]
    refine wt_H_bh (F wt_w2 (by decide) m2) (fun q hq => ?_)
    subst hq
    rw [if_pos rfl]
    refine wt_H_bh (F wt_w3 (by decide) m3) (fun q hq => ?_)
    subst hq
    rw [if_pos rfl]
    refine wt_H_bh (T wt_w4 (by decide) m4) (fun q hq => ?_)
    subst hq
    rw [if_neg o1]
    exact Y _ hy (by decide)
  · refine wt_H_bh (F wt_w0 (by decide) m0) (fun q hq => ?_)
    subst hq
    rw [if_pos rfl]
    refine wt_H_bh (F wt_w1 (by decide) m1) (fun q hq => ?_)
    subst hq
    rw [if_pos rfl]
    refine wt_H_bh (F wt_w2 (by decide) m2) (fun q hq => ?_)
    subst hq
    rw [if_pos rfl]
    refine wt_H_bh (F wt_w3 (by decide) m3) (fun q hq => ?_)
    subst hq
    rw [if_pos rfl]
    refine wt_H_bh (F wt_w4 (by decide) m4) (fun q hq => ?_)
    subst hq
    rw [if_pos rfl]
    refine wt_H_bh (T wt_w5 (by decide) m5) (fun q hq => ?_)
    subst hq
    rw [if_neg o1]
    exact Y _ hy (by decide)
  · refine wt_H_bh (F wt_w0 (by decide) m0) (fun q hq => ?_)
    subst hq
    rw [if_pos rfl]
    refine wt_H_bh (F wt_w1 (by decide) m1) (fun q hq => ?_)
    subst hq
    rw [if_pos rfl]
    refine wt_H_bh (F wt_w2 (by decide) m2) (fun q hq => ?_)
    subst hq
    rw [if_pos rfl]
    refine wt_H_bh (F wt_w3 (by decide) m3) (fun q hq => ?_)
    subst hq
    rw [if_pos rfl]
    refine wt_H_bh (F wt_w4 (by decide) m4) (fun q hq => ?_)
    subst hq
    rw [if_pos rfl]
    refine wt_H_bh (F wt_w5 (by decide) m5) (fun q hq => ?_)
    subst hq
    rw [if_pos rfl]
    exact wt_H_some ⟨rfl, fun _ => rfl, fun z => absurd hy z⟩
/-! the six kinds, each up to its sign -/
noncomputable abbrev wt_fin (n : Nat) (q5 : Int32 × wt_St) : Option (Int32 × wt_St) := if q5.1 = 0 then some ((0 : Int32), q5.2) else wp_tp_needSign n (59 : Int32) q5.2
abbrev wt_CQ (c : Int32) (β : Nat → Int32) (e : Nat) (q : Int32 × wt_St) (y : wt_St) : Prop := (q.1 = 0 ∧ wt_ft q.2 y) ∨ (q.1 = 1 ∧ wt_ok (wt_lr c) β e q.2 y)
theorem wr_fin (n : Nat) (hn : 4294967297 < n) {c : Int32} {β : Nat → Int32} {e : Nat} {q : Int32 × wt_St} {y : wt_St} (h : wt_CQ c β e q y) : wt_HH (wt_fin n q) (wp_md_clause_B377 n y) (wt_CQ c β e) := by
  unfold wp_md_clause_B377
  rcases h with ⟨h1, h2⟩ | ⟨h1, h2⟩
  · unfold wt_fin
    rw [if_pos h1]
    refine wt_HH_r (wh_closesN n (wt_ft_nz h2)) (fun q3 h3 => ?_)
    subst h3
    exact wt_HH_some (Or.inl ⟨rfl, h2⟩)
  · unfold wt_fin
    rw [if_neg (by rw [h1]; decide)]
    exact fun a b ha hb => by
      cases hcl : wp_md_closes n (59 : Int32) y with
      | none => rw [hcl] at hb; cases hb
      | some w =>
        rw [hcl] at hb
        have hb' : some w = some b := hb
        cases hb'
        exact wr_need n hn wt_lr_lxc (by decide) h2 a b ha hcl
theorem wt_ok_ch {c c' : Int32} {β : Nat → Int32} {e : Nat} {s s' z z' : wt_St} (h : wt_ok (wt_lr c) β e s z) {F F' : Nat → Nat → Prop} {A A' : Nat → Prop} (f : wt_fr F A s s') (g : wt_fr F' A' z z') (h1 : ¬ A 2) (h2 : ¬ F 1 3) (h3 : ¬ F 1 4) (h4 : ¬ A' 109) (h5 : ¬ F' 108 2) (h6 : ¬ F' 108 4) (h7 : ¬ F' 108 5) (k : wt_lr c s z → wt_lr c' s' z') : wt_ok (wt_lr c') β e s' z' := by
  obtain ⟨j, a, b, d, r⟩ := h
  exact ⟨j, wt_tv_fr a f h1 h2 h3, wt_rv_fr b g h4 h5 h6, (g.1 108 5 h7).trans d, k r⟩
set_option maxHeartbeats 4000000 in
theorem wr_price {ρ ρ' : Type} {Q : ρ → ρ' → Prop} (n : Nat) (hn : 4294967297 < n) {c : Int32} {β : Nat → Int32} {e : Nat} {s z : wt_St} {g : Int32 × wt_St → Option ρ} {B : wt_St → Option ρ'} (h : wt_ok (wt_lr c) β e s z) (hk : ∀ q y, wt_CQ c β e q y → wt_HH (g q) (B y) Q) : wt_HH ((wp_ld_fillPrice n 12 s).bind g) ((wp_md_letterHere n z).bind fun q38 => (wp_md_number n (0 : Int32) (99 : Int32) q38.2).bind fun q39 => if (wt_gf q39.2 108 5) = 0 then if q38.1 < 0 ∨ 26 ≤ Int32.toNatClampNeg q38.1 then none else B (wt_sa q39.2 114 (Int32.toNatClampNeg q38.1) q39.1) else B q39.2) Q := by
  have k0 : (0 : Int32).toInt = 0 := by decide
  have k99 : (99 : Int32).toInt = 99 := by decide
  unfold wp_ld_fillPrice
  refine wt_HH_bb (wr_letter n hn wt_lr_lxc h) (fun q1 y1 p1 => ?_)
  rcases p1 with ⟨p1, p2, p3⟩ | ⟨l, l26, ql, yl, ok1⟩
  · rw [if_pos p1]
    refine wt_HH_r (wh_numberN n (wt_ft_nz p2)) (fun q3 h3 => ?_)
    subst h3
    dsimp only
    rw [if_neg (wt_ft_nz p2)]
    exact hk ((0 : Int32), q1.2) y1.2 (Or.inl ⟨rfl, p2⟩)
  · rw [if_neg (fun c => by have := wt_ceq c; rw [wt_lm1] at this; omega)]
    refine wt_HH_bb (wr_number n hn wt_lr_lxc ok1 (by omega) (by omega)) (fun q4 y4 p4 => ?_)
    rcases p4 with ⟨p4, p5⟩ | ⟨p4, p5, p6, ok4⟩
    · rw [if_pos p4, if_neg (wt_ft_nz p5)]
      exact hk ((0 : Int32), q4.2) y4.2 (Or.inl ⟨rfl, p5⟩)
    · rw [if_neg (fun c => by have := wt_ceq c; rw [wt_lm1] at this; omega), if_pos ok4.choose_spec.2.2.1, yl, p6, wt_tnN ql]
      refine wt_HH_gr (fun _ => ?_)
      refine wt_HH_lb (wh_put n (k := l) ql (by show l < 26; exact l26)) (fun q5 h5 => ?_)
      have f5 := wt_fr_sa h5
      obtain ⟨y5, ε5⟩ : ∃ o : wt_St, o = wt_sa y4.2 114 l q4.1 := ⟨_, rfl⟩
      rw [← ε5]
      have g5 := wt_fr_sa ε5
      refine hk ((1 : Int32), q5) y5 (Or.inr ⟨rfl, wt_ok_ch ok4 f5 g5 (by decide) (fun h => h) (fun h => h) (by decide) (fun h => h) (fun h => h) (fun h => h) (fun r => ?_)⟩)
      obtain ⟨c1, c2, c3, c4, c5, c6, c7⟩ := r
      refine ⟨wt_pr_fr c1 f5 g5 (by decide) (by decide) (by decide) (by decide), wt_pr_fr c2 f5 g5 (by decide) (by decide) (by decide) (by decide), fun i hi => ?_, fun i hi => ?_, fun i hi => ?_, ?_, (g5.1 108 7 (fun h => h)).trans c7.1, by rw [f5.1 1 7 (fun h => h), g5.1 108 6 (fun h => h)]; exact c7.2⟩
      · by_cases hc : i = l
        · rw [hc, wt_v_sa ε5]
          exact wt_v_sa h5
        · rw [wt_w_sa ε5 i hc]
          exact (wt_w_sa h5 i hc).trans (c3 i hi)
      · rw [f5.2 18 (by decide), g5.2 116 (by decide)]; exact c4 i hi
      · rw [f5.2 19 (by decide), g5.2 118 (by decide)]; exact c5 i hi
      · rw [f5.1 12 7 (fun h => h), g5.1 108 24 (fun h => h)]; exact c6
set_option maxHeartbeats 4000000 in
theorem wr_like {ρ ρ' : Type} {Q : ρ → ρ' → Prop} (n : Nat) (hn : 4294967297 < n) {c : Int32} {β : Nat → Int32} {e : Nat} {s z : wt_St} {g : Int32 × wt_St → Option ρ} {B : wt_St → Option ρ'} (h : wt_ok (wt_lr c) β e s z) (hk : ∀ q y, wt_CQ c β e q y → wt_HH (g q) (B y) Q) : wt_HH ((wp_ld_fillLike n 12 s).bind g) ((wp_md_letterHere n z).bind fun q33 => (wp_md_letterHere n q33.2).bind fun q34 => if (wt_gf q34.2 108 5) = 0 then if q33.1 < 0 ∨ 26 ≤ Int32.toNatClampNeg q33.1 then none else B (wt_sa q34.2 116 (Int32.toNatClampNeg q33.1) q34.1) else B q34.2) Q := by
  unfold wp_ld_fillLike
  refine wt_HH_bb (wr_letter n hn wt_lr_lxc h) (fun q1 y1 p1 => ?_)
  rcases p1 with ⟨p1, p2, p3⟩ | ⟨l, l26, ql, yl, ok1⟩
  · rw [if_pos p1]
    refine wt_HH_r (wh_letterHereN n (wt_ft_nz p2)) (fun q3 h3 => ?_)
    subst h3
    dsimp only
    rw [if_neg (wt_ft_nz p2)]
    exact hk ((0 : Int32), q1.2) y1.2 (Or.inl ⟨rfl, p2⟩)
  · rw [if_neg (fun c => by have := wt_ceq c; rw [wt_lm1] at this; omega)]
    refine wt_HH_bb (wr_letter n hn wt_lr_lxc ok1) (fun q4 y4 p4 => ?_)
    rcases p4 with ⟨p4, p5, -⟩ | ⟨l2, l226, p5, p6, ok4⟩
    · rw [if_pos p4, if_neg (wt_ft_nz p5)]
      exact hk ((0 : Int32), q4.2) y4.2 (Or.inl ⟨rfl, p5⟩)
    · rw [if_neg (fun c => by have := wt_ceq c; rw [wt_lm1] at this; omega), if_pos ok4.choose_spec.2.2.1, yl, p6, wt_tnN ql]
      refine wt_HH_gr (fun _ => ?_)
      refine wt_HH_lb (wh_put n (k := l) ql (by show l < 26; exact l26)) (fun q5 h5 => ?_)
      have f5 := wt_fr_sa h5
      obtain ⟨y5, ε5⟩ : ∃ o : wt_St, o = wt_sa y4.2 116 l q4.1 := ⟨_, rfl⟩
      rw [← ε5]
      have g5 := wt_fr_sa ε5
      refine hk ((1 : Int32), q5) y5 (Or.inr ⟨rfl, wt_ok_ch ok4 f5 g5 (by decide) (fun h => h) (fun h => h) (by decide) (fun h => h) (fun h => h) (fun h => h) (fun r => ?_)⟩)
      obtain ⟨c1, c2, c3, c4, c5, c6, c7⟩ := r
      refine ⟨wt_pr_fr c1 f5 g5 (by decide) (by decide) (by decide) (by decide), wt_pr_fr c2 f5 g5 (by decide) (by decide) (by decide) (by decide), fun i hi => ?_, fun i hi => ?_, fun i hi => ?_, ?_, (g5.1 108 7 (fun h => h)).trans c7.1, by rw [f5.1 1 7 (fun h => h), g5.1 108 6 (fun h => h)]; exact c7.2⟩
      · rw [f5.2 17 (by decide), g5.2 114 (by decide)]; exact c3 i hi
      · by_cases hc : i = l
        · rw [hc, wt_v_sa ε5]
          exact wt_v_sa h5
        · rw [wt_w_sa ε5 i hc]
          exact (wt_w_sa h5 i hc).trans (c4 i hi)
      · rw [f5.2 19 (by decide), g5.2 118 (by decide)]; exact c5 i hi
      · rw [f5.1 12 7 (fun h => h), g5.1 108 24 (fun h => h)]; exact c6
set_option maxHeartbeats 4000000 in
theorem wr_faint {ρ ρ' : Type} {Q : ρ → ρ' → Prop} (n : Nat) (hn : 4294967297 < n) {c : Int32} {β : Nat → Int32} {e : Nat} {s z : wt_St} {g : Int32 × wt_St → Option ρ} {B : wt_St → Option ρ'} (h : wt_ok (wt_lr c) β e s z) (hk : ∀ q y, wt_CQ c β e q y → wt_HH (g q) (B y) Q) : wt_HH ((wp_ld_fillFaint n 12 s).bind g) ((wp_md_number n (0 : Int32) (99 : Int32) z).bind fun q37 => B (wt_sf q37.2 108 24 q37.1)) Q := by
  have k0 : (0 : Int32).toInt = 0 := by decide
  have k99 : (99 : Int32).toInt = 99 := by decide
  unfold wp_ld_fillFaint
  refine wt_HH_bb (wr_number n hn wt_lr_lxc h (by omega) (by omega)) (fun q4 y4 p4 => ?_)
  obtain ⟨y5, ε5⟩ : ∃ o : wt_St, o = wt_sf y4.2 108 24 y4.1 := ⟨_, rfl⟩
  rw [← ε5]
  have g5 := wt_fr_sf ε5
  rcases p4 with ⟨p4, f, p, p5, p6, p7⟩ | ⟨p4, p5, p6, ok4⟩
  · rw [if_pos p4]
    exact hk ((0 : Int32), q4.2) y5 (Or.inl ⟨rfl, f, p, p5, p6, by rw [g5.1 108 5 (by (try dsimp only); omega)]; exact p7.1, by rw [g5.1 108 6 (by (try dsimp only); omega)]; exact p7.2⟩)
  · rw [if_neg (fun c => by have := wt_ceq c; rw [wt_lm1] at this; omega)]
    obtain ⟨s5, ε⟩ : ∃ o : wt_St, o = wt_sf q4.2 12 7 q4.1 := ⟨_, rfl⟩
    rw [← ε]
    have f5 := wt_fr_sf ε
    refine hk ((1 : Int32), s5) y5 (Or.inr ⟨rfl, wt_ok_ch ok4 f5 g5 (fun h => h) (by (try dsimp only); omega) (by (try dsimp only); omega) (fun h => h) (by (try dsimp only); omega) (by (try dsimp only); omega) (by (try dsimp only); omega) (fun r => ?_)⟩)
    obtain ⟨c1, c2, c3, c4, c5, c6, c7⟩ := r
    refine ⟨wt_pr_fr c1 f5 g5 (fun h => h) (fun h => h) (fun h => h) (fun h => h), wt_pr_fr c2 f5 g5 (fun h => h) (fun h => h) (fun h => h) (fun h => h), fun i hi => ?_, fun i hi => ?_, fun i hi => ?_, ?_, (g5.1 108 7 (by (try dsimp only); omega)).trans c7.1, by rw [f5.1 1 7 (by (try dsimp only); omega), g5.1 108 6 (by (try dsimp only); omega)]; exact c7.2⟩
    · rw [f5.2 17 (fun h => h), g5.2 114 (fun h => h)]; exact c3 i hi
    · rw [f5.2 18 (fun h => h), g5.2 116 (fun h => h)]; exact c4 i hi
    · rw [f5.2 19 (fun h => h), g5.2 118 (fun h => h)]; exact c5 i hi
    · rw [wt_v_sf ε, wt_v_sf ε5, p6]
set_option maxHeartbeats 4000000 in
theorem wr_follow {ρ ρ' : Type} {Q : ρ → ρ' → Prop} (n : Nat) (hn : 4294967297 < n) {c : Int32} {β : Nat → Int32} {e : Nat} {s z : wt_St} {g : Int32 × wt_St → Option ρ} {B : wt_St → Option ρ'} (h : wt_ok (wt_lr c) β e s z) (hk : ∀ q y, wt_CQ c β e q y → wt_HH (g q) (B y) Q) : wt_HH ((wp_ld_fillFollow n 12 s).bind g) ((wp_md_number n (0 : Int32) (3 : Int32) z).bind fun q27 => (wp_md_number n (0 : Int32) (3 : Int32) q27.2).bind fun q28 => if (wt_gf q28.2 108 5) = 0 then if q27.1 < 0 ∨ 4 ≤ Int32.toNatClampNeg q27.1 then none else if q27.1 < 0 ∨ 4 ≤ Int32.toNatClampNeg q27.1 then none else B (wt_sa q28.2 118 (Int32.toNatClampNeg q27.1) ((wt_ga q28.2 118 (Int32.toNatClampNeg q27.1)) ||| ((1 : Int32) <<< (q28.1 &&& 31)))) else B q28.2) Q := by
  have k0 : (0 : Int32).toInt = 0 := by decide
  have k3 : (3 : Int32).toInt = 3 := by decide
  unfold wp_ld_fillFollow
  refine wt_HH_bb (wr_number n hn wt_lr_lxc h (by omega) (by omega)) (fun q1 y1 p1 => ?_)
  rcases p1 with ⟨p1, p2⟩ | ⟨p1, p2, p3, ok1⟩
  · rw [if_pos p1]
    refine wt_HH_r (wh_numberN n (wt_ft_nz p2)) (fun q3 h3 => ?_)
    subst h3
    dsimp only
    rw [if_neg (wt_ft_nz p2)]
    exact hk ((0 : Int32), q1.2) y1.2 (Or.inl ⟨rfl, p2⟩)
  · rw [if_neg (fun c => by have := wt_ceq c; rw [wt_lm1] at this; omega)]
    refine wt_HH_bb (wr_number n hn wt_lr_lxc ok1 (by omega) (by omega)) (fun q4 y4 p4 => ?_)
    rcases p4 with ⟨p4, p5⟩ | ⟨p4, p5, p6, ok4⟩
    · rw [if_pos p4, if_neg (wt_ft_nz p5)]
      exact hk ((0 : Int32), q4.2) y4.2 (Or.inl ⟨rfl, p5⟩)
    · have hl := wt_tnI (x := q1.1) (by omega)
      rw [if_neg (fun c => by have := wt_ceq c; rw [wt_lm1] at this; omega), if_pos ok4.choose_spec.2.2.1, p3, p6]
      refine wt_HH_gr (fun _ => ?_)
      refine wt_HH_gr (fun _ => ?_)
      refine wt_HH_lb (wh_look n hn (k := Int32.toNatClampNeg q1.1) (by omega) (by show Int32.toNatClampNeg q1.1 < 4; omega)) (fun q5 h5 => ?_)
      subst h5
      dsimp only
      refine wt_HH_lb (wh_put n (k := Int32.toNatClampNeg q1.1) (by omega) (by show Int32.toNatClampNeg q1.1 < 4; omega)) (fun q5 h5 => ?_)
      have f5 := wt_fr_sa h5
      obtain ⟨y5, ε5⟩ : ∃ o : wt_St, o = wt_sa y4.2 118 (Int32.toNatClampNeg q1.1) ((wt_ga y4.2 118 (Int32.toNatClampNeg q1.1)) ||| ((1 : Int32) <<< (q4.1 &&& 31))) := ⟨_, rfl⟩
      rw [← ε5]
      have g5 := wt_fr_sa ε5
      refine hk ((1 : Int32), q5) y5 (Or.inr ⟨rfl, wt_ok_ch ok4 f5 g5 (by decide) (fun h => h) (fun h => h) (by decide) (fun h => h) (fun h => h) (fun h => h) (fun r => ?_)⟩)
      obtain ⟨c1, c2, c3, c4, c5, c6, c7⟩ := r
      refine ⟨wt_pr_fr c1 f5 g5 (by decide) (by decide) (by decide) (by decide), wt_pr_fr c2 f5 g5 (by decide) (by decide) (by decide) (by decide), fun i hi => ?_, fun i hi => ?_, fun i hi => ?_, ?_, (g5.1 108 7 (fun h => h)).trans c7.1, by rw [f5.1 1 7 (fun h => h), g5.1 108 6 (fun h => h)]; exact c7.2⟩
      · rw [f5.2 17 (by decide), g5.2 114 (by decide)]; exact c3 i hi
      · rw [f5.2 18 (by decide), g5.2 116 (by decide)]; exact c4 i hi
      · by_cases hc : i = Int32.toNatClampNeg q1.1
        · rw [hc, wt_v_sa ε5, ← c5 _ (by omega)]
          exact wt_v_sa h5
        · rw [wt_w_sa ε5 i hc]
          exact (wt_w_sa h5 i hc).trans (c5 i hi)
      · rw [f5.1 12 7 (fun h => h), g5.1 108 24 (fun h => h)]; exact c6
