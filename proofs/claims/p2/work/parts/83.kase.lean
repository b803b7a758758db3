/-! partial correctness, beside the total one: what holds of a program's end, if it ends -/
def wt_H {α : Type} (p : Option α) (Q : α → Prop) : Prop := ∀ a, p = some a → Q a
theorem wt_H_some {α : Type} {a : α} {Q : α → Prop} (h : Q a) : wt_H (some a) Q := fun b e => by cases e; exact h
theorem wt_H_none {α : Type} {Q : α → Prop} : wt_H (none : Option α) Q := fun b e => by cases e
theorem wt_H_if {α : Type} {c : Prop} [Decidable c] {A B : Option α} {Q : α → Prop} (h1 : c → wt_H A Q) (h2 : ¬ c → wt_H B Q) : wt_H (if c then A else B) Q := by
  by_cases hc : c
  · rw [if_pos hc]; exact h1 hc
  · rw [if_neg hc]; exact h2 hc
theorem wt_H_gd {α : Type} {c : Prop} [Decidable c] {A : Option α} {Q : α → Prop} (h : ¬ c → wt_H A Q) : wt_H (if c then none else A) Q := wt_H_if (fun _ => wt_H_none) h
theorem wt_H_bi {α β : Type} {x : Option α} {f : α → Option β} {P : α → Prop} {Q : β → Prop} (h : wt_T x P) (k : ∀ a, P a → wt_H (f a) Q) : wt_H (x.bind f) Q := by
  obtain ⟨a, rfl, hp⟩ := h
  exact k a hp
theorem wt_H_it {α ρ : Type} {body : (α → Option ρ) → α → Option ρ} {Q : ρ → Prop} (I : α → Prop) (h : ∀ (K : α → Option ρ) (s : α), I s → (∀ s', I s' → wt_H (K s') Q) → wt_H (body K s) Q) : ∀ (n : Nat) (s : α), I s → wt_H (wt_it body n s) Q := by
  intro n
  induction n with
  | zero => intro s _; exact wt_H_none
  | succ n ih => intro s hs; exact h _ s hs ih
theorem wt_T.and {α : Type} {x : Option α} {P Q : α → Prop} (h : wt_T x P) (k : wt_H x Q) : wt_T x (fun a => P a ∧ Q a) := by
  obtain ⟨a, e, hp⟩ := h
  exact ⟨a, e, hp, k a e⟩
theorem wt_ixn {x : Int32} {N : Nat} (h : ¬ (x < 0 ∨ N ≤ Int32.toNatClampNeg x)) : 0 ≤ x.toInt ∧ x.toInt < (N : Int) := by
  have k0 : (0 : Int32).toInt = 0 := by decide
  have h1 : ¬ x < 0 := fun z => h (Or.inl z)
  have h2 : ¬ N ≤ Int32.toNatClampNeg x := fun z => h (Or.inr z)
  have h3 := wt_ncl h1
  have h4 := wt_tnI (x := x) (by omega)
  omega
/-! a case is read -/
def wt_kS (σ s : wt_St) : Prop := wt_RI s ∧ wt_M12 s ∧ wt_gf s 108 41 = wt_gf σ 108 41 ∧ ∀ j, wt_ga s 275 j = wt_ga σ 275 j
theorem wt_kS_fr {σ s s' : wt_St} {F : Nat → Nat → Prop} {A : Nat → Prop} (h : wt_kS σ s) (r : wt_RI s') (f : wt_fr F A s s') (m : ¬ A 111) (h1 : ¬ F 108 41) (h2 : ¬ A 275) : wt_kS σ s' := ⟨r, wt_M_fr h.2.1 f m, (f.1 108 41 h1).trans h.2.2.1, fun j => (f.2 275 h2 j).trans (h.2.2.2 j)⟩
def wt_kE (σ s : wt_St) : Prop := (wt_gf s 108 41).toInt ≤ (wt_gf σ 108 41).toInt ∧ ∀ j, wt_ga s 275 j = wt_ga σ 275 j ∨ (wt_ga s 275 j).toInt = -1
theorem wt_kS_E {σ s : wt_St} (h : wt_kS σ s) : wt_kE σ s := ⟨by rw [h.2.2.1]; exact Int.le_refl _, fun j => Or.inl (h.2.2.2 j)⟩
set_option maxRecDepth 100000 in
set_option maxHeartbeats 4000000 in
theorem wq_md_kaseH (n : Nat) (hn : 4294967297 < n) (x1 : Int32) (σ : wt_St) (r0 : wt_RI σ) (m0 : wt_M12 σ) : wt_H (wp_md_kase n x1 σ) (fun q => wt_kE σ q.2) := by
  have k0 : (0 : Int32).toInt = 0 := by decide
  have k1 : (1 : Int32).toInt = 1 := by decide
  have g41 : 0 ≤ (wt_gf σ 108 41).toInt ∧ (wt_gf σ 108 41).toInt ≤ 3 := wt_R_gf r0 9 rfl
  have B70 : ∀ z, wt_kS σ z → wt_H (wp_md_kase_B70 n z) (fun q => wt_kE σ q.2) := by
    intro z Sz
    unfold wp_md_kase_B70
    obtain ⟨s1, ε1⟩ : ∃ o : wt_St, o = wt_sf z 108 3 (wt_gf z 108 6) := ⟨_, rfl⟩
    rw [← ε1]
    have f1 := wt_fr_sf ε1
    have S1 : wt_kS σ s1 := wt_kS_fr Sz (wt_RI_fno Sz.1 ε1 (Or.inr (by decide))) f1 (fun h => h) (by (try dsimp only); omega) (fun h => h)
    refine wt_H_if (fun h => ?_) (fun h => wt_H_some (wt_kS_E S1))
    refine wt_H_bi (wq_md_takesCase n hn s1 S1.1 S1.2.1) (fun t ht => ?_)
    obtain ⟨ft, rt, mt⟩ := ht
    have e275 : ∀ j, wt_ga t 275 j = wt_ga σ 275 j := fun j => (ft.2 275 (by (try dsimp only); omega) j).trans (S1.2.2.2 j)
    refine wt_H_it (fun s : Int32 × wt_St => wt_RI s.2 ∧ ∀ j, wt_ga s.2 275 j = wt_ga σ 275 j ∨ (wt_ga s.2 275 j).toInt = -1) (fun K s I hK => ?_) n _ ⟨rt, fun j => Or.inl (e275 j)⟩
    obtain ⟨rs, hs⟩ := I
    unfold wp_md_kase_B99
    refine wt_H_if (fun h4 => ?_) (fun h4 => ?_)
    · obtain ⟨s2, ε2⟩ : ∃ o : wt_St, o = wt_sf s.2 108 41 (0 : Int32) := ⟨_, rfl⟩
      rw [← ε2]
      have f2 := wt_fr_sf ε2
      refine wt_H_bi (wq_md_allPieces n hn s2 (wt_RI_fin rs ε2 9 rfl rfl (show 0 ≤ ((0 : Int32)).toInt by omega) (show ((0 : Int32)).toInt ≤ 3 by omega))) (fun a ha => ?_)
      refine wt_H_some ?_
      show wt_kE σ a.2
      rw [ha]
      refine ⟨?_, fun j => ?_⟩
      · rw [wt_v_sf ε2, k0]; exact g41.1
      · rw [f2.2 275 (fun h => h)]; exact hs j
    · refine wt_H_gd (fun g => ?_)
      obtain ⟨s2, ε2⟩ : ∃ o : wt_St, o = wt_sa s.2 275 (Int32.toNatClampNeg s.1) (-1 : Int32) := ⟨_, rfl⟩
      rw [← ε2]
      refine hK _ ⟨wt_RI_in rs ε2 12 rfl (by decide) (by decide) (show -1 ≤ ((-1 : Int32)).toInt by rw [wt_lm1]; exact Int.le_refl _) (show ((-1 : Int32)).toInt ≤ 7 by rw [wt_lm1]; decide), fun j => ?_⟩
      show wt_ga s2 275 j = wt_ga σ 275 j ∨ (wt_ga s2 275 j).toInt = -1
      by_cases hj : j = Int32.toNatClampNeg s.1
      · right; rw [hj]; exact (wt_ceq (wt_v_sa ε2)).trans wt_lm1
      · rw [wt_w_sa ε2 j hj]; exact hs j
  unfold wp_md_kase
  obtain ⟨s0, ε0⟩ : ∃ o : wt_St, o = wt_sf σ 108 0 (0 : Int32) := ⟨_, rfl⟩
  rw [← ε0]
  have f0 := wt_fr_sf ε0
  have S0 : wt_kS σ s0 := ⟨wt_RI_fno r0 ε0 (Or.inr (by decide)), wt_M_sf m0 ε0, f0.1 108 41 (by (try dsimp only); omega), f0.2 275 (fun h => h)⟩
  have B : ∀ y1 : Int32, y1.toInt ≠ 0 ∨ (0 ≤ x1.toInt ∧ x1.toInt ≤ 500) → wt_H (wp_md_kase_B23 n x1 y1 s0) (fun q => wt_kE σ q.2) := by
    intro y1 hy
    unfold wp_md_kase_B23
    refine wt_H_bi (wq_md_bad n hn y1 (1 : Int32) s0 S0.1 (by omega)) (fun b hb => ?_)
    obtain ⟨fb, rb, vb⟩ := hb
    have SB : wt_kS σ b.2 := wt_kS_fr S0 rb fb (fun h => h) (by (try dsimp only); omega) (fun h => h)
    refine wt_H_if (fun h => ?_) (fun h => wt_H_some (wt_kS_E SB))
    have c := wt_ceq h
    refine wt_H_bi (wq_md_starts n hn x1 b.2 rb (by omega) (by omega)) (fun q5 h5 => ?_)
    obtain ⟨f5, r5, -⟩ := h5
    have S5 : wt_kS σ q5 := wt_kS_fr SB r5 f5 (fun h => h) (by (try dsimp only); omega) (fun h => h)
    refine wt_H_bi (wq_md_clearsCase n hn q5 r5) (fun q6 h6 => ?_)
    obtain ⟨f6, r6⟩ := h6
    have S6 : wt_kS σ q6 := wt_kS_fr S5 r6 f6 (by (try dsimp only); omega) (by (try dsimp only); omega) (by (try dsimp only); omega)
    refine wt_H_it (fun s : wt_St => wt_kS σ s) (fun K z Sz hK => ?_) n q6 S6
    unfold wp_md_kase_B41
    refine wt_H_if (fun h1 => ?_) (fun h1 => B70 z Sz)
    refine wt_H_if (fun h2 => B70 z Sz) (fun h2 => ?_)
    refine wt_H_bi (wq_md_clause n hn z Sz.1) (fun q7 h7 => ?_)
    obtain ⟨f7, r7, -⟩ := h7
    have S7 : wt_kS σ q7 := wt_kS_fr Sz r7 f7 (by (try dsimp only); omega) (by (try dsimp only); omega) (by (try dsimp only); omega)
    refine wt_H_bi (wq_md_blanks n hn q7 r7) (fun q8 h8 => ?_)
    obtain ⟨f8, r8, -⟩ := h8
    exact hK _ (wt_kS_fr S7 r8 f8 (fun h => h) (by (try dsimp only); omega) (fun h => h))
  refine wt_H_bi (wq_md_in n hn x1 (0 : Int32) (wt_gf s0 108 1) s0 S0.1) (fun q1 h1 => ?_)
  obtain ⟨e1, p1⟩ := h1
  rw [e1]
  refine wt_H_if (fun h => B _ (Or.inl (by omega))) (fun h => ?_)
  have c := wt_nceq h
  have g1 : 0 ≤ (wt_gf s0 108 1).toInt ∧ (wt_gf s0 108 1).toInt ≤ 500 := wt_R_gf S0.1 0 rfl
  exact B _ (Or.inr (by omega))
set_option maxHeartbeats 4000000 in
theorem wq_P_kase (n : Nat) (hn : 4294967297 < n) : wt_P_kase n wt_Inv := by
  intro σ x1 hI
  obtain ⟨q, hq, fq, cq, t1, t2⟩ := wq_ap_kase n hn x1 σ
  have v : wt_IV q.2.2 := wt_IV_cls hI.1 fq (fun k => (by (try dsimp only); first | omega | exact fun h => h)) (fun i hi => (by (try dsimp only); first | omega | exact fun h => h))
  have e1 : wt_gf q.2.2 108 1 = wt_gf σ 108 1 := fq.1 108 1 (by (try dsimp only); omega)
  obtain ⟨r, hr, ⟨fr, rr, mr, u1, u2⟩, x41, x275⟩ := (wq_md_kase n hn x1 q.2.2 v.1 v.2.1).and (wq_md_kaseH n hn x1 q.2.2 v.1 v.2.1)
  have e2 : wt_gf r.2 1 2 = wt_gf q.2.2 1 2 := fr.1 1 2 (by (try dsimp only); omega)
  have hI2 := hI.2
  refine ⟨q, hq, cq, r, hr, wt_IV_5 v rr mr fr (by (try dsimp only); omega) x41 x275 (fun i hi h => by unfold wt_TA at hi; (try dsimp only at h); omega), ?_⟩
  rw [e2]
  rw [e1] at u1 u2
  by_cases hx : 0 ≤ x1.toInt ∧ x1.toInt ≤ (wt_gf σ 1 2).toInt
  · rw [t2 hx, u2 (by omega)]
  · rw [t1 (by omega), u1 (by omega)]; exact hI2
