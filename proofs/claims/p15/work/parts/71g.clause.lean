theorem wt_HH_lb {α α' α'' β : Type} {x : Option α} {f : α → Option α'} {g : α' → Option α''} {p' : Option β} {P : α → Prop} {Q : α'' → β → Prop} (h : wt_H x P) (k : ∀ a, P a → wt_HH ((f a).bind g) p' Q) : wt_HH ((x.bind f).bind g) p' Q := by
  cases x with
  | none => exact wt_HH_nl
  | some a => exact k a (h a rfl)
theorem wt_HH_bb {α α' α'' β β' : Type} {x : Option α} {f : α → Option α'} {g : α' → Option α''} {y : Option β} {f' : β → Option β'} {P : α → β → Prop} {Q : α'' → β' → Prop} (h : wt_HH x y P) (k : ∀ a b, P a b → wt_HH ((f a).bind g) (f' b) Q) : wt_HH ((x.bind f).bind g) (y.bind f') Q := by
  cases x with
  | none => exact wt_HH_nl
  | some a =>
    cases y with
    | none => exact wt_HH_nr
    | some b => exact k a b (h a b rfl rfl)
theorem wt_HH_ilb {α α' β : Type} {c : Prop} [Decidable c] {A B : Option α} {g : α → Option α'} {p' : Option β} {Q : α' → β → Prop} (h1 : c → wt_HH (A.bind g) p' Q) (h2 : ¬ c → wt_HH (B.bind g) p' Q) : wt_HH ((if c then A else B).bind g) p' Q := by
  by_cases hc : c
  · rw [if_pos hc]; exact h1 hc
  · rw [if_neg hc]; exact h2 hc
/-! both sides read on, and what they have read stands alike -/
def wt_ft (s z : wt_St) : Prop := ∃ f p : Nat, 0 < f ∧ wt_flt s f p ∧ wt_frt z f p
def wt_ok (R : wt_St → wt_St → Prop) (β : Nat → Int32) (e : Nat) (s z : wt_St) : Prop := ∃ k, wt_tv β e k s ∧ wt_rv β e k z ∧ wt_gf z 108 5 = 0 ∧ R s z
/-- what reading alone doesn't touch -/
def wt_lxc (R : wt_St → wt_St → Prop) : Prop := ∀ s s' z z', R s z → wt_fr (fun i k => i = 1 ∧ (k = 4 ∨ k = 5)) (fun i => i = 3) s s' → wt_fr (fun i k => i = 108 ∧ k = 4) (fun _ => False) z z' → R s' z'
theorem wt_frw {F F2 : Nat → Nat → Prop} {A A2 : Nat → Prop} {σ σ1 : wt_St} (h : wt_fr F2 A2 σ σ1) (hF : ∀ i k, F2 i k → F i k) (hA : ∀ i, A2 i → A i) : wt_fr F A σ σ1 := wt_fr.tr wt_fr.rf h hF hA
set_option maxHeartbeats 4000000 in
theorem wr_letter (n : Nat) (hn : 4294967297 < n) {R : wt_St → wt_St → Prop} (hR : wt_lxc R) {β : Nat → Int32} {e : Nat} {s z : wt_St} (h : wt_ok R β e s z) : wt_HH (wp_tp_takeLetter n s) (wp_md_letterHere n z) (fun q y => (q.1 = -1 ∧ wt_ft q.2 y.2 ∧ y.1 = 0) ∨ (∃ l : Nat, l < 26 ∧ q.1.toInt = (l : Int) ∧ y.1 = q.1 ∧ wt_ok R β e q.2 y.2)) := by
  obtain ⟨k, tv, rv, h0, r⟩ := h
  refine wt_HH_of (wh_takeLetter n hn tv) (wh_letterHere n rv h0) (fun q y hq hy => ?_)
  obtain ⟨j, j2, r1, r2, tv', hc⟩ := hq
  obtain ⟨j', j2', r1', r2', hc'⟩ := hy
  have e1 : j' = j := wt_run_u r1' r1
  rw [e1] at r2' hc'
  have e2 : j2' = j2 := wt_run_u r2' r2
  rw [e2] at hc'
  have hj := r2.1
  rcases hc with ⟨a1, a2, a3⟩ | ⟨a1, a2, a3⟩ | ⟨a1, a2, a3⟩
  · rcases hc' with ⟨b1, b2, b3⟩ | ⟨b1, b2, b3⟩ | ⟨b1, b2, b3, b4⟩
    · exact Or.inl ⟨a2, ⟨1, j, by omega, a3, b2⟩, b3⟩
    · omega
    · omega
  · rcases hc' with ⟨b1, b2, b3⟩ | ⟨b1, b2, b3⟩ | ⟨b1, b2, b3, b4⟩
    · omega
    · exact Or.inl ⟨a2, ⟨2, j, by omega, a3, b2⟩, b3⟩
    · omega
  · rcases hc' with ⟨b1, b2, b3⟩ | ⟨b1, b2, b3⟩ | ⟨b1, b2, b3, b4⟩
    · omega
    · omega
    · have hb := wt_sm_b r2 (Nat.le_refl j) (by omega)
      exact Or.inr ⟨((β j).toInt - 97).toNat, by omega, by omega, wt_eqI (by omega), j2, tv', b2, (b4.1 108 5 (by (try dsimp only); omega)).trans h0, hR _ _ _ _ r a3 b4⟩
set_option maxHeartbeats 4000000 in
theorem wr_number (n : Nat) (hn : 4294967297 < n) {R : wt_St → wt_St → Prop} (hR : wt_lxc R) {β : Nat → Int32} {e : Nat} {s z : wt_St} {x1 x2 : Int32} (h : wt_ok R β e s z) (hlo : 0 ≤ x1.toInt) (hhi : x2.toInt ≤ 1000) : wt_HH (wp_tp_takeNumber n x1 x2 s) (wp_md_number n x1 x2 z) (fun q y => (q.1 = -1 ∧ wt_ft q.2 y.2) ∨ (x1.toInt ≤ q.1.toInt ∧ q.1.toInt ≤ x2.toInt ∧ y.1 = q.1 ∧ wt_ok R β e q.2 y.2)) := by
  obtain ⟨k, tv, rv, h0, r⟩ := h
  refine wt_HH_of (wh_takeNumber n hn tv hlo hhi) (wh_number n rv h0 hlo hhi) (fun q y hq hy => ?_)
  obtain ⟨j, j2, r1, r2, tv', hc⟩ := hq
  obtain ⟨j', j2', r1', r2', rv', hc'⟩ := hy
  have e1 : j' = j := wt_run_u r1' r1
  rw [e1] at r2' hc'
  have e2 : j2' = j2 := wt_run_u r2' r2
  rw [e2] at hc' rv'
  have hj := r2.1
  rcases hc with ⟨a1, a2, a3, a4⟩ | ⟨a1, a2, a3, a4, a5⟩ | ⟨a1, a2, a3, a4, a5⟩
  · rcases hc' with ⟨b1, b2, b3⟩ | ⟨b1, b2, b3, b4⟩ | ⟨b1, b2, b3, b4, b5⟩
    · exact Or.inl ⟨a2, 1, j, by omega, a3, b2⟩
    · omega
    · omega
  · rcases hc' with ⟨b1, b2, b3⟩ | ⟨b1, b2, b3, b4⟩ | ⟨b1, b2, b3, b4, b5⟩
    · omega
    · exact Or.inl ⟨a3, 2, j, by omega, a4, b3⟩
    · omega
  · rcases hc' with ⟨b1, b2, b3⟩ | ⟨b1, b2, b3, b4⟩ | ⟨b1, b2, b3, b4, b5⟩
    · omega
    · omega
    · exact Or.inr ⟨by omega, by omega, wt_eqI (by omega), j2, tv', rv', (b5.1 108 5 (by (try dsimp only); omega)).trans h0, hR _ _ _ _ r (wt_frw a5 (fun i k h => h) (fun i h => h.elim)) b5⟩
set_option maxHeartbeats 4000000 in
theorem wr_need (n : Nat) (hn : 4294967297 < n) {R : wt_St → wt_St → Prop} (hR : wt_lxc R) {β : Nat → Int32} {e : Nat} {s z : wt_St} {x : Int32} (hx : 0 ≤ x.toInt) (h : wt_ok R β e s z) : wt_HH (wp_tp_needSign n x s) (wp_md_closes n x z) (fun q y => (q.1 = 0 ∧ wt_ft q.2 y) ∨ (q.1 = 1 ∧ wt_ok R β e q.2 y)) := by
  obtain ⟨k, tv, rv, h0, r⟩ := h
  refine wt_HH_of (wh_needSign n hn x tv) (wh_closes n rv h0 hx) (fun q y hq hy => ?_)
  obtain ⟨j, r1, hc⟩ := hq
  obtain ⟨j', r1', hc'⟩ := hy
  have e1 : j' = j := wt_run_u r1' r1
  rw [e1] at hc'
  rcases hc with ⟨a1, a2, a3, a4, a5⟩ | ⟨a1, a2, a3⟩
  · rcases hc' with ⟨b1, b2, b3, b4⟩ | ⟨b1, b2⟩
    · exact Or.inr ⟨a1, j + 1, a4, b3, (b4.1 108 5 (by (try dsimp only); omega)).trans h0, hR _ _ _ _ r (wt_frw a5 (fun i k h => h) (fun i h => h.elim)) b4⟩
    · exact absurd ⟨a2, a3⟩ b1
  · rcases hc' with ⟨b1, b2, b3, b4⟩ | ⟨b1, b2⟩
    · exact absurd ⟨b1, b2⟩ a2
    · exact Or.inl ⟨a1, 1, j, by omega, a3, b2⟩
/-! the tables of a case that is read -/
def wt_pr (s z : wt_St) (pc pp rm rl : Nat) : Prop := ∀ l : Nat, l < 26 → wt_ga s pc l = wt_ga z rm l ∧ 0 ≤ (wt_ga s pc l).toInt ∧ (wt_ga s pc l).toInt ≤ 12 ∧ ∀ i : Nat, (i : Int) < (wt_ga s pc l).toInt → wt_ga s pp (12 * l + i) = wt_ga z rl (13 * l + i)
def wt_lr (c : Int32) (s z : wt_St) : Prop := wt_pr s z 13 14 110 120 ∧ wt_pr s z 15 16 112 122 ∧ (∀ l, l < 26 → wt_ga s 17 l = wt_ga z 114 l) ∧ (∀ l, l < 26 → wt_ga s 18 l = wt_ga z 116 l) ∧ (∀ m, m < 4 → wt_ga s 19 m = wt_ga z 118 m) ∧ wt_gf s 12 7 = wt_gf z 108 24 ∧ wt_gf z 108 7 = c ∧ wt_gf s 1 7 = wt_gf z 108 6
theorem wt_pr_fr {s s' z z' : wt_St} {F F' : Nat → Nat → Prop} {A A' : Nat → Prop} {pc pp rm rl : Nat} (h : wt_pr s z pc pp rm rl) (f : wt_fr F A s s') (g : wt_fr F' A' z z') (h1 : ¬ A pc) (h2 : ¬ A pp) (h3 : ¬ A' rm) (h4 : ¬ A' rl) : wt_pr s' z' pc pp rm rl := fun l hl => by
  rw [f.2 pc h1, g.2 rm h3]
  obtain ⟨a, b, c, d⟩ := h l hl
  exact ⟨a, b, c, fun i hi => by rw [f.2 pp h2, g.2 rl h4]; exact d i hi⟩
theorem wt_lr_lxc {c : Int32} : wt_lxc (wt_lr c) := fun s s' z z' h f g => by
  obtain ⟨a1, a2, a3, a4, a5, a6, a7⟩ := h
  refine ⟨wt_pr_fr a1 f g (by decide) (by decide) (fun h => h) (fun h => h), wt_pr_fr a2 f g (by decide) (by decide) (fun h => h) (fun h => h), fun l hl => ?_, fun l hl => ?_, fun l hl => ?_, ?_, (g.1 108 7 (by (try dsimp only); omega)).trans a7.1, by rw [f.1 1 7 (by (try dsimp only); omega), g.1 108 6 (by (try dsimp only); omega)]; exact a7.2⟩
  · rw [f.2 17 (by decide), g.2 114 (fun h => h)]; exact a3 l hl
  · rw [f.2 18 (by decide), g.2 116 (fun h => h)]; exact a4 l hl
  · rw [f.2 19 (by decide), g.2 118 (fun h => h)]; exact a5 l hl
  · rw [f.1 12 7 (by (try dsimp only); omega), g.1 108 24 (by (try dsimp only); omega)]; exact a6
theorem wt_lr_lxc2 {c : Int32} {a l : Nat} (v : Int32) (ha : a ≠ 3) : wt_lxc (fun s z => wt_lr c s z ∧ wt_ga s a l = v) := fun s s' z z' h f g => ⟨wt_lr_lxc s s' z z' h.1 f g, (f.2 a ha l).trans h.2⟩
theorem wt_ok_imp {R R' : wt_St → wt_St → Prop} {β : Nat → Int32} {e : Nat} {s z : wt_St} (h : wt_ok R β e s z) (k : R s z → R' s z) : wt_ok R' β e s z := by
  obtain ⟨j, a, b, c, d⟩ := h
  exact ⟨j, a, b, c, k d⟩
set_option maxHeartbeats 4000000 in
/-- the pieces of a letter are laid into the rows of the class -/
theorem wh_fpLoop (n : Nat) {a1 a2 l m p : Nat} {x3 x4 x5 x6 : Int32} {s : wt_St} (h1 : wt_ln a1 = 26) (h2 : wt_ln a2 = 312) (h12 : a1 ≠ a2) (hl : l < 26) (e3 : x3.toInt = (l : Int)) (e4 : x4.toInt = (m : Int)) (e5 : x5.toInt = (p : Int)) (hm : m + p ≤ 12) : wt_H (wt_it (wp_ld_fillPieces_B61 n a1 a2 x3 x4 x5 x6) n (x4, s)) (fun q => q.1 = 1 ∧ wt_fr (fun _ _ => False) (fun i => i = a1 ∨ i = a2) s q.2 ∧ (wt_ga q.2 a1 l).toInt = ((m + p : Nat) : Int) ∧ (∀ l', l' ≠ l → wt_ga q.2 a1 l' = wt_ga s a1 l') ∧ (∀ i, m ≤ i → i < m + p → wt_ga q.2 a2 (12 * l + i) = x6) ∧ (∀ j, j < 12 * l + m ∨ 12 * l + m + p ≤ j → wt_ga q.2 a2 j = wt_ga s a2 j)) := by
  have k12 : (12 : Int32).toInt = 12 := by decide
  have ea := wt_addE (x := x4) (y := x5) (by omega) (by omega)
  have em := wt_mulR (x := x3) k12 (by omega) (by omega)
  refine wt_H_it (fun t : Int32 × wt_St => ∃ c : Nat, m ≤ c ∧ c ≤ m + p ∧ t.1.toInt = (c : Int) ∧ wt_fr (fun _ _ => False) (fun i => i = a2) s t.2 ∧ (∀ i, m ≤ i → i < c → wt_ga t.2 a2 (12 * l + i) = x6) ∧ (∀ j, j < 12 * l + m ∨ 12 * l + c ≤ j → wt_ga t.2 a2 j = wt_ga s a2 j)) (fun K t I hK => ?_) n _ ⟨m, Nat.le_refl _, by omega, e4, wt_fr.rf, fun i a b => absurd a (by omega), fun j _ => rfl⟩
  obtain ⟨c, c1, c2, c3, f, c4, c5⟩ := I
  unfold wp_ld_fillPieces_B61
  refine wt_H_if (fun d => ?_) (fun d => ?_)
  · have d' := wt_cle d
    refine wt_H_bh (wh_put n (k := l) e3 (by rw [h1]; exact hl)) (fun q hq => ?_)
    have fq := wt_fr_sa hq
    refine wt_H_some ⟨rfl, wt_fr.tr (wt_frw f (fun i k h => h) (fun i h => Or.inr h)) fq (fun i k h => h) (fun i h => Or.inl h), ?_, fun l' hl' => ?_, fun i a b => ?_, fun j hj => ?_⟩
    · show (wt_ga q a1 l).toInt = _
      rw [wt_v_sa hq]
      omega
    · show wt_ga q a1 l' = wt_ga s a1 l'
      rw [wt_w_sa hq l' hl', f.2 a1 h12]
    · show wt_ga q a2 (12 * l + i) = x6
      rw [fq.2 a2 (fun h => h12 h.symm)]
      exact c4 i a (by omega)
    · show wt_ga q a2 j = wt_ga s a2 j
      rw [fq.2 a2 (fun h => h12 h.symm)]
      exact c5 j (by omega)
  · have d' := wt_ncle d
    have e6 := wt_addE (x := x3 * (12 : Int32)) (y := t.1) (by omega) (by omega)
    have ei := wt_i1 (c := t.1) (by omega)
    refine wt_H_bh (wh_put n (k := 12 * l + c) (by omega) (by rw [h2]; omega)) (fun q hq => ?_)
    have fq := wt_fr_sa hq
    refine hK _ ⟨c + 1, by omega, by omega, (show (t.1 + (1 : Int32)).toInt = ((c + 1 : Nat) : Int) by omega), wt_fr.tr f fq (fun i k h => h) (fun i h => h), fun i a b => ?_, fun j hj => ?_⟩
    · show wt_ga q a2 (12 * l + i) = x6
      by_cases hc : 12 * l + i = 12 * l + c
      · rw [hc, wt_v_sa hq]
      · rw [wt_w_sa hq _ hc]
        exact c4 i a (by omega)
    · show wt_ga q a2 j = wt_ga s a2 j
      rw [wt_w_sa hq j (by omega)]
      exact c5 j (by omega)
set_option maxHeartbeats 4000000 in
/-- and into those of the reference -/
theorem wh_mpLoop (n : Nat) {a1 a2 l m p : Nat} {x3 x4 x5 : Int32} {s : wt_St} (h12 : a1 ≠ a2) (hl : l < 26) (e3 : x3.toInt = (l : Int)) (em : (wt_ga s a1 l).toInt = (m : Int)) (e4 : x4.toInt = (p : Int)) (hm : m + p ≤ 12) (h0 : wt_gf s 108 5 = 0) : wt_H (wt_it (wp_md_pieces_B31 n a1 a2 x3 x4 x5) n ((0 : Int32), s)) (fun q => wt_fr (fun _ _ => False) (fun i => i = a1 ∨ i = a2) s q ∧ (wt_ga q a1 l).toInt = ((m + p : Nat) : Int) ∧ (∀ l', l' ≠ l → wt_ga q a1 l' = wt_ga s a1 l') ∧ (∀ i, m ≤ i → i < m + p → wt_ga q a2 (13 * l + i) = x5) ∧ (∀ j, j < 13 * l + m ∨ 13 * l + m + p ≤ j → wt_ga q a2 j = wt_ga s a2 j)) := by
  have k0 : (0 : Int32).toInt = 0 := by decide
  have k13 : (13 : Int32).toInt = 13 := by decide
  have e13 := wt_mulL (y := x3) k13 (by omega) (by omega)
  refine wt_H_it (fun t : Int32 × wt_St => ∃ c : Nat, c ≤ p ∧ t.1.toInt = (c : Int) ∧ wt_fr (fun _ _ => False) (fun i => i = a1 ∨ i = a2) s t.2 ∧ (wt_ga t.2 a1 l).toInt = ((m + c : Nat) : Int) ∧ (∀ l', l' ≠ l → wt_ga t.2 a1 l' = wt_ga s a1 l') ∧ (∀ i, m ≤ i → i < m + c → wt_ga t.2 a2 (13 * l + i) = x5) ∧ (∀ j, j < 13 * l + m ∨ 13 * l + m + c ≤ j → wt_ga t.2 a2 j = wt_ga s a2 j)) (fun K t I hK => ?_) n _ ⟨0, Nat.zero_le _, k0, wt_fr.rf, by omega, fun l' _ => rfl, fun i a b => absurd a (by omega), fun j _ => rfl⟩
  obtain ⟨c, c1, c2, f, c3, c4, c5, c6⟩ := I
  unfold wp_md_pieces_B31
  refine wt_H_if (fun d => ?_) (fun d => ?_)
  · have d' := wt_cle d
    have ec : c = p := by omega
    subst ec
    exact wt_H_some ⟨f, c3, c4, c5, c6⟩
  · have d' := wt_ncle d
    rw [if_pos ((f.1 108 5 (fun h => h)).trans h0), wt_tnN e3]
    refine wt_H_gd (fun _ => ?_)
    unfold wp_md_cell
    have ea := wt_addE (x := (13 : Int32) * x3) (y := wt_ga t.2 a1 l) (by omega) (by omega)
    have ei := wt_i1 (c := t.1) (by omega)
    show wt_H (if (((13 : Int32) * x3) + wt_ga t.2 a1 l) < 0 ∨ (wt_ln a2) ≤ Int32.toNatClampNeg (((13 : Int32) * x3) + wt_ga t.2 a1 l) then none else if x3 < 0 ∨ (wt_ln a1) ≤ l then none else if x3 < 0 ∨ (wt_ln a1) ≤ l then none else K ((t.1 + (1 : Int32)), (wt_sa (wt_sa t.2 a2 (Int32.toNatClampNeg (((13 : Int32) * x3) + wt_ga t.2 a1 l)) x5) a1 l ((wt_ga (wt_sa t.2 a2 (Int32.toNatClampNeg (((13 : Int32) * x3) + wt_ga t.2 a1 l)) x5) a1 l) + (1 : Int32))))) _
    refine wt_H_gd (fun _ => ?_)
    refine wt_H_gd (fun _ => ?_)
    refine wt_H_gd (fun _ => ?_)
    rw [wt_tnN (m := 13 * l + (m + c)) (by omega)]
    obtain ⟨s1, ε1⟩ : ∃ o : wt_St, o = wt_sa t.2 a2 (13 * l + (m + c)) x5 := ⟨_, rfl⟩
    rw [← ε1]
    have f1 := wt_fr_sa ε1
    have eq1 : wt_ga s1 a1 l = wt_ga t.2 a1 l := f1.2 a1 h12 l
    rw [eq1]
    have e7 := wt_i1 (c := wt_ga t.2 a1 l) (by omega)
    obtain ⟨s2, ε2⟩ : ∃ o : wt_St, o = wt_sa s1 a1 l ((wt_ga t.2 a1 l) + (1 : Int32)) := ⟨_, rfl⟩
    rw [← ε2]
    have f2 := wt_fr_sa ε2
    refine hK _ ⟨c + 1, by omega, (show (t.1 + (1 : Int32)).toInt = ((c + 1 : Nat) : Int) by omega), wt_fr.tr (wt_fr.tr f f1 (fun i k h => h) (fun i h => Or.inr h)) f2 (fun i k h => h) (fun i h => Or.inl h), ?_, fun l' hl' => ?_, fun i a b => ?_, fun j hj => ?_⟩
    · show (wt_ga s2 a1 l).toInt = _
      rw [wt_v_sa ε2, e7]
      omega
    · show wt_ga s2 a1 l' = wt_ga s a1 l'
      rw [wt_w_sa ε2 l' hl', f1.2 a1 h12]
      exact c4 l' hl'
    · show wt_ga s2 a2 (13 * l + i) = x5
      rw [f2.2 a2 (fun h => h12 h.symm)]
      by_cases hc : 13 * l + i = 13 * l + (m + c)
      · rw [hc, wt_v_sa ε1]
      · rw [wt_w_sa ε1 _ hc]
        exact c5 i a (by omega)
    · show wt_ga s2 a2 j = wt_ga s a2 j
      rw [f2.2 a2 (fun h => h12 h.symm), wt_w_sa ε1 j (by omega)]
      exact c6 j (by omega)
theorem wh_mpLoopN (n : Nat) {a1 a2 : Nat} {x3 x5 : Int32} {s : wt_St} : wt_H (wt_it (wp_md_pieces_B31 n a1 a2 x3 (0 : Int32) x5) n ((0 : Int32), s)) (fun q => q = s) := by
  refine wt_H_it (fun t : Int32 × wt_St => t.1 = 0 ∧ t.2 = s) (fun K t I hK => ?_) n _ ⟨rfl, rfl⟩
  unfold wp_md_pieces_B31
  rw [I.1, if_pos (by decide), I.2]
  exact wt_H_some rfl
theorem wt_ft_nz {s z : wt_St} (h : wt_ft s z) : ¬ wt_gf z 108 5 = 0 := by
  obtain ⟨f, p, h1, -, h2⟩ := h
  exact wt_frt_nz h2 h1
/-- pieces that both sides lay alike -/
theorem wt_pr_set {s s' z z' : wt_St} {pc pp rm rl l m p : Nat} {x : Int32} (h : wt_pr s z pc pp rm rl) (hl : l < 26) (em : (wt_ga s pc l).toInt = (m : Int)) (hm : m + p ≤ 12) (a3 : (wt_ga s' pc l).toInt = ((m + p : Nat) : Int)) (a4 : ∀ l', l' ≠ l → wt_ga s' pc l' = wt_ga s pc l') (a5 : ∀ i, m ≤ i → i < m + p → wt_ga s' pp (12 * l + i) = x) (a6 : ∀ j, j < 12 * l + m ∨ 12 * l + m + p ≤ j → wt_ga s' pp j = wt_ga s pp j) (b3 : (wt_ga z' rm l).toInt = ((m + p : Nat) : Int)) (b4 : ∀ l', l' ≠ l → wt_ga z' rm l' = wt_ga z rm l') (b5 : ∀ i, m ≤ i → i < m + p → wt_ga z' rl (13 * l + i) = x) (b6 : ∀ j, j < 13 * l + m ∨ 13 * l + m + p ≤ j → wt_ga z' rl j = wt_ga z rl j) : wt_pr s' z' pc pp rm rl := fun l' hl' => by
  obtain ⟨c1, c2, c3, c4⟩ := h l' hl'
  by_cases hc : l' = l
  · subst hc
    refine ⟨wt_eqI (by omega), by omega, by omega, fun i hi => ?_⟩
    by_cases hi2 : i < m
    · rw [a6 _ (by omega), b6 _ (by omega)]
      exact c4 i (by omega)
    · rw [a5 i (by omega) (by omega), b5 i (by omega) (by omega)]
  · rw [a4 l' hc, b4 l' hc]
    refine ⟨c1, c2, c3, fun i hi => ?_⟩
    rw [a6 _ (by omega), b6 _ (by omega)]
    exact c4 i hi
set_option maxHeartbeats 4000000 in
theorem wr_pieces (n : Nat) (hn : 4294967297 < n) {c : Int32} {β : Nat → Int32} {e : Nat} {s z : wt_St} (a1 a2 e1 e2 : Nat) (hc : (a1 = 13 ∧ a2 = 14 ∧ e1 = 110 ∧ e2 = 120) ∨ (a1 = 15 ∧ a2 = 16 ∧ e1 = 112 ∧ e2 = 122)) (h : wt_ok (wt_lr c) β e s z) : wt_HH (wp_ld_fillPieces n a1 a2 s) (wp_md_pieces n e1 e2 z) (fun q y => (q.1 = 0 ∧ wt_ft q.2 y) ∨ (q.1 = 1 ∧ wt_ok (wt_lr c) β e q.2 y)) := by
  have k1 : (1 : Int32).toInt = 1 := by decide
  have k12 : (12 : Int32).toInt = 12 := by decide
  have k400 : (400 : Int32).toInt = 400 := by decide
  have l1 : wt_ln a1 = 26 := by rcases hc with ⟨h, -⟩ | ⟨h, -⟩ <;> subst h <;> decide
  have l2 : wt_ln a2 = 312 := by rcases hc with ⟨-, h, -⟩ | ⟨-, h, -⟩ <;> subst h <;> decide
  have pr : ∀ {s z : wt_St}, wt_lr c s z → wt_pr s z a1 a2 e1 e2 := by
    intro s z h
    rcases hc with ⟨c1, c2, c3, c4⟩ | ⟨c1, c2, c3, c4⟩
    · rw [c1, c2, c3, c4]; exact h.1
    · rw [c1, c2, c3, c4]; exact h.2.1
  unfold wp_ld_fillPieces wp_md_pieces
  refine wt_HH_b (wr_letter n hn wt_lr_lxc h) (fun q1 y1 p1 => ?_)
  rcases p1 with ⟨p1, p2, p3⟩ | ⟨l, l26, ql, yl, ok1⟩
  · rw [if_pos p1]
    have nz := wt_ft_nz p2
    refine wt_HH_of (P := fun q => q = ((0 : Int32), q1.2)) (P' := fun y => y = y1.2) (wt_H_some rfl) ?_ (fun a b ha hb => Or.inl ⟨by rw [ha], by rw [ha, hb]; exact p2⟩)
    refine wt_H_gd (fun _ => ?_)
    refine wt_H_bh (wh_numberN n nz) (fun q3 h3 => ?_)
    subst h3
    refine wt_H_bh (wh_numberN n nz) (fun q4 h4 => ?_)
    subst h4
    exact wh_mpLoopN n
  · rw [if_neg (fun c => by have := wt_ceq c; rw [wt_lm1] at this; omega)]
    refine wt_HH_l (wh_look n hn ql (by rw [l1]; exact l26)) (fun q3 h3 => ?_)
    subst h3
    dsimp only
    obtain ⟨pm1, pm2, pm3, -⟩ := pr ok1.choose_spec.2.2.2 l l26
    rw [yl, wt_tnN ql, ← pm1]
    refine wt_HH_gr (fun _ => ?_)
    have es := wt_subE (x := (12 : Int32)) (y := wt_ga q1.2 a1 l) (by omega) (by omega)
    have ha3 : a1 ≠ 3 := by omega
    have ok1' : wt_ok (fun s z => wt_lr c s z ∧ wt_ga s a1 l = wt_ga q1.2 a1 l) β e q1.2 y1.2 := wt_ok_imp ok1 (fun r => ⟨r, rfl⟩)
    refine wt_HH_b (wr_number n hn (wt_lr_lxc2 _ ha3) ok1' (by omega) (by omega)) (fun q4 y4 p4 => ?_)
    rcases p4 with ⟨p4, p5⟩ | ⟨p4, p5, p6, ok4⟩
    · rw [if_pos p4]
      -- the reference's first number answers 0 where it fails
      have nz := wt_ft_nz p5
      refine wt_HH_of (P := fun a => a = ((0 : Int32), q4.2)) (P' := fun b => wt_frt b (p5.choose) (p5.choose_spec.choose)) (wt_H_some rfl) ?_ (fun a b ha hb => Or.inl ⟨by rw [ha], ?_⟩)
      · refine wt_H_bh (wh_numberN n nz) (fun q5 h5 => ?_)
        subst h5
        refine wt_H_it (fun t : Int32 × wt_St => t.2 = y4.2) (fun K t I hK => ?_) n _ rfl
        unfold wp_md_pieces_B31
        rw [I]
        refine wt_H_if (fun _ => wt_H_some p5.choose_spec.choose_spec.2.2) (fun _ => ?_)
        rw [if_neg nz]
        exact wt_H_some p5.choose_spec.choose_spec.2.2
      · rw [ha]
        exact ⟨_, _, p5.choose_spec.choose_spec.1, p5.choose_spec.choose_spec.2.1, hb⟩
    · rw [if_neg (fun c => by have := wt_ceq c; rw [wt_lm1] at this; omega), p6]
      refine wt_HH_b (wr_number n hn (wt_lr_lxc2 _ ha3) ok4 (by omega) (by omega)) (fun q6 y6 p7 => ?_)
      rcases p7 with ⟨p7, p8⟩ | ⟨p7, p8, p9, ok6⟩
      · rw [if_pos p7]
        have nz := wt_ft_nz p8
        refine wt_HH_of (P := fun a => a = ((0 : Int32), q6.2)) (P' := fun b => b = y6.2) (wt_H_some rfl) ?_ (fun a b ha hb => Or.inl ⟨by rw [ha], by rw [ha, hb]; exact p8⟩)
        refine wt_H_it (fun t : Int32 × wt_St => t.2 = y6.2) (fun K t I hK => ?_) n _ rfl
        unfold wp_md_pieces_B31
        rw [I]
        refine wt_H_if (fun _ => wt_H_some rfl) (fun _ => ?_)
        rw [if_neg nz]
        exact wt_H_some rfl
      · rw [if_neg (fun c => by have := wt_ceq c; rw [wt_lm1] at this; omega), p9]
        obtain ⟨k6, tv6, rv6, h06, lr6, v6⟩ := ok6
        obtain ⟨pn1, pn2, pn3, -⟩ := pr lr6 l l26
        have hm0 := wt_tnI pm2
        refine wt_HH_of (wh_fpLoop n (l := l) (m := Int32.toNatClampNeg (wt_ga q1.2 a1 l)) (p := Int32.toNatClampNeg q4.1) l1 l2 (by omega) l26 ql (by omega) (by have := wt_tnI (x := q4.1) (by omega); omega) (by have := wt_tnI (x := q4.1) (by omega); omega)) (wh_mpLoop n (l := l) (m := Int32.toNatClampNeg (wt_ga q1.2 a1 l)) (p := Int32.toNatClampNeg q4.1) (by omega) l26 ql (by rw [← pn1, v6]; omega) (by have := wt_tnI (x := q4.1) (by omega); omega) (by have := wt_tnI (x := q4.1) (by omega); omega) h06) (fun a b ha hb => Or.inr ⟨ha.1, ?_⟩)
        obtain ⟨-, fa, a3, a4, a5, a6⟩ := ha
        obtain ⟨fb, b3, b4, b5, b6⟩ := hb
        have hp0 := wt_tnI (x := q4.1) (by omega)
        have prn : wt_pr a.2 b a1 a2 e1 e2 := wt_pr_set (pr lr6) l26 (by rw [v6]; omega) (by omega) a3 a4 a5 a6 b3 b4 b5 b6
        obtain ⟨c1, c2, c3, c4, c5, c6, c7⟩ := lr6
        refine ⟨k6, wt_tv_fr tv6 fa (by (try dsimp only); omega) (fun h => h) (fun h => h), wt_rv_fr rv6 fb (by (try dsimp only); omega) (fun h => h) (fun h => h), (fb.1 108 5 (fun h => h)).trans h06, ?_, ?_, fun i hi => ?_, fun i hi => ?_, fun i hi => ?_, ?_, (fb.1 108 7 (fun h => h)).trans c7.1, by rw [fa.1 1 7 (fun h => h), fb.1 108 6 (fun h => h)]; exact c7.2⟩
        · rcases hc with ⟨d1, d2, d3, d4⟩ | ⟨d1, d2, d3, d4⟩
          · rw [d1, d2, d3, d4] at prn; exact prn
          · exact wt_pr_fr c1 fa fb (by (try dsimp only); omega) (by (try dsimp only); omega) (by (try dsimp only); omega) (by (try dsimp only); omega)
        · rcases hc with ⟨d1, d2, d3, d4⟩ | ⟨d1, d2, d3, d4⟩
          · exact wt_pr_fr c2 fa fb (by (try dsimp only); omega) (by (try dsimp only); omega) (by (try dsimp only); omega) (by (try dsimp only); omega)
          · rw [d1, d2, d3, d4] at prn; exact prn
        · rw [fa.2 17 (by (try dsimp only); omega), fb.2 114 (by (try dsimp only); omega)]; exact c3 i hi
        · rw [fa.2 18 (by (try dsimp only); omega), fb.2 116 (by (try dsimp only); omega)]; exact c4 i hi
        · rw [fa.2 19 (by (try dsimp only); omega), fb.2 118 (by (try dsimp only); omega)]; exact c5 i hi
        · rw [fa.1 12 7 (fun h => h), fb.1 108 24 (fun h => h)]; exact c6
