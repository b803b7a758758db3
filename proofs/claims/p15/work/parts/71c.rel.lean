/-! two programs side by side: what holds of both ends, if both end -/
theorem wt_T.h {α : Type} {p : Option α} {P : α → Prop} (h : wt_T p P) : wt_H p P := by
  obtain ⟨a, rfl, hp⟩ := h
  exact wt_H_some hp
theorem wt_H.imp {α : Type} {p : Option α} {P Q : α → Prop} (h : wt_H p P) (k : ∀ a, P a → Q a) : wt_H p Q := fun a e => k a (h a e)
theorem wt_H.and {α : Type} {p : Option α} {P Q : α → Prop} (h : wt_H p P) (k : wt_H p Q) : wt_H p (fun a => P a ∧ Q a) := fun a e => ⟨h a e, k a e⟩
theorem wt_H_bh {α β : Type} {x : Option α} {f : α → Option β} {P : α → Prop} {Q : β → Prop} (h : wt_H x P) (k : ∀ a, P a → wt_H (f a) Q) : wt_H (x.bind f) Q := by
  cases x with
  | none => exact wt_H_none
  | some a => exact k a (h a rfl)
def wt_HH {α β : Type} (p : Option α) (p' : Option β) (Q : α → β → Prop) : Prop := ∀ a b, p = some a → p' = some b → Q a b
theorem wt_HH_some {α β : Type} {a : α} {b : β} {Q : α → β → Prop} (h : Q a b) : wt_HH (some a) (some b) Q := fun x y e e' => by
  cases e
  cases e'
  exact h
theorem wt_HH_nl {α β : Type} {p' : Option β} {Q : α → β → Prop} : wt_HH (none : Option α) p' Q := fun x y e _ => by cases e
theorem wt_HH_nr {α β : Type} {p : Option α} {Q : α → β → Prop} : wt_HH p (none : Option β) Q := fun x y _ e => by cases e
theorem wt_HH_l {α α' β : Type} {x : Option α} {f : α → Option α'} {p' : Option β} {P : α → Prop} {Q : α' → β → Prop} (h : wt_H x P) (k : ∀ a, P a → wt_HH (f a) p' Q) : wt_HH (x.bind f) p' Q := by
  cases x with
  | none => exact wt_HH_nl
  | some a => exact k a (h a rfl)
theorem wt_HH_r {α β β' : Type} {p : Option α} {x : Option β} {f : β → Option β'} {P : β → Prop} {Q : α → β' → Prop} (h : wt_H x P) (k : ∀ a, P a → wt_HH p (f a) Q) : wt_HH p (x.bind f) Q := by
  cases x with
  | none => exact wt_HH_nr
  | some a => exact k a (h a rfl)
theorem wt_HH_b {α α' β β' : Type} {x : Option α} {f : α → Option α'} {y : Option β} {g : β → Option β'} {P : α → β → Prop} {Q : α' → β' → Prop} (h : wt_HH x y P) (k : ∀ a b, P a b → wt_HH (f a) (g b) Q) : wt_HH (x.bind f) (y.bind g) Q := by
  cases x with
  | none => exact wt_HH_nl
  | some a =>
    cases y with
    | none => exact wt_HH_nr
    | some b => exact k a b (h a b rfl rfl)
theorem wt_HH_of {α β : Type} {p : Option α} {p' : Option β} {P : α → Prop} {P' : β → Prop} {Q : α → β → Prop} (h : wt_H p P) (h' : wt_H p' P') (k : ∀ a b, P a → P' b → Q a b) : wt_HH p p' Q := fun a b e e' => k a b (h a e) (h' b e')
theorem wt_HH.imp {α β : Type} {p : Option α} {p' : Option β} {P Q : α → β → Prop} (h : wt_HH p p' P) (k : ∀ a b, P a b → Q a b) : wt_HH p p' Q := fun a b e e' => k a b (h a b e e')
theorem wt_HH_il {α β : Type} {c : Prop} [Decidable c] {A B : Option α} {p' : Option β} {Q : α → β → Prop} (h1 : c → wt_HH A p' Q) (h2 : ¬ c → wt_HH B p' Q) : wt_HH (if c then A else B) p' Q := by
  by_cases hc : c
  · rw [if_pos hc]; exact h1 hc
  · rw [if_neg hc]; exact h2 hc
theorem wt_HH_ir {α β : Type} {c : Prop} [Decidable c] {A B : Option β} {p : Option α} {Q : α → β → Prop} (h1 : c → wt_HH p A Q) (h2 : ¬ c → wt_HH p B Q) : wt_HH p (if c then A else B) Q := by
  by_cases hc : c
  · rw [if_pos hc]; exact h1 hc
  · rw [if_neg hc]; exact h2 hc
theorem wt_HH_gl {α β : Type} {c : Prop} [Decidable c] {A : Option α} {p' : Option β} {Q : α → β → Prop} (h : ¬ c → wt_HH A p' Q) : wt_HH (if c then none else A) p' Q := wt_HH_il (fun _ => wt_HH_nl) h
theorem wt_HH_gr {α β : Type} {c : Prop} [Decidable c] {A : Option β} {p : Option α} {Q : α → β → Prop} (h : ¬ c → wt_HH p A Q) : wt_HH p (if c then none else A) Q := wt_HH_ir (fun _ => wt_HH_nr) h
theorem wt_HH_it {α α' ρ ρ' : Type} {body : (α → Option ρ) → α → Option ρ} {body' : (α' → Option ρ') → α' → Option ρ'} {Q : ρ → ρ' → Prop} (I : α → α' → Prop) (h : ∀ (K : α → Option ρ) (K' : α' → Option ρ') (s : α) (s' : α'), I s s' → (∀ t t', I t t' → wt_HH (K t) (K' t') Q) → wt_HH (body K s) (body' K' s') Q) : ∀ (n n' : Nat) (s : α) (s' : α'), I s s' → wt_HH (wt_it body n s) (wt_it body' n' s') Q := by
  intro n
  induction n with
  | zero => intro n' s s' _; exact wt_HH_nl
  | succ n ih =>
    intro n' s s' hs
    cases n' with
    | zero => exact wt_HH_nr
    | succ n' => exact h _ _ s s' hs (fun t t' ht => ih n' t t' ht)
theorem wt_HH_itl {α β ρ : Type} {body : (α → Option ρ) → α → Option ρ} {p' : Option β} {Q : ρ → β → Prop} (I : α → Prop) (h : ∀ (K : α → Option ρ) (s : α), I s → (∀ t, I t → wt_HH (K t) p' Q) → wt_HH (body K s) p' Q) : ∀ (n : Nat) (s : α), I s → wt_HH (wt_it body n s) p' Q := by
  intro n
  induction n with
  | zero => intro s _; exact wt_HH_nl
  | succ n ih => intro s hs; exact h _ s hs ih
theorem wt_HH_itr {α β ρ : Type} {body : (β → Option ρ) → β → Option ρ} {p : Option α} {Q : α → ρ → Prop} (I : β → Prop) (h : ∀ (K : β → Option ρ) (s : β), I s → (∀ t, I t → wt_HH p (K t) Q) → wt_HH p (body K s) Q) : ∀ (n : Nat) (s : β), I s → wt_HH p (wt_it body n s) Q := by
  intro n
  induction n with
  | zero => intro s _; exact wt_HH_nr
  | succ n ih => intro s hs; exact h _ s hs ih
theorem wt_T.both {α β : Type} {p : Option α} {p' : Option β} {P : α → Prop} {P' : β → Prop} {Q : α → β → Prop} (h : wt_T p P) (h' : wt_T p' P') (k : wt_HH p p' Q) : ∃ a, p = some a ∧ P a ∧ ∃ b, p' = some b ∧ P' b ∧ Q a b := by
  obtain ⟨a, e, ha⟩ := h
  obtain ⟨b, e', hb⟩ := h'
  exact ⟨a, e, ha, b, e', hb, k a b e e'⟩
/-! rows: what look, put, fillRow and copyRow do -/
theorem wt_lk_in {a k : Nat} {x : Int32} {σ : wt_St} (hx : x.toInt = (k : Int)) (hk : k < wt_ln a) : wt_lk a x σ = wt_ga σ a k := by
  have k0 : (0 : Int32).toInt = 0 := by decide
  have hl := wt_lnI a
  unfold wt_lk
  rw [if_neg (fun c => by have := wt_clt c; omega), if_neg (fun c => by have := wt_cle c; omega), wt_tnN hx]
theorem wt_lk_out {a : Nat} {x : Int32} {σ : wt_St} (hx : x.toInt < 0 ∨ (wt_ln a : Int) ≤ x.toInt) : wt_lk a x σ = 0 := by
  have k0 : (0 : Int32).toInt = 0 := by decide
  have hl := wt_lnI a
  unfold wt_lk
  rcases hx with h | h
  · rw [if_pos (Int32.lt_iff_toInt_lt.mpr (by omega))]
  · by_cases c : x < 0
    · rw [if_pos c]
    · rw [if_neg c, if_pos (Int32.le_iff_toInt_le.mpr (by omega))]
theorem wh_look (n : Nat) (hn : 4294967297 < n) {a k : Nat} {x : Int32} {σ : wt_St} (hx : x.toInt = (k : Int)) (hk : k < wt_ln a) : wt_H (wp_ap_look n a x σ) (fun q => q = (wt_ga σ a k, σ)) := (wq_ap_look n hn a x σ).h.imp (fun q hq => by
  obtain ⟨q1, q2⟩ := q
  obtain ⟨e1, e2⟩ := hq
  have e1' : q2 = σ := e1
  have e2' : q1 = wt_lk a x σ := e2
  rw [e1', e2', wt_lk_in hx hk])
theorem wh_put (n : Nat) {a k : Nat} {x v : Int32} {σ : wt_St} (hx : x.toInt = (k : Int)) (hk : k < wt_ln a) : wt_H (wp_ap_put n a x v σ) (fun q => q = wt_sa σ a k v) := by
  have k0 : (0 : Int32).toInt = 0 := by decide
  have hl := wt_lnI a
  unfold wp_ap_put
  rw [if_neg (fun c => by have := wt_clt c; omega), if_neg (fun c => by have := wt_cle c; omega), wt_tnN hx]
  exact wt_H_gd (fun _ => wt_H_some rfl)
theorem wh_putx (n : Nat) {a : Nat} {x v : Int32} {σ : wt_St} (hx : x.toInt < 0 ∨ (wt_ln a : Int) ≤ x.toInt) : wt_H (wp_ap_put n a x v σ) (fun q => q = σ) := by
  have k0 : (0 : Int32).toInt = 0 := by decide
  have hl := wt_lnI a
  unfold wp_ap_put
  refine wt_H_if (fun _ => wt_H_some rfl) (fun c => ?_)
  refine wt_H_if (fun _ => wt_H_some rfl) (fun d => ?_)
  have h1 := wt_ncl c
  have h2 := wt_ncle d
  omega
theorem wh_fillRow (n : Nat) {a : Nat} {v : Int32} {σ : wt_St} : wt_H (wp_ap_fillRow n a v σ) (fun q => wt_fr (fun _ _ => False) (fun i => i = a) σ q ∧ ∀ j, j < wt_ln a → wt_ga q a j = v) := by
  have k0 : (0 : Int32).toInt = 0 := by decide
  have hl := wt_lnI a
  unfold wp_ap_fillRow
  refine wt_H_it (fun s : Int32 × wt_St => wt_fr (fun _ _ => False) (fun i => i = a) σ s.2 ∧ 0 ≤ s.1.toInt ∧ ∀ j : Nat, (j : Int) < s.1.toInt → wt_ga s.2 a j = v) (fun K s I hK => ?_) n _ ⟨wt_fr.rf, (show 0 ≤ ((0 : Int32)).toInt by omega), fun j hj => absurd (show (j : Int) < ((0 : Int32)).toInt from hj) (by omega)⟩
  obtain ⟨fs, i1, i2⟩ := I
  have es := wt_tnI i1
  unfold wp_ap_fillRow_B2
  refine wt_H_if (fun c => ?_) (fun c => ?_)
  · have c' := wt_cle c
    exact wt_H_some ⟨fs, fun j hj => i2 j (by omega)⟩
  · have c' := wt_ncle c
    have ei := wt_i1 (c := s.1) (by omega)
    refine wt_H_gd (fun _ => ?_)
    obtain ⟨s3, ε3⟩ : ∃ o : wt_St, o = wt_sa s.2 a (Int32.toNatClampNeg s.1) v := ⟨_, rfl⟩
    rw [← ε3]
    refine hK _ ⟨wt_fr.tr fs (wt_fr_sa ε3) (fun i k h => h) (fun i h => h), (show 0 ≤ (s.1 + (1 : Int32)).toInt by omega), fun j hj => ?_⟩
    have hj' : (j : Int) < (s.1 + (1 : Int32)).toInt := hj
    show wt_ga s3 a j = v
    by_cases hc : j = Int32.toNatClampNeg s.1
    · rw [hc, wt_v_sa ε3]
    · rw [wt_w_sa ε3 j hc]; exact i2 j (by omega)
theorem wh_copyRow (n : Nat) {a b : Nat} {σ : wt_St} (hab : a ≠ b) (hl2 : wt_ln b = wt_ln a) : wt_H (wp_ap_copyRow n a b σ) (fun q => wt_fr (fun _ _ => False) (fun i => i = b) σ q ∧ ∀ j, j < wt_ln a → wt_ga q b j = wt_ga σ a j) := by
  have k0 : (0 : Int32).toInt = 0 := by decide
  have hl := wt_lnI a
  unfold wp_ap_copyRow
  refine wt_H_it (fun s : Int32 × wt_St => wt_fr (fun _ _ => False) (fun i => i = b) σ s.2 ∧ 0 ≤ s.1.toInt ∧ ∀ j : Nat, (j : Int) < s.1.toInt → wt_ga s.2 b j = wt_ga σ a j) (fun K s I hK => ?_) n _ ⟨wt_fr.rf, (show 0 ≤ ((0 : Int32)).toInt by omega), fun j hj => absurd (show (j : Int) < ((0 : Int32)).toInt from hj) (by omega)⟩
  obtain ⟨fs, i1, i2⟩ := I
  have es := wt_tnI i1
  unfold wp_ap_copyRow_B2
  rw [hl2]
  refine wt_H_if (fun c => ?_) (fun c => ?_)
  · have c' := wt_cle c
    exact wt_H_some ⟨fs, fun j hj => i2 j (by omega)⟩
  · have c' := wt_ncle c
    have ei := wt_i1 (c := s.1) (by omega)
    rw [if_neg c]
    refine wt_H_gd (fun _ => ?_)
    refine wt_H_gd (fun _ => ?_)
    obtain ⟨s3, ε3⟩ : ∃ o : wt_St, o = wt_sa s.2 b (Int32.toNatClampNeg s.1) (wt_ga s.2 a (Int32.toNatClampNeg s.1)) := ⟨_, rfl⟩
    rw [← ε3]
    refine hK _ ⟨wt_fr.tr fs (wt_fr_sa ε3) (fun i k h => h) (fun i h => h), (show 0 ≤ (s.1 + (1 : Int32)).toInt by omega), fun j hj => ?_⟩
    have hj' : (j : Int) < (s.1 + (1 : Int32)).toInt := hj
    show wt_ga s3 b j = wt_ga σ a j
    by_cases hc : j = Int32.toNatClampNeg s.1
    · rw [hc, wt_v_sa ε3]; exact fs.2 a hab _
    · rw [wt_w_sa ε3 j hc]; exact i2 j (by omega)
