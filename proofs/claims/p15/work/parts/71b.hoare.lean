/-! partial correctness, beside the total one: what holds of a program's end, if it ends -/
def wt_H {α : Type} (p : Option α) (Q : α → Prop) : Prop := ∀ a, p = some a → Q a
theorem wt_H_some {α : Type} {a : α} {Q : α → Prop} (h : Q a) : wt_H (some a) Q := fun b e => by cases e; exact h
theorem wt_H_none {α : Type} {Q : α → Prop} : wt_H (none : Option α) Q := fun b e => by cases e
theorem wt_H_if {α : Type} {c : Prop} [Decidable c] {A B : Option α} {Q : α → Prop} (h1 : c → wt_H A Q) (h2 : ¬ c → wt_H B Q) : wt_H (if c then A else B) Q := by
  by_cases hc : c
  · rw [if_pos hc]; exact h1 hc
  · rw [if_neg hc]; exact h2 hc
theorem wt_H_gd {α : Type} {c : Prop} [Decidable c] {A : Option α} {Q : α → Prop} (h : ¬ c → wt_H A Q) : wt_H (if c then none else A) Q := wt_H_if (fun _ => wt_H_none) h
theorem wt_H_bi {α β : Type} {x : Option α} {f : α → Option β} {P : α → Prop} {Q : β → Prop} (h : wt_T x P) (k : ∀ a, P a → wt_H (f a) Q) : wt_H (x.bind f) Q := by
  obtain ⟨a, rfl, hp⟩ := h
  exact k a hp
theorem wt_H_it {α ρ : Type} {body : (α → Option ρ) → α → Option ρ} {Q : ρ → Prop} (I : α → Prop) (h : ∀ (K : α → Option ρ) (s : α), I s → (∀ s', I s' → wt_H (K s') Q) → wt_H (body K s) Q) : ∀ (n : Nat) (s : α), I s → wt_H (wt_it body n s) Q := by
  intro n
  induction n with
  | zero => intro s _; exact wt_H_none
  | succ n ih => intro s hs; exact h _ s hs ih
theorem wt_T.and {α : Type} {x : Option α} {P Q : α → Prop} (h : wt_T x P) (k : wt_H x Q) : wt_T x (fun a => P a ∧ Q a) := by
  obtain ⟨a, e, hp⟩ := h
  exact ⟨a, e, hp, k a e⟩
theorem wt_ixn {x : Int32} {N : Nat} (h : ¬ (x < 0 ∨ N ≤ Int32.toNatClampNeg x)) : 0 ≤ x.toInt ∧ x.toInt < (N : Int) := by
  have k0 : (0 : Int32).toInt = 0 := by decide
  have h1 : ¬ x < 0 := fun z => h (Or.inl z)
  have h2 : ¬ N ≤ Int32.toNatClampNeg x := fun z => h (Or.inr z)
  have h3 := wt_ncl h1
  have h4 := wt_tnI (x := x) (by omega)
  omega
