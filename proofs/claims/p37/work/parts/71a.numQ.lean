-- 71a.num.lean.txt
section WTQ0
theorem wt_divI {x y : Int32} (hx : 0 ≤ x.toInt) (hy : 0 < y.toInt) : (x / y).toInt = x.toInt / y.toInt := by
  have b := wt_bd x
  have c := wt_bd y
  rw [Jvm.Kit.i32_div (by omega)]
  exact Int.tdiv_eq_ediv_of_nonneg hx
theorem wt_addE {x y : Int32} (h1 : -2147483648 ≤ x.toInt + y.toInt) (h2 : x.toInt + y.toInt < 2147483648) : (x + y).toInt = x.toInt + y.toInt := Jvm.Kit.i32_add (by omega) (by omega)
theorem wt_subE {x y : Int32} (h1 : -2147483648 ≤ x.toInt - y.toInt) (h2 : x.toInt - y.toInt < 2147483648) : (x - y).toInt = x.toInt - y.toInt := Jvm.Kit.i32_sub (by omega) (by omega)
theorem wt_mulE {x y : Int32} (h1 : -2147483648 ≤ x.toInt * y.toInt) (h2 : x.toInt * y.toInt < 2147483648) : (x * y).toInt = x.toInt * y.toInt := Jvm.Kit.i32_mul (by omega) (by omega)
theorem wt_mulL {x y : Int32} {c : Int} (e : x.toInt = c) (h1 : -2147483648 ≤ c * y.toInt) (h2 : c * y.toInt < 2147483648) : (x * y).toInt = c * y.toInt := by
  subst e
  exact wt_mulE h1 h2
theorem wt_tnle {x : Int32} {b : Nat} (h : x.toInt ≤ (b : Int)) : Int32.toNatClampNeg x ≤ b := by
  unfold Int32.toNatClampNeg
  omega
theorem wt_tn_i1 {c : Int32} (h0 : 0 ≤ c.toInt) (h1 : c.toInt < 2147483647) : Int32.toNatClampNeg (c + (1 : Int32)) = Int32.toNatClampNeg c + 1 := by
  unfold Int32.toNatClampNeg
  rw [wt_i1 h1]
  omega
theorem wt_tnI {x : Int32} (h : 0 ≤ x.toInt) : (Int32.toNatClampNeg x : Int) = x.toInt := by
  unfold Int32.toNatClampNeg
  omega
theorem wt_tnN {x : Int32} {m : Nat} (h : x.toInt = (m : Int)) : Int32.toNatClampNeg x = m := by
  unfold Int32.toNatClampNeg
  omega
theorem wt_mulR {x y : Int32} {c : Int} (e : y.toInt = c) (h1 : -2147483648 ≤ x.toInt * c) (h2 : x.toInt * c < 2147483648) : (x * y).toInt = x.toInt * c := by
  subst e
  exact wt_mulE h1 h2
end WTQ0
-- 71b.hoare.lean.txt
section WTQ1
/-! partial correctness, beside the total one: what holds of a program's end, if it ends -/
def wt_H {α : Type} (p : Option α) (Q : α → Prop) : Prop := ∀ a, p = some a → Q a
theorem wt_H_some {α : Type} {a : α} {Q : α → Prop} (h : Q a) : wt_H (some a) Q := fun b e => by cases e; exact h
theorem wt_H_none {α : Type} {Q : α → Prop} : wt_H (none : Option α) Q := fun b e => by cases e
theorem wt_H_if {α : Type} {c : Prop} [Decidable c] {A B : Option α} {Q : α → Prop} (h1 : c → wt_H A Q) (h2 : ¬ c → wt_H B Q) : wt_H (if c then A else B) Q := by
  by_cases hc : c
  · rw [if_pos hc]; exact h1 hc
  · rw [if_neg hc]; exact h2 hc
theorem wt_H_gd {α : Type} {c : Prop} [Decidable c] {A : Option α} {Q : α → Prop} (h : ¬ c → wt_H A Q) : wt_H (if c then none else A) Q := wt_H_if (fun _ => wt_H_none) h
theorem wt_H_bi {α β : Type} {x : Option α} {f : α → Option β} {P : α → Prop} {Q : β → Prop} (h : wt_T x P) (k : ∀ a, P a → wt_H (f a) Q) : wt_H (x.bind f) Q := by
  obtain ⟨a, rfl, hp⟩ := h
  exact k a hp
theorem wt_H_it {α ρ : Type} {body : (α → Option ρ) → α → Option ρ} {Q : ρ → Prop} (I : α → Prop) (h : ∀ (K : α → Option ρ) (s : α), I s → (∀ s', I s' → wt_H (K s') Q) → wt_H (body K s) Q) : ∀ (n : Nat) (s : α), I s → wt_H (wt_it body n s) Q := by
  intro n
  induction n with
  | zero => intro s _; exact wt_H_none
  | succ n ih => intro s hs; exact h _ s hs ih
theorem wt_T.and {α : Type} {x : Option α} {P Q : α → Prop} (h : wt_T x P) (k : wt_H x Q) : wt_T x (fun a => P a ∧ Q a) := by
  obtain ⟨a, e, hp⟩ := h
  exact ⟨a, e, hp, k a e⟩
theorem wt_ixn {x : Int32} {N : Nat} (h : ¬ (x < 0 ∨ N ≤ Int32.toNatClampNeg x)) : 0 ≤ x.toInt ∧ x.toInt < (N : Int) := by
  have k0 : (0 : Int32).toInt = 0 := by decide
  have h1 : ¬ x < 0 := fun z => h (Or.inl z)
  have h2 : ¬ N ≤ Int32.toNatClampNeg x := fun z => h (Or.inr z)
  have h3 := wt_ncl h1
  have h4 := wt_tnI (x := x) (by omega)
  omega
end WTQ1
-- 71c.rel.lean.txt
section WTQ2
/-! two programs side by side: what holds of both ends, if both end -/
theorem wt_T.h {α : Type} {p : Option α} {P : α → Prop} (h : wt_T p P) : wt_H p P := by
  obtain ⟨a, rfl, hp⟩ := h
  exact wt_H_some hp
theorem wt_H.imp {α : Type} {p : Option α} {P Q : α → Prop} (h : wt_H p P) (k : ∀ a, P a → Q a) : wt_H p Q := fun a e => k a (h a e)
theorem wt_H.and {α : Type} {p : Option α} {P Q : α → Prop} (h : wt_H p P) (k : wt_H p Q) : wt_H p (fun a => P a ∧ Q a) := fun a e => ⟨h a e, k a e⟩
theorem wt_H_bh {α β : Type} {x : Option α} {f : α → Option β} {P : α → Prop} {Q : β → Prop} (h : wt_H x P) (k : ∀ a, P a → wt_H (f a) Q) : wt_H (x.bind f) Q := by
  cases x with
  | none => exact wt_H_none
  | some a => exact k a (h a rfl)
def wt_HH {α β : Type} (p : Option α) (p' : Option β) (Q : α → β → Prop) : Prop := ∀ a b, p = some a → p' = some b → Q a b
theorem wt_HH_some {α β : Type} {a : α} {b : β} {Q : α → β → Prop} (h : Q a b) : wt_HH (some a) (some b) Q := fun x y e e' => by
  cases e
  cases e'
  exact h
theorem wt_HH_nl {α β : Type} {p' : Option β} {Q : α → β → Prop} : wt_HH (none : Option α) p' Q := fun x y e _ => by cases e
theorem wt_HH_nr {α β : Type} {p : Option α} {Q : α → β → Prop} : wt_HH p (none : Option β) Q := fun x y _ e => by cases e
theorem wt_HH_l {α α' β : Type} {x : Option α} {f : α → Option α'} {p' : Option β} {P : α → Prop} {Q : α' → β → Prop} (h : wt_H x P) (k : ∀ a, P a → wt_HH (f a) p' Q) : wt_HH (x.bind f) p' Q := by
  cases x with
  | none => exact wt_HH_nl
  | some a => exact k a (h a rfl)
theorem wt_HH_r {α β β' : Type} {p : Option α} {x : Option β} {f : β → Option β'} {P : β → Prop} {Q : α → β' → Prop} (h : wt_H x P) (k : ∀ a, P a → wt_HH p (f a) Q) : wt_HH p (x.bind f) Q := by
  cases x with
  | none => exact wt_HH_nr
  | some a => exact k a (h a rfl)
theorem wt_HH_b {α α' β β' : Type} {x : Option α} {f : α → Option α'} {y : Option β} {g : β → Option β'} {P : α → β → Prop} {Q : α' → β' → Prop} (h : wt_HH x y P) (k : ∀ a b, P a b → wt_HH (f a) (g b) Q) : wt_HH (x.bind f) (y.bind g) Q := by
  cases x with
  | none => exact wt_HH_nl
  | some a =>
    cases y with
    | none => exact wt_HH_nr
    | some b => exact k a b (h a b rfl rfl)
theorem wt_HH_of {α β : Type} {p : Option α} {p' : Option β} {P : α → Prop} {P' : β → Prop} {Q : α → β → Prop} (h : wt_H p P) (h' : wt_H p' P') (k : ∀ a b, P a → P' b → Q a b) : wt_HH p p' Q := fun a b e e' => k a b (h a e) (h' b e')
theorem wt_HH.imp {α β : Type} {p : Option α} {p' : Option β} {P Q : α → β → Prop} (h : wt_HH p p' P) (k : ∀ a b, P a b → Q a b) : wt_HH p p' Q := fun a b e e' => k a b (h a b e e')
theorem wt_HH_il {α β : Type} {c : Prop} [Decidable c] {A B : Option α} {p' : Option β} {Q : α → β → Prop} (h1 : c → wt_HH A p' Q) (h2 : ¬ c → wt_HH B p' Q) : wt_HH (if c then A else B) p' Q := by
  by_cases hc : c
  · rw [if_pos hc]; exact h1 hc
  · rw [if_neg hc]; exact h2 hc
theorem wt_HH_ir {α β : Type} {c : Prop} [Decidable c] {A B : Option β} {p : Option α} {Q : α → β → Prop} (h1 : c → wt_HH p A Q) (h2 : ¬ c → wt_HH p B Q) : wt_HH p (if c then A else B) Q := by
  by_cases hc : c
  · rw [if_pos hc]; exact h1 hc
  · rw [if_neg hc]; exact h2 hc
theorem wt_HH_gl {α β : Type} {c : Prop} [Decidable c] {A : Option α} {p' : Option β} {Q : α → β → Prop} (h : ¬ c → wt_HH A p' Q) : wt_HH (if c then none else A) p' Q := wt_HH_il (fun _ => wt_HH_nl) h
theorem wt_HH_gr {α β : Type} {c : Prop} [Decidable c] {A : Option β} {p : Option α} {Q : α → β → Prop} (h : ¬ c → wt_HH p A Q) : wt_HH p (if c then none else A) Q := wt_HH_ir (fun _ => wt_HH_nr) h
theorem wt_HH_it {α α' ρ ρ' : Type} {body : (α → Option ρ) → α → Option ρ} {body' : (α' → Option ρ') → α' → Option ρ'} {Q : ρ → ρ' → Prop} (I : α → α' → Prop) (h : ∀ (K : α → Option ρ) (K' : α' → Option ρ') (s : α) (s' : α'), I s s' → (∀ t t', I t t' → wt_HH (K t) (K' t') Q) → wt_HH (body K s) (body' K' s') Q) : ∀ (n n' : Nat) (s : α) (s' : α'), I s s' → wt_HH (wt_it body n s) (wt_it body' n' s') Q := by
  intro n
  induction n with
  | zero => intro n' s s' _; exact wt_HH_nl
  | succ n ih =>
    intro n' s s' hs
    cases n' with
    | zero => exact wt_HH_nr
    | succ n' => exact h _ _ s s' hs (fun t t' ht => ih n' t t' ht)
theorem wt_HH_itl {α β ρ : Type} {body : (α → Option ρ) → α → Option ρ} {p' : Option β} {Q : ρ → β → Prop} (I : α → Prop) (h : ∀ (K : α → Option ρ) (s : α), I s → (∀ t, I t → wt_HH (K t) p' Q) → wt_HH (body K s) p' Q) : ∀ (n : Nat) (s : α), I s → wt_HH (wt_it body n s) p' Q := by
  intro n
  induction n with
  | zero => intro s _; exact wt_HH_nl
  | succ n ih => intro s hs; exact h _ s hs ih
theorem wt_HH_itr {α β ρ : Type} {body : (β → Option ρ) → β → Option ρ} {p : Option α} {Q : α → ρ → Prop} (I : β → Prop) (h : ∀ (K : β → Option ρ) (s : β), I s → (∀ t, I t → wt_HH p (K t) Q) → wt_HH p (body K s) Q) : ∀ (n : Nat) (s : β), I s → wt_HH p (wt_it body n s) Q := by
  intro n
  induction n with
  | zero => intro s _; exact wt_HH_nr
  | succ n ih => intro s hs; exact h _ s hs ih
theorem wt_T.both {α β : Type} {p : Option α} {p' : Option β} {P : α → Prop} {P' : β → Prop} {Q : α → β → Prop} (h : wt_T p P) (h' : wt_T p' P') (k : wt_HH p p' Q) : ∃ a, p = some a ∧ P a ∧ ∃ b, p' = some b ∧ P' b ∧ Q a b := by
  obtain ⟨a, e, ha⟩ := h
  obtain ⟨b, e', hb⟩ := h'
  exact ⟨a, e, ha, b, e', hb, k a b e e'⟩
/-! rows: what look, put, fillRow and copyRow do -/
theorem wt_lk_in {a k : Nat} {x : Int32} {σ : wt_St} (hx : x.toInt = (k : Int)) (hk : k < wt_ln a) : wt_lk a x σ = wt_ga σ a k := by
  have k0 : (0 : Int32).toInt = 0 := by decide
  have hl := wt_lnI a
  unfold wt_lk
  rw [if_neg (fun c => by have := wt_clt c; omega), if_neg (fun c => by have := wt_cle c; omega), wt_tnN hx]
theorem wt_lk_out {a : Nat} {x : Int32} {σ : wt_St} (hx : x.toInt < 0 ∨ (wt_ln a : Int) ≤ x.toInt) : wt_lk a x σ = 0 := by
  have k0 : (0 : Int32).toInt = 0 := by decide
  have hl := wt_lnI a
  unfold wt_lk
  rcases hx with h | h
  · rw [if_pos (Int32.lt_iff_toInt_lt.mpr (by omega))]
  · by_cases c : x < 0
    · rw [if_pos c]
    · rw [if_neg c, if_pos (Int32.le_iff_toInt_le.mpr (by omega))]
theorem wh_look (n : Nat) (hn : 4294967297 < n) {a k : Nat} {x : Int32} {σ : wt_St} (hx : x.toInt = (k : Int)) (hk : k < wt_ln a) : wt_H (wp_ap_look n a x σ) (fun q => q = (wt_ga σ a k, σ)) := (wq_ap_look n hn a x σ).h.imp (fun q hq => by
  obtain ⟨q1, q2⟩ := q
  obtain ⟨e1, e2⟩ := hq
  have e1' : q2 = σ := e1
  have e2' : q1 = wt_lk a x σ := e2
  rw [e1', e2', wt_lk_in hx hk])
theorem wh_put (n : Nat) {a k : Nat} {x v : Int32} {σ : wt_St} (hx : x.toInt = (k : Int)) (hk : k < wt_ln a) : wt_H (wp_ap_put n a x v σ) (fun q => q = wt_sa σ a k v) := by
  have k0 : (0 : Int32).toInt = 0 := by decide
  have hl := wt_lnI a
  unfold wp_ap_put
  rw [if_neg (fun c => by have := wt_clt c; omega), if_neg (fun c => by have := wt_cle c; omega), wt_tnN hx]
  exact wt_H_gd (fun _ => wt_H_some rfl)
theorem wh_putx (n : Nat) {a : Nat} {x v : Int32} {σ : wt_St} (hx : x.toInt < 0 ∨ (wt_ln a : Int) ≤ x.toInt) : wt_H (wp_ap_put n a x v σ) (fun q => q = σ) := by
  have k0 : (0 : Int32).toInt = 0 := by decide
  have hl := wt_lnI a
  unfold wp_ap_put
  refine wt_H_if (fun _ => wt_H_some rfl) (fun c => ?_)
  refine wt_H_if (fun _ => wt_H_some rfl) (fun d => ?_)
  have h1 := wt_ncl c
  have h2 := wt_ncle d
  omega
theorem wh_fillRow (n : Nat) {a : Nat} {v : Int32} {σ : wt_St} : wt_H (wp_ap_fillRow n a v σ) (fun q => wt_fr (fun _ _ => False) (fun i => i = a) σ q ∧ ∀ j, j < wt_ln a → wt_ga q a j = v) := by
  have k0 : (0 : Int32).toInt = 0 := by decide
  have hl := wt_lnI a
  unfold wp_ap_fillRow
  refine wt_H_it (fun s : Int32 × wt_St => wt_fr (fun _ _ => False) (fun i => i = a) σ s.2 ∧ 0 ≤ s.1.toInt ∧ ∀ j : Nat, (j : Int) < s.1.toInt → wt_ga s.2 a j = v) (fun K s I hK => ?_) n _ ⟨wt_fr.rf, (show 0 ≤ ((0 : Int32)).toInt by omega), fun j hj => absurd (show (j : Int) < ((0 : Int32)).toInt from hj) (by omega)⟩
  obtain ⟨fs, i1, i2⟩ := I
  have es := wt_tnI i1
  unfold wp_ap_fillRow_B2
  refine wt_H_if (fun c => ?_) (fun c => ?_)
  · have c' := wt_cle c
    exact wt_H_some ⟨fs, fun j hj => i2 j (by omega)⟩
  · have c' := wt_ncle c
    have ei := wt_i1 (c := s.1) (by omega)
    refine wt_H_gd (fun _ => ?_)
    obtain ⟨s3, ε3⟩ : ∃ o : wt_St, o = wt_sa s.2 a (Int32.toNatClampNeg s.1) v := ⟨_, rfl⟩
    rw [← ε3]
    refine hK _ ⟨wt_fr.tr fs (wt_fr_sa ε3) (fun i k h => h) (fun i h => h), (show 0 ≤ (s.1 + (1 : Int32)).toInt by omega), fun j hj => ?_⟩
    have hj' : (j : Int) < (s.1 + (1 : Int32)).toInt := hj
    show wt_ga s3 a j = v
    by_cases hc : j = Int32.toNatClampNeg s.1
    · rw [hc, wt_v_sa ε3]
    · rw [wt_w_sa ε3 j hc]; exact i2 j (by omega)
theorem wh_copyRow (n : Nat) {a b : Nat} {σ : wt_St} (hab : a ≠ b) (hl2 : wt_ln b = wt_ln a) : wt_H (wp_ap_copyRow n a b σ) (fun q => wt_fr (fun _ _ => False) (fun i => i = b) σ q ∧ ∀ j, j < wt_ln a → wt_ga q b j = wt_ga σ a j) := by
  have k0 : (0 : Int32).toInt = 0 := by decide
  have hl := wt_lnI a
  unfold wp_ap_copyRow
  refine wt_H_it (fun s : Int32 × wt_St => wt_fr (fun _ _ => False) (fun i => i = b) σ s.2 ∧ 0 ≤ s.1.toInt ∧ ∀ j : Nat, (j : Int) < s.1.toInt → wt_ga s.2 b j = wt_ga σ a j) (fun K s I hK => ?_) n _ ⟨wt_fr.rf, (show 0 ≤ ((0 : Int32)).toInt by omega), fun j hj => absurd (show (j : Int) < ((0 : Int32)).toInt from hj) (by omega)⟩
  obtain ⟨fs, i1, i2⟩ := I
  have es := wt_tnI i1
  unfold wp_ap_copyRow_B2
  rw [hl2]
  refine wt_H_if (fun c => ?_) (fun c => ?_)
  · have c' := wt_cle c
    exact wt_H_some ⟨fs, fun j hj => i2 j (by omega)⟩
  · have c' := wt_ncle c
    have ei := wt_i1 (c := s.1) (by omega)
    rw [if_neg c]
    refine wt_H_gd (fun _ => ?_)
    refine wt_H_gd (fun _ => ?_)
    obtain ⟨s3, ε3⟩ : ∃ o : wt_St, o = wt_sa s.2 b (Int32.toNatClampNeg s.1) (wt_ga s.2 a (Int32.toNatClampNeg s.1)) := ⟨_, rfl⟩
    rw [← ε3]
    refine hK _ ⟨wt_fr.tr fs (wt_fr_sa ε3) (fun i k h => h) (fun i h => h), (show 0 ≤ (s.1 + (1 : Int32)).toInt by omega), fun j hj => ?_⟩
    have hj' : (j : Int) < (s.1 + (1 : Int32)).toInt := hj
    show wt_ga s3 b j = wt_ga σ a j
    by_cases hc : j = Int32.toNatClampNeg s.1
    · rw [hc, wt_v_sa ε3]; exact fs.2 a hab _
    · rw [wt_w_sa ε3 j hc]; exact i2 j (by omega)
end WTQ2
-- 71d.lex.lean.txt
section WTQ3
/-! reading: what both sides take off the tape -/
/-- a run of signs of one kind from k ends at j -/
def wt_run (β : Nat → Int32) (e : Nat) (P : Int → Prop) (k j : Nat) : Prop := k ≤ j ∧ (∀ i, k ≤ i → i < j → i < e ∧ P (β i).toInt) ∧ ¬ (j < e ∧ P (β j).toInt)
theorem wt_run_u {β : Nat → Int32} {e : Nat} {P : Int → Prop} {k j j' : Nat} (h : wt_run β e P k j) (h' : wt_run β e P k j') : j = j' := by
  obtain ⟨a1, a2, a3⟩ := h
  obtain ⟨b1, b2, b3⟩ := h'
  rcases Nat.lt_trichotomy j j' with c | c | c
  · exact absurd (b2 j a1 c) a3
  · exact c
  · exact absurd (a2 j' b1 c) b3
theorem wt_run_le {β : Nat → Int32} {e : Nat} {P : Int → Prop} {k j : Nat} (h : wt_run β e P k j) (hk : k ≤ e) : j ≤ e := by
  obtain ⟨a1, a2, a3⟩ := h
  by_cases c : j ≤ e
  · exact c
  · have := (a2 (j - 1) (by omega) (by omega)).1
    omega
def wt_bl (v : Int) : Prop := v = 32
def wt_sm (v : Int) : Prop := 97 ≤ v ∧ v ≤ 122
def wt_dg (v : Int) : Prop := 48 ≤ v ∧ v ≤ 57
/-- the class reads at k, of e bytes -/
def wt_tv (β : Nat → Int32) (e k : Nat) (s : wt_St) : Prop := (∀ j, j < 500 → wt_ga s 2 j = β j) ∧ (wt_gf s 1 3).toInt = (e : Int) ∧ (wt_gf s 1 4).toInt = (k : Int) ∧ k ≤ e ∧ e ≤ 500
theorem wt_tv_fr {β : Nat → Int32} {e k : Nat} {s s' : wt_St} {F : Nat → Nat → Prop} {A : Nat → Prop} (h : wt_tv β e k s) (f : wt_fr F A s s') (h2 : ¬ A 2) (h3 : ¬ F 1 3) (h4 : ¬ F 1 4) : wt_tv β e k s' := ⟨fun j hj => (f.2 2 h2 j).trans (h.1 j hj), by rw [f.1 1 3 h3]; exact h.2.1, by rw [f.1 1 4 h4]; exact h.2.2.1, h.2.2.2⟩
theorem wt_tv_adv {β : Nat → Int32} {e k k' : Nat} {s s' : wt_St} {v : Int32} (h : wt_tv β e k s) (ε : s' = wt_sf s 1 4 v) (hv : v.toInt = (k' : Int)) (hk : k' ≤ e) : wt_tv β e k' s' := ⟨fun j hj => ((wt_fr_sf ε).2 2 (fun h => h) j).trans (h.1 j hj), by rw [(wt_fr_sf ε).1 1 3 (by (try dsimp only); omega)]; exact h.2.1, (wt_ceq (wt_v_sf ε)).trans hv, hk, h.2.2.2.2⟩
theorem wt_ln2 : wt_ln 2 = 500 := by decide
theorem wt_ln3 : wt_ln 3 = 9 := by decide
theorem wh_lookT (n : Nat) (hn : 4294967297 < n) {β : Nat → Int32} {e k : Nat} {σ : wt_St} (h : wt_tv β e k σ) {x : Int32} {j : Nat} (hx : x.toInt = (j : Int)) (hj : j < 500) : wt_H (wp_ap_look n 2 x σ) (fun q => q = (β j, σ)) := (wh_look n hn hx (by rw [wt_ln2]; exact hj)).imp (fun q hq => by rw [hq, h.1 j hj])
theorem wh_small (n : Nat) {x : Int32} {σ : wt_St} : wt_H (wp_tp_isSmall n x σ) (fun q => q.2 = σ ∧ ((q.1 = 0 ∧ ¬ wt_sm x.toInt) ∨ (q.1 = 1 ∧ wt_sm x.toInt))) := by
  have k1 : (97 : Int32).toInt = 97 := by decide
  have k2 : (122 : Int32).toInt = 122 := by decide
  unfold wp_tp_isSmall wt_sm
  refine wt_H_if (fun c => ?_) (fun c => wt_H_if (fun d => ?_) (fun d => ?_))
  · have := wt_clt c
    exact wt_H_some ⟨rfl, Or.inl ⟨rfl, by omega⟩⟩
  · have := wt_clt d
    exact wt_H_some ⟨rfl, Or.inl ⟨rfl, by omega⟩⟩
  · have := wt_ncl c
    have := wt_ncl d
    exact wt_H_some ⟨rfl, Or.inr ⟨rfl, by omega⟩⟩
theorem wh_digit (n : Nat) {x : Int32} {σ : wt_St} : wt_H (wp_tp_isDigit n x σ) (fun q => q.2 = σ ∧ ((q.1 = 0 ∧ ¬ wt_dg x.toInt) ∨ (q.1 = 1 ∧ wt_dg x.toInt))) := by
  have k1 : (48 : Int32).toInt = 48 := by decide
  have k2 : (57 : Int32).toInt = 57 := by decide
  unfold wp_tp_isDigit wt_dg
  refine wt_H_if (fun c => ?_) (fun c => wt_H_if (fun d => ?_) (fun d => ?_))
  · have := wt_clt c
    exact wt_H_some ⟨rfl, Or.inl ⟨rfl, by omega⟩⟩
  · have := wt_clt d
    exact wt_H_some ⟨rfl, Or.inl ⟨rfl, by omega⟩⟩
  · have := wt_ncl c
    have := wt_ncl d
    exact wt_H_some ⟨rfl, Or.inr ⟨rfl, by omega⟩⟩
theorem wh_smallM (n : Nat) {x : Int32} {σ : wt_St} : wt_H (wp_md_isSmall n x σ) (fun q => q.2 = σ ∧ ((q.1 = 0 ∧ ¬ wt_sm x.toInt) ∨ (q.1 = 1 ∧ wt_sm x.toInt))) := wh_small n
theorem wh_digitM (n : Nat) {x : Int32} {σ : wt_St} : wt_H (wp_md_isDigit n x σ) (fun q => q.2 = σ ∧ ((q.1 = 0 ∧ ¬ wt_dg x.toInt) ∨ (q.1 = 1 ∧ wt_dg x.toInt))) := wh_digit n
set_option maxHeartbeats 4000000 in
theorem wh_skip (n : Nat) (hn : 4294967297 < n) {β : Nat → Int32} {e k : Nat} {σ : wt_St} (h : wt_tv β e k σ) : wt_H (wp_tp_skipBlanks n σ) (fun q => ∃ j, wt_run β e wt_bl k j ∧ wt_tv β e j q ∧ (wt_gf q 1 5).toInt = (j : Int) ∧ wt_fr (fun i k => i = 1 ∧ (k = 4 ∨ k = 5)) (fun _ => False) σ q) := by
  have k32 : (32 : Int32).toInt = 32 := by decide
  unfold wp_tp_skipBlanks
  refine wt_H_it (fun s : wt_St => ∃ j, k ≤ j ∧ (∀ i, k ≤ i → i < j → i < e ∧ wt_bl (β i).toInt) ∧ wt_tv β e j s ∧ wt_fr (fun i k => i = 1 ∧ (k = 4 ∨ k = 5)) (fun _ => False) σ s) (fun K s I hK => ?_) n σ ⟨k, Nat.le_refl _, fun i h1 h2 => absurd h1 (by omega), h, wt_fr.rf⟩
  obtain ⟨j, j1, j2, tv, fr⟩ := I
  have tv' := tv
  obtain ⟨t1, t2, t3, t4, t5⟩ := tv'
  have E : ¬ (j < e ∧ wt_bl (β j).toInt) → wt_H (wp_tp_skipBlanks_B40 n s) (fun q => ∃ j, wt_run β e wt_bl k j ∧ wt_tv β e j q ∧ (wt_gf q 1 5).toInt = (j : Int) ∧ wt_fr (fun i k => i = 1 ∧ (k = 4 ∨ k = 5)) (fun _ => False) σ q) := by
    intro hx
    unfold wp_tp_skipBlanks_B40
    obtain ⟨s1, ε1⟩ : ∃ o : wt_St, o = wt_sf s 1 5 (wt_gf s 1 4) := ⟨_, rfl⟩
    rw [← ε1]
    have f1 := wt_fr_sf ε1
    exact wt_H_some ⟨j, ⟨j1, j2, hx⟩, wt_tv_fr tv f1 (fun h => h) (by (try dsimp only); omega) (by (try dsimp only); omega), (wt_ceq (wt_v_sf ε1)).trans t3, wt_fr.tr fr f1 (fun i k h => by (try dsimp only at h); omega) (fun i h => h)⟩
  unfold wp_tp_skipBlanks_B0
  refine wt_H_if (fun c => E (by have := wt_cle c; omega)) (fun c => ?_)
  have c' := wt_ncle c
  refine wt_H_bh (wh_lookT n hn tv t3 (by omega)) (fun q hq => ?_)
  subst hq
  refine wt_H_if (fun c2 => ?_) (fun c2 => ?_)
  · have b : (β j).toInt = 32 := (wt_ceq c2).trans k32
    have ei := wt_i1 (c := wt_gf s 1 4) (by omega)
    obtain ⟨s1, ε1⟩ : ∃ o : wt_St, o = wt_sf s 1 4 ((wt_gf s 1 4) + (1 : Int32)) := ⟨_, rfl⟩
    show wt_H (K (wt_sf s 1 4 ((wt_gf s 1 4) + (1 : Int32)))) _
    rw [← ε1]
    refine hK _ ⟨j + 1, by omega, fun i h1 h2 => ?_, wt_tv_adv tv ε1 (by rw [ei, t3]; omega) (by omega), wt_fr.tr fr (wt_fr_sf ε1) (fun i k h => by (try dsimp only at h); omega) (fun i h => h)⟩
    by_cases hc : i = j
    · rw [hc]; exact ⟨by omega, b⟩
    · exact j2 i h1 (by omega)
  · exact E (fun z => c2 (wt_eqI (z.2.trans k32.symm)))
/-- a fault of the class -/
def wt_flt (s : wt_St) (f p : Nat) : Prop := (wt_gf s 1 6).toInt = (f : Int) ∧ (wt_gf s 1 7).toInt = (p : Int)
theorem wh_fail (n : Nat) {x : Int32} {f p : Nat} {σ : wt_St} (hx : x.toInt = (f : Int)) (hp : (wt_gf σ 1 5).toInt = (p : Int)) : wt_H (wp_tp_fail n x σ) (fun q => q.1 = 0 ∧ wt_flt q.2 f p ∧ wt_fr (fun i k => i = 1 ∧ (k = 6 ∨ k = 7)) (fun _ => False) σ q.2) := by
  unfold wp_tp_fail
  obtain ⟨s1, ε1⟩ : ∃ o : wt_St, o = wt_sf σ 1 6 x := ⟨_, rfl⟩
  rw [← ε1]
  obtain ⟨s2, ε2⟩ : ∃ o : wt_St, o = wt_sf s1 1 7 (wt_gf s1 1 5) := ⟨_, rfl⟩
  rw [← ε2]
  refine wt_H_some ⟨rfl, ⟨?_, ?_⟩, wt_fr.tr (wt_fr.tr wt_fr.rf (wt_fr_sf ε1) (fun i k h => by (try dsimp only at h); omega) (fun i h => h)) (wt_fr_sf ε2) (fun i k h => by (try dsimp only at h); omega) (fun i h => h)⟩
  · rw [(wt_fr_sf ε2).1 1 6 (by (try dsimp only); omega), wt_v_sf ε1]; exact hx
  · rw [wt_v_sf ε2, (wt_fr_sf ε1).1 1 5 (by (try dsimp only); omega)]; exact hp
set_option maxHeartbeats 4000000 in
theorem wh_takeWord (n : Nat) (hn : 4294967297 < n) {β : Nat → Int32} {e k : Nat} {σ : wt_St} (h : wt_tv β e k σ) : wt_H (wp_tp_takeWord n σ) (fun q => ∃ j j2, wt_run β e wt_bl k j ∧ wt_run β e wt_sm j j2 ∧ wt_tv β e j2 q.2 ∧ (wt_gf q.2 1 5).toInt = (j : Int) ∧ ((j2 = j ∧ q.1 = 0 ∧ wt_flt q.2 1 j ∧ wt_fr (fun i k => i = 1 ∧ 4 ≤ k) (fun i => i = 3) σ q.2) ∨ (j < j2 ∧ q.1 = 1 ∧ wt_fr (fun i k => i = 1 ∧ (k = 4 ∨ k = 5)) (fun i => i = 3) σ q.2 ∧ ∀ i, i < 9 → j + i < j2 → (wt_ga q.2 3 i).toInt = (β (j + i)).toInt - 97))) := by
  have k0 : (0 : Int32).toInt = 0 := by decide
  have k1 : (1 : Int32).toInt = 1 := by decide
  have k97 : (97 : Int32).toInt = 97 := by decide
  unfold wp_tp_takeWord
  refine wt_H_bh (wh_skip n hn h) (fun σ1 hσ => ?_)
  obtain ⟨j, hr, tv1, st1, fr1⟩ := hσ
  refine wt_H_it (fun s : Int32 × wt_St => ∃ j2, j ≤ j2 ∧ (∀ i, j ≤ i → i < j2 → i < e ∧ wt_sm (β i).toInt) ∧ wt_tv β e j2 s.2 ∧ (wt_gf s.2 1 5).toInt = (j : Int) ∧ s.1.toInt = (j2 : Int) - j ∧ wt_fr (fun i k => i = 1 ∧ (k = 4 ∨ k = 5)) (fun i => i = 3) σ s.2 ∧ ∀ i, i < 9 → j + i < j2 → (wt_ga s.2 3 i).toInt = (β (j + i)).toInt - 97) (fun K s I hK => ?_) n _ ⟨j, Nat.le_refl _, fun i h1 h2 => absurd h1 (by omega), tv1, st1, by show ((0 : Int32)).toInt = _; omega, wt_fr.tr wt_fr.rf fr1 (fun i k h => h) (fun i h => h.elim), fun i h1 h2 => absurd h2 (by omega)⟩
  obtain ⟨j2, i1, i2, tv, st, ic, fr, sp⟩ := I
  have tv' := tv
  obtain ⟨t1, t2, t3, t4, t5⟩ := tv'
  have E : ¬ (j2 < e ∧ wt_sm (β j2).toInt) → wt_H (wp_tp_takeWord_B72 n s.2) (fun q => ∃ j j2, wt_run β e wt_bl k j ∧ wt_run β e wt_sm j j2 ∧ wt_tv β e j2 q.2 ∧ (wt_gf q.2 1 5).toInt = (j : Int) ∧ ((j2 = j ∧ q.1 = 0 ∧ wt_flt q.2 1 j ∧ wt_fr (fun i k => i = 1 ∧ 4 ≤ k) (fun i => i = 3) σ q.2) ∨ (j < j2 ∧ q.1 = 1 ∧ wt_fr (fun i k => i = 1 ∧ (k = 4 ∨ k = 5)) (fun i => i = 3) σ q.2 ∧ ∀ i, i < 9 → j + i < j2 → (wt_ga q.2 3 i).toInt = (β (j + i)).toInt - 97))) := by
    intro hx
    unfold wp_tp_takeWord_B72
    refine wt_H_if (fun c => ?_) (fun c => ?_)
    · have c' := wt_clt c
      exact wt_H_some ⟨j, j2, hr, ⟨i1, i2, hx⟩, tv, st, Or.inr ⟨by omega, rfl, fr, sp⟩⟩
    · have c' := wt_ncl c
      refine wt_H_bh (wh_fail n (f := 1) (by omega) st) (fun q hq => ?_)
      obtain ⟨q0, qf, qr⟩ := hq
      rw [if_pos q0]
      refine wt_H_some ⟨j, j2, hr, ⟨i1, i2, hx⟩, wt_tv_fr tv qr (fun h => h) (by (try dsimp only); omega) (by (try dsimp only); omega), ?_, Or.inl ⟨by omega, rfl, qf, wt_fr.tr (wt_fr.tr wt_fr.rf fr (fun i k h => by (try dsimp only at h); omega) (fun i h => h)) qr (fun i k h => by (try dsimp only at h); omega) (fun i h => h.elim)⟩⟩
      show (wt_gf q.2 1 5).toInt = (j : Int)
      rw [qr.1 1 5 (by (try dsimp only); omega)]
      exact st
  unfold wp_tp_takeWord_B6
  refine wt_H_if (fun c => E (by have := wt_cle c; omega)) (fun c => ?_)
  have c' := wt_ncle c
  refine wt_H_bh (wh_lookT n hn tv t3 (by omega)) (fun q hq => ?_)
  subst hq
  refine wt_H_bh (wh_small n) (fun q7 h7 => ?_)
  obtain ⟨e7, h7⟩ := h7
  have e7' : q7.2 = s.2 := e7
  rw [e7']
  rcases h7 with ⟨z7, h7⟩ | ⟨z7, h7⟩
  · rw [if_pos z7]
    exact E (fun z => h7 z.2)
  · rw [if_neg (by rw [z7]; decide)]
    refine wt_H_bh (wh_lookT n hn tv t3 (by omega)) (fun q hq => ?_)
    subst hq
    have h7' : 97 ≤ (β j2).toInt ∧ (β j2).toInt ≤ 122 := h7
    have es := wt_subE (x := β j2) (y := (97 : Int32)) (by omega) (by omega)
    have ei := wt_i1 (c := s.1) (by omega)
    have P : ∀ s2 : wt_St, wt_fr (fun _ _ => False) (fun i => i = 3) s.2 s2 → (∀ i, i < 9 → j + i < j2 + 1 → (wt_ga s2 3 i).toInt = (β (j + i)).toInt - 97) → wt_H (K ((s.1 + (1 : Int32)), (wt_sf s2 1 4 ((wt_gf s2 1 4) + (1 : Int32))))) (fun q => ∃ j j2, wt_run β e wt_bl k j ∧ wt_run β e wt_sm j j2 ∧ wt_tv β e j2 q.2 ∧ (wt_gf q.2 1 5).toInt = (j : Int) ∧ ((j2 = j ∧ q.1 = 0 ∧ wt_flt q.2 1 j ∧ wt_fr (fun i k => i = 1 ∧ 4 ≤ k) (fun i => i = 3) σ q.2) ∨ (j < j2 ∧ q.1 = 1 ∧ wt_fr (fun i k => i = 1 ∧ (k = 4 ∨ k = 5)) (fun i => i = 3) σ q.2 ∧ ∀ i, i < 9 → j + i < j2 → (wt_ga q.2 3 i).toInt = (β (j + i)).toInt - 97))) := by
      intro s2 f2 sp2
      have tv2 := wt_tv_fr tv f2 (by (try dsimp only); omega) (fun h => h) (fun h => h)
      have ej := wt_i1 (c := wt_gf s2 1 4) (by rw [tv2.2.2.1]; omega)
      obtain ⟨s3, ε3⟩ : ∃ o : wt_St, o = wt_sf s2 1 4 ((wt_gf s2 1 4) + (1 : Int32)) := ⟨_, rfl⟩
      rw [← ε3]
      have f3 := wt_fr_sf ε3
      refine hK _ ⟨j2 + 1, by omega, fun i h1 h2 => ?_, wt_tv_adv tv2 ε3 (by rw [ej, tv2.2.2.1]; omega) (by omega), ?_, (show (s.1 + (1 : Int32)).toInt = ((j2 + 1 : Nat) : Int) - j by omega), wt_fr.tr (wt_fr.tr fr f2 (fun i k h => h.elim) (fun i h => h)) f3 (fun i k h => by (try dsimp only at h); omega) (fun i h => h.elim), fun i h1 h2 => ?_⟩
      · by_cases hc : i = j2
        · rw [hc]; exact ⟨by omega, h7⟩
        · exact i2 i h1 (by omega)
      · show (wt_gf s3 1 5).toInt = (j : Int)
        rw [f3.1 1 5 (by (try dsimp only); omega), f2.1 1 5 (fun h => h)]
        exact st
      · show (wt_ga s3 3 i).toInt = (β (j + i)).toInt - 97
        rw [f3.2 3 (fun h => h)]
        exact sp2 i h1 h2
    by_cases h9 : j2 - j < 9
    · refine wt_H_bh (wh_put n (k := j2 - j) (by omega) (by rw [wt_ln3]; exact h9)) (fun q hq => ?_)
      have hq : q = wt_sa s.2 3 (j2 - j) (β j2 - (97 : Int32)) := hq
      refine P q (wt_fr_sa hq) (fun i h1 h2 => ?_)
      by_cases hc : i = j2 - j
      · rw [hc, wt_v_sa hq, show j + (j2 - j) = j2 by omega]
        omega
      · rw [wt_w_sa hq i hc]
        exact sp i h1 (by omega)
    · refine wt_H_bh (wh_putx n (Or.inr (by rw [wt_ln3]; omega))) (fun q hq => ?_)
      subst hq
      exact P s.2 wt_fr.rf (fun i h1 h2 => sp i h1 (by omega))
/-- the number that the digits from k on tell -/
def wt_dv (β : Nat → Int32) (k : Nat) : Nat → Int
  | 0 => 0
  | m + 1 => 10 * wt_dv β k m + ((β (k + m)).toInt - 48)
theorem wt_dv_nn {β : Nat → Int32} {e k : Nat} : ∀ m, (∀ i, k ≤ i → i < k + m → i < e ∧ wt_dg (β i).toInt) → 0 ≤ wt_dv β k m := by
  intro m
  induction m with
  | zero => intro _; exact Int.le_refl _
  | succ m ih =>
    intro h
    have h1 := ih (fun i a b => h i a (by omega))
    have h2 : 48 ≤ (β (k + m)).toInt ∧ (β (k + m)).toInt ≤ 57 := (h (k + m) (by omega) (by omega)).2
    show 0 ≤ 10 * wt_dv β k m + ((β (k + m)).toInt - 48)
    omega
set_option maxHeartbeats 4000000 in
theorem wh_takeNumber (n : Nat) (hn : 4294967297 < n) {β : Nat → Int32} {e k : Nat} {σ : wt_St} {x1 x2 : Int32} (h : wt_tv β e k σ) (hlo : 0 ≤ x1.toInt) (hhi : x2.toInt ≤ 1000) : wt_H (wp_tp_takeNumber n x1 x2 σ) (fun q => ∃ j j2, wt_run β e wt_bl k j ∧ wt_run β e wt_dg j j2 ∧ wt_tv β e j2 q.2 ∧ ((j2 = j ∧ q.1 = -1 ∧ wt_flt q.2 1 j ∧ wt_fr (fun i k => i = 1 ∧ 4 ≤ k) (fun _ => False) σ q.2) ∨ (j < j2 ∧ (wt_dv β j (j2 - j) < x1.toInt ∨ x2.toInt < wt_dv β j (j2 - j)) ∧ q.1 = -1 ∧ wt_flt q.2 2 j ∧ wt_fr (fun i k => i = 1 ∧ 4 ≤ k) (fun _ => False) σ q.2) ∨ (j < j2 ∧ x1.toInt ≤ wt_dv β j (j2 - j) ∧ wt_dv β j (j2 - j) ≤ x2.toInt ∧ q.1.toInt = wt_dv β j (j2 - j) ∧ wt_fr (fun i k => i = 1 ∧ (k = 4 ∨ k = 5)) (fun _ => False) σ q.2))) := by
  have k0 : (0 : Int32).toInt = 0 := by decide
  have k1 : (1 : Int32).toInt = 1 := by decide
  have k2 : (2 : Int32).toInt = 2 := by decide
  have k10 : (10 : Int32).toInt = 10 := by decide
  have k48 : (48 : Int32).toInt = 48 := by decide
  have kM : (1000000 : Int32).toInt = 1000000 := by decide
  unfold wp_tp_takeNumber
  refine wt_H_bh (wh_skip n hn h) (fun σ1 hσ => ?_)
  obtain ⟨j, hr, tv1, st1, fr1⟩ := hσ
  refine wt_H_it (fun s : Int32 × wt_St => ∃ j2, j ≤ j2 ∧ (∀ i, j ≤ i → i < j2 → i < e ∧ wt_dg (β i).toInt) ∧ wt_tv β e j2 s.2 ∧ (wt_gf s.2 1 5).toInt = (j : Int) ∧ s.1.toInt = min (wt_dv β j (j2 - j)) 1000000 ∧ wt_fr (fun i k => i = 1 ∧ (k = 4 ∨ k = 5)) (fun _ => False) σ s.2) (fun K s I hK => ?_) n _ ⟨j, Nat.le_refl _, fun i h1 h2 => absurd h1 (by omega), tv1, st1, by rw [Nat.sub_self]; show ((0 : Int32)).toInt = min 0 1000000; omega, fr1⟩
  obtain ⟨j2, i1, i2, tv, st, ic, fr⟩ := I
  have tv' := tv
  obtain ⟨t1, t2, t3, t4, t5⟩ := tv'
  have nn := wt_dv_nn (β := β) (e := e) (k := j) (j2 - j) (fun i a b => i2 i a (by omega))
  have E : ¬ (j2 < e ∧ wt_dg (β j2).toInt) → wt_H (wp_tp_takeNumber_B72 n x1 x2 s.1 s.2) (fun q => ∃ j j2, wt_run β e wt_bl k j ∧ wt_run β e wt_dg j j2 ∧ wt_tv β e j2 q.2 ∧ ((j2 = j ∧ q.1 = -1 ∧ wt_flt q.2 1 j ∧ wt_fr (fun i k => i = 1 ∧ 4 ≤ k) (fun _ => False) σ q.2) ∨ (j < j2 ∧ (wt_dv β j (j2 - j) < x1.toInt ∨ x2.toInt < wt_dv β j (j2 - j)) ∧ q.1 = -1 ∧ wt_flt q.2 2 j ∧ wt_fr (fun i k => i = 1 ∧ 4 ≤ k) (fun _ => False) σ q.2) ∨ (j < j2 ∧ x1.toInt ≤ wt_dv β j (j2 - j) ∧ wt_dv β j (j2 - j) ≤ x2.toInt ∧ q.1.toInt = wt_dv β j (j2 - j) ∧ wt_fr (fun i k => i = 1 ∧ (k = 4 ∨ k = 5)) (fun _ => False) σ q.2))) := by
    intro hx
    have F : ∀ (f : Nat) (y : Int32), y.toInt = (f : Int) → wt_H (wp_tp_fail n y s.2) (fun q => q.1 = 0 ∧ wt_flt q.2 f j ∧ wt_tv β e j2 q.2 ∧ wt_fr (fun i k => i = 1 ∧ 4 ≤ k) (fun _ => False) σ q.2) := fun f y hy => (wh_fail n hy st).imp (fun q hq => ⟨hq.1, hq.2.1, wt_tv_fr tv hq.2.2 (fun h => h) (by (try dsimp only); omega) (by (try dsimp only); omega), wt_fr.tr (wt_fr.tr wt_fr.rf fr (fun i k h => by (try dsimp only at h); omega) (fun i h => h)) hq.2.2 (fun i k h => by (try dsimp only at h); omega) (fun i h => h)⟩)
    unfold wp_tp_takeNumber_B72
    refine wt_H_if (fun c => ?_) (fun c => ?_)
    · have c' := wt_ceq c
      refine wt_H_bh (F 1 (1 : Int32) (by omega)) (fun q hq => ?_)
      exact wt_H_some ⟨j, j2, hr, ⟨i1, i2, hx⟩, hq.2.2.1, Or.inl ⟨by omega, rfl, hq.2.1, hq.2.2.2⟩⟩
    · have c' := wt_nceq c
      refine wt_H_if (fun d => ?_) (fun d => ?_)
      · have d' := wt_clt d
        unfold wp_tp_takeNumber_B101
        refine wt_H_bh (F 2 (2 : Int32) (by omega)) (fun q hq => ?_)
        exact wt_H_some ⟨j, j2, hr, ⟨i1, i2, hx⟩, hq.2.2.1, Or.inr (Or.inl ⟨by omega, by omega, rfl, hq.2.1, hq.2.2.2⟩)⟩
      · have d' := wt_ncl d
        refine wt_H_if (fun g => ?_) (fun g => ?_)
        · have g' := wt_cle g
          exact wt_H_some ⟨j, j2, hr, ⟨i1, i2, hx⟩, tv, Or.inr (Or.inr ⟨by omega, by omega, by omega, (show s.1.toInt = _ by omega), fr⟩)⟩
        · have g' := wt_ncle g
          unfold wp_tp_takeNumber_B101
          refine wt_H_bh (F 2 (2 : Int32) (by omega)) (fun q hq => ?_)
          exact wt_H_some ⟨j, j2, hr, ⟨i1, i2, hx⟩, hq.2.2.1, Or.inr (Or.inl ⟨by omega, by omega, rfl, hq.2.1, hq.2.2.2⟩)⟩
  unfold wp_tp_takeNumber_B6
  refine wt_H_if (fun c => E (by have := wt_cle c; omega)) (fun c => ?_)
  have c' := wt_ncle c
  refine wt_H_bh (wh_lookT n hn tv t3 (by omega)) (fun q hq => ?_)
  subst hq
  refine wt_H_bh (wh_digit n) (fun q7 h7 => ?_)
  obtain ⟨e7, h7⟩ := h7
  have e7' : q7.2 = s.2 := e7
  rw [e7']
  rcases h7 with ⟨z7, h7⟩ | ⟨z7, h7⟩
  · rw [if_pos z7]
    exact E (fun z => h7 z.2)
  · rw [if_neg (by rw [z7]; decide)]
    refine wt_H_bh (wh_lookT n hn tv t3 (by omega)) (fun q hq => ?_)
    subst hq
    have h7' : 48 ≤ (β j2).toInt ∧ (β j2).toInt ≤ 57 := h7
    have em := wt_mulR (x := s.1) k10 (by omega) (by omega)
    have ea := wt_addE (x := s.1 * (10 : Int32)) (y := β j2) (by omega) (by omega)
    have es := wt_subE (x := (s.1 * (10 : Int32)) + β j2) (y := (48 : Int32)) (by omega) (by omega)
    have ej := wt_i1 (c := wt_gf s.2 1 4) (by omega)
    obtain ⟨s3, ε3⟩ : ∃ o : wt_St, o = wt_sf s.2 1 4 ((wt_gf s.2 1 4) + (1 : Int32)) := ⟨_, rfl⟩
    show wt_H (K (_, wt_sf s.2 1 4 ((wt_gf s.2 1 4) + (1 : Int32)))) _
    rw [← ε3]
    have f3 := wt_fr_sf ε3
    have edv : wt_dv β j (j2 + 1 - j) = 10 * wt_dv β j (j2 - j) + ((β j2).toInt - 48) := by
      rw [show j2 + 1 - j = (j2 - j) + 1 by omega]
      show 10 * wt_dv β j (j2 - j) + ((β (j + (j2 - j))).toInt - 48) = _
      rw [show j + (j2 - j) = j2 by omega]
    refine hK _ ⟨j2 + 1, by omega, fun i h1 h2 => ?_, wt_tv_adv tv ε3 (by rw [ej, t3]; omega) (by omega), ?_, ?_, wt_fr.tr fr f3 (fun i k h => by (try dsimp only at h); omega) (fun i h => h)⟩
    · by_cases hc : i = j2
      · rw [hc]; exact ⟨by omega, h7⟩
      · exact i2 i h1 (by omega)
    · show (wt_gf s3 1 5).toInt = (j : Int)
      rw [f3.1 1 5 (by (try dsimp only); omega)]
      exact st
    · rw [edv]
      show (if (1000000 : Int32) < (((s.1 * (10 : Int32)) + β j2) - (48 : Int32)) then (1000000 : Int32) else (((s.1 * (10 : Int32)) + β j2) - (48 : Int32))).toInt = _
      by_cases hc : (1000000 : Int32) < (((s.1 * (10 : Int32)) + β j2) - (48 : Int32))
      · have hc' := wt_clt hc
        rw [if_pos hc]
        omega
      · have hc' := wt_ncl hc
        rw [if_neg hc]
        omega
end WTQ3
-- 71e.lexm.lean.txt
section WTQ4
/-! the reference reads at k, of e bytes -/
def wt_rv (β : Nat → Int32) (e k : Nat) (s : wt_St) : Prop := (∀ j, j < 500 → wt_ga s 109 j = β j) ∧ (wt_gf s 108 2).toInt = (e : Int) ∧ (wt_gf s 108 4).toInt = (k : Int) ∧ k ≤ e ∧ e ≤ 500
theorem wt_rv_fr {β : Nat → Int32} {e k : Nat} {s s' : wt_St} {F : Nat → Nat → Prop} {A : Nat → Prop} (h : wt_rv β e k s) (f : wt_fr F A s s') (h2 : ¬ A 109) (h3 : ¬ F 108 2) (h4 : ¬ F 108 4) : wt_rv β e k s' := ⟨fun j hj => (f.2 109 h2 j).trans (h.1 j hj), by rw [f.1 108 2 h3]; exact h.2.1, by rw [f.1 108 4 h4]; exact h.2.2.1, h.2.2.2⟩
theorem wt_rv_adv {β : Nat → Int32} {e k k' : Nat} {s s' : wt_St} {v : Int32} (h : wt_rv β e k s) (ε : s' = wt_sf s 108 4 v) (hv : v.toInt = (k' : Int)) (hk : k' ≤ e) : wt_rv β e k' s' := ⟨fun j hj => ((wt_fr_sf ε).2 109 (fun h => h) j).trans (h.1 j hj), by rw [(wt_fr_sf ε).1 108 2 (by (try dsimp only); omega)]; exact h.2.1, (wt_ceq (wt_v_sf ε)).trans hv, hk, h.2.2.2.2⟩
theorem wh_byteAt (n : Nat) {β : Nat → Int32} {e k : Nat} {σ : wt_St} (h : wt_rv β e k σ) {x : Int32} {j : Nat} (hx : x.toInt = (j : Int)) : wt_H (wp_md_byteAt n x σ) (fun q => (e ≤ j ∧ q = ((-1 : Int32), σ)) ∨ (j < e ∧ q = (β j, σ))) := by
  obtain ⟨t1, t2, t3, t4, t5⟩ := h
  unfold wp_md_byteAt
  refine wt_H_if (fun c => ?_) (fun c => ?_)
  · have c' := wt_clt c
    refine wt_H_gd (fun _ => wt_H_some (Or.inr ⟨by omega, ?_⟩))
    rw [wt_tnN hx, t1 j (by omega)]
  · have c' := wt_ncl c
    exact wt_H_some (Or.inl ⟨by omega, rfl⟩)
set_option maxHeartbeats 4000000 in
theorem wh_blanks (n : Nat) {β : Nat → Int32} {e k : Nat} {σ : wt_St} (h : wt_rv β e k σ) : wt_H (wp_md_blanks n σ) (fun q => ∃ j, wt_run β e wt_bl k j ∧ wt_rv β e j q ∧ wt_fr (fun i k => i = 108 ∧ k = 4) (fun _ => False) σ q) := by
  have k32 : (32 : Int32).toInt = 32 := by decide
  unfold wp_md_blanks
  refine wt_H_it (fun s : wt_St => ∃ j, k ≤ j ∧ (∀ i, k ≤ i → i < j → i < e ∧ wt_bl (β i).toInt) ∧ wt_rv β e j s ∧ wt_fr (fun i k => i = 108 ∧ k = 4) (fun _ => False) σ s) (fun K s I hK => ?_) n σ ⟨k, Nat.le_refl _, fun i h1 h2 => absurd h1 (by omega), h, wt_fr.rf⟩
  obtain ⟨j, j1, j2, tv, fr⟩ := I
  have tv' := tv
  obtain ⟨t1, t2, t3, t4, t5⟩ := tv'
  unfold wp_md_blanks_B0
  refine wt_H_bh (wh_byteAt n tv t3) (fun q hq => ?_)
  rcases hq with ⟨hq1, hq⟩ | ⟨hq1, hq⟩
  · subst hq
    rw [if_neg (show ¬ ((-1 : Int32), s).1 = (32 : Int32) from (by decide : ¬ (-1 : Int32) = (32 : Int32)))]
    exact wt_H_some ⟨j, ⟨j1, j2, fun z => by omega⟩, tv, fr⟩
  · subst hq
    refine wt_H_if (fun c2 => ?_) (fun c2 => ?_)
    · have b : (β j).toInt = 32 := (wt_ceq c2).trans k32
      have ei := wt_i1 (c := wt_gf s 108 4) (by omega)
      obtain ⟨s1, ε1⟩ : ∃ o : wt_St, o = wt_sf s 108 4 ((wt_gf s 108 4) + (1 : Int32)) := ⟨_, rfl⟩
      show wt_H (K (wt_sf s 108 4 ((wt_gf s 108 4) + (1 : Int32)))) _
      rw [← ε1]
      refine hK _ ⟨j + 1, by omega, fun i h1 h2 => ?_, wt_rv_adv tv ε1 (by rw [ei, t3]; omega) (by omega), wt_fr.tr fr (wt_fr_sf ε1) (fun i k h => by (try dsimp only at h); omega) (fun i h => h)⟩
      by_cases hc : i = j
      · rw [hc]; exact ⟨by omega, b⟩
      · exact j2 i h1 (by omega)
    · exact wt_H_some ⟨j, ⟨j1, j2, fun z => c2 (wt_eqI (z.2.trans k32.symm))⟩, tv, fr⟩
set_option maxHeartbeats 4000000 in
theorem wh_lettersHere (n : Nat) {β : Nat → Int32} {e k : Nat} {σ : wt_St} (h : wt_rv β e k σ) : wt_H (wp_md_lettersHere n σ) (fun q => ∃ j j2, wt_run β e wt_bl k j ∧ wt_run β e wt_sm j j2 ∧ wt_rv β e j q.2 ∧ q.1.toInt = (j2 : Int) - j ∧ wt_fr (fun i k => i = 108 ∧ k = 4) (fun _ => False) σ q.2) := by
  have k0 : (0 : Int32).toInt = 0 := by decide
  unfold wp_md_lettersHere
  refine wt_H_bh (wh_blanks n h) (fun σ1 hσ => ?_)
  obtain ⟨j, hr, tv1, fr1⟩ := hσ
  have tv1' := tv1
  obtain ⟨t1, t2, t3, t4, t5⟩ := tv1'
  refine wt_H_it (fun s : Int32 × wt_St => s.2 = σ1 ∧ ∃ j2, j ≤ j2 ∧ (∀ i, j ≤ i → i < j2 → i < e ∧ wt_sm (β i).toInt) ∧ s.1.toInt = (j2 : Int) - j) (fun K s I hK => ?_) n _ ⟨rfl, j, Nat.le_refl _, fun i h1 h2 => absurd h1 (by omega), by show ((0 : Int32)).toInt = _; omega⟩
  obtain ⟨es, j2, i1, i2, ic⟩ := I
  have hj2 : j2 ≤ e := by
    by_cases c : j2 ≤ e
    · exact c
    · have := (i2 (j2 - 1) (by omega) (by omega)).1
      omega
  unfold wp_md_lettersHere_B6
  rw [es]
  have ea := wt_addE (x := wt_gf σ1 108 4) (y := s.1) (by omega) (by omega)
  refine wt_H_bh (wh_byteAt n (j := j2) tv1 (by omega)) (fun q hq => ?_)
  have E : ∀ q7 : Int32 × wt_St, q7.2 = σ1 → ¬ (j2 < e ∧ wt_sm (β j2).toInt) → wt_H (some (s.1, q7.2)) (fun q => ∃ j j2, wt_run β e wt_bl k j ∧ wt_run β e wt_sm j j2 ∧ wt_rv β e j q.2 ∧ q.1.toInt = (j2 : Int) - j ∧ wt_fr (fun i k => i = 108 ∧ k = 4) (fun _ => False) σ q.2) := by
    intro q7 e7 hx
    rw [e7]
    exact wt_H_some ⟨j, j2, hr, ⟨i1, i2, hx⟩, tv1, ic, fr1⟩
  rcases hq with ⟨hq1, hq⟩ | ⟨hq1, hq⟩
  · subst hq
    refine wt_H_bh (wh_smallM n) (fun q7 h7 => ?_)
    obtain ⟨e7, h7⟩ := h7
    rcases h7 with ⟨z7, h7⟩ | ⟨z7, h7⟩
    · rw [if_pos z7]
      exact E q7 e7 (fun z => by omega)
    · have : wt_sm (-1) := by rw [← wt_lm1]; exact h7
      unfold wt_sm at this
      omega
  · subst hq
    refine wt_H_bh (wh_smallM n) (fun q7 h7 => ?_)
    obtain ⟨e7, h7⟩ := h7
    rcases h7 with ⟨z7, h7⟩ | ⟨z7, h7⟩
    · rw [if_pos z7]
      exact E q7 e7 (fun z => h7 z.2)
    · rw [if_neg (by rw [z7]; decide)]
      have ei := wt_i1 (c := s.1) (by omega)
      refine hK _ ⟨e7, j2 + 1, by omega, fun i h1 h2 => ?_, (show (s.1 + (1 : Int32)).toInt = ((j2 + 1 : Nat) : Int) - j by omega)⟩
      by_cases hc : i = j2
      · rw [hc]; exact ⟨hq1, h7⟩
      · exact i2 i h1 (by omega)
/-- a fault of the reference -/
def wt_frt (s : wt_St) (f p : Nat) : Prop := (wt_gf s 108 5).toInt = (f : Int) ∧ (wt_gf s 108 6).toInt = (p : Int)
theorem wh_wrong (n : Nat) {x y : Int32} {f p : Nat} {σ : wt_St} (h0 : wt_gf σ 108 5 = 0) (hx : x.toInt = (f : Int)) (hy : y.toInt = (p : Int)) : wt_H (wp_md_wrong n x y σ) (fun q => wt_frt q f p ∧ wt_fr (fun i k => i = 108 ∧ (k = 5 ∨ k = 6)) (fun _ => False) σ q) := by
  unfold wp_md_wrong
  rw [if_pos h0]
  obtain ⟨s1, ε1⟩ : ∃ o : wt_St, o = wt_sf σ 108 5 x := ⟨_, rfl⟩
  rw [← ε1]
  obtain ⟨s2, ε2⟩ : ∃ o : wt_St, o = wt_sf s1 108 6 y := ⟨_, rfl⟩
  rw [← ε2]
  refine wt_H_some ⟨⟨?_, ?_⟩, wt_fr.tr (wt_fr.tr wt_fr.rf (wt_fr_sf ε1) (fun i k h => by (try dsimp only at h); omega) (fun i h => h)) (wt_fr_sf ε2) (fun i k h => by (try dsimp only at h); omega) (fun i h => h)⟩
  · rw [(wt_fr_sf ε2).1 108 5 (by (try dsimp only); omega), wt_v_sf ε1]; exact hx
  · rw [wt_v_sf ε2]; exact hy
theorem wh_wrongN (n : Nat) {x y : Int32} {σ : wt_St} (h0 : ¬ wt_gf σ 108 5 = 0) : wt_H (wp_md_wrong n x y σ) (fun q => q = σ) := by
  unfold wp_md_wrong
  rw [if_neg h0]
  exact wt_H_some rfl
theorem wh_in (n : Nat) {x y z : Int32} {σ : wt_St} : wt_H (wp_md_in n x y z σ) (fun q => q.2 = σ ∧ ((q.1 = 0 ∧ (x.toInt < y.toInt ∨ z.toInt < x.toInt)) ∨ (q.1 = 1 ∧ y.toInt ≤ x.toInt ∧ x.toInt ≤ z.toInt))) := by
  unfold wp_md_in
  refine wt_H_if (fun c => ?_) (fun c => wt_H_if (fun d => ?_) (fun d => ?_))
  · have := wt_clt c
    exact wt_H_some ⟨rfl, Or.inl ⟨rfl, by omega⟩⟩
  · have := wt_clt d
    exact wt_H_some ⟨rfl, Or.inl ⟨rfl, by omega⟩⟩
  · have := wt_ncl c
    have := wt_ncl d
    exact wt_H_some ⟨rfl, Or.inr ⟨rfl, by omega, by omega⟩⟩
theorem wt_frt_nz {s : wt_St} {f p : Nat} (h : wt_frt s f p) (hf : 0 < f) : ¬ wt_gf s 108 5 = 0 := fun z => by
  have k0 : (0 : Int32).toInt = 0 := by decide
  have := h.1
  rw [z] at this
  omega
set_option maxHeartbeats 4000000 in
theorem wh_number (n : Nat) {β : Nat → Int32} {e k : Nat} {σ : wt_St} {x1 x2 : Int32} (h : wt_rv β e k σ) (h0 : wt_gf σ 108 5 = 0) (hlo : 0 ≤ x1.toInt) (hhi : x2.toInt ≤ 1000) : wt_H (wp_md_number n x1 x2 σ) (fun q => ∃ j j2, wt_run β e wt_bl k j ∧ wt_run β e wt_dg j j2 ∧ wt_rv β e j2 q.2 ∧ ((j2 = j ∧ wt_frt q.2 1 j ∧ wt_fr (fun i k => i = 108 ∧ (k = 4 ∨ k = 5 ∨ k = 6)) (fun _ => False) σ q.2) ∨ (j < j2 ∧ (wt_dv β j (j2 - j) < x1.toInt ∨ x2.toInt < wt_dv β j (j2 - j)) ∧ wt_frt q.2 2 j ∧ wt_fr (fun i k => i = 108 ∧ (k = 4 ∨ k = 5 ∨ k = 6)) (fun _ => False) σ q.2) ∨ (j < j2 ∧ x1.toInt ≤ wt_dv β j (j2 - j) ∧ wt_dv β j (j2 - j) ≤ x2.toInt ∧ q.1.toInt = wt_dv β j (j2 - j) ∧ wt_fr (fun i k => i = 108 ∧ k = 4) (fun _ => False) σ q.2))) := by
  have k0 : (0 : Int32).toInt = 0 := by decide
  have k1 : (1 : Int32).toInt = 1 := by decide
  have k2 : (2 : Int32).toInt = 2 := by decide
  have k10 : (10 : Int32).toInt = 10 := by decide
  have k48 : (48 : Int32).toInt = 48 := by decide
  have kM : (100000 : Int32).toInt = 100000 := by decide
  unfold wp_md_number
  rw [if_pos h0]
  refine wt_H_bh (wh_blanks n h) (fun σ1 hσ => ?_)
  obtain ⟨j, hr, tv1, fr1⟩ := hσ
  have h01 : wt_gf σ1 108 5 = 0 := (fr1.1 108 5 (by (try dsimp only); omega)).trans h0
  have t3 := tv1.2.2.1
  -- the loop: from the place j, no fault of another kind than the first
  have LOOP : ∀ s0 : wt_St, wt_rv β e j s0 → (wt_gf s0 108 5 = 0 ∧ wt_fr (fun i k => i = 108 ∧ k = 4) (fun _ => False) σ s0 ∧ (j < e ∧ wt_dg (β j).toInt)) ∨ (wt_frt s0 1 j ∧ wt_fr (fun i k => i = 108 ∧ (k = 4 ∨ k = 5 ∨ k = 6)) (fun _ => False) σ s0 ∧ ¬ (j < e ∧ wt_dg (β j).toInt)) → wt_H (wt_it (wp_md_number_B44 n x1 x2 (wt_gf σ1 108 4)) n ((0 : Int32), s0)) (fun q => ∃ j j2, wt_run β e wt_bl k j ∧ wt_run β e wt_dg j j2 ∧ wt_rv β e j2 q.2 ∧ ((j2 = j ∧ wt_frt q.2 1 j ∧ wt_fr (fun i k => i = 108 ∧ (k = 4 ∨ k = 5 ∨ k = 6)) (fun _ => False) σ q.2) ∨ (j < j2 ∧ (wt_dv β j (j2 - j) < x1.toInt ∨ x2.toInt < wt_dv β j (j2 - j)) ∧ wt_frt q.2 2 j ∧ wt_fr (fun i k => i = 108 ∧ (k = 4 ∨ k = 5 ∨ k = 6)) (fun _ => False) σ q.2) ∨ (j < j2 ∧ x1.toInt ≤ wt_dv β j (j2 - j) ∧ wt_dv β j (j2 - j) ≤ x2.toInt ∧ q.1.toInt = wt_dv β j (j2 - j) ∧ wt_fr (fun i k => i = 108 ∧ k = 4) (fun _ => False) σ q.2))) := by
    intro s0 rv0 hs0
    refine wt_H_it (fun s : Int32 × wt_St => ∃ j2, j ≤ j2 ∧ (∀ i, j ≤ i → i < j2 → i < e ∧ wt_dg (β i).toInt) ∧ wt_rv β e j2 s.2 ∧ s.1.toInt = min (wt_dv β j (j2 - j)) 100000 ∧ ((wt_gf s.2 108 5 = 0 ∧ wt_fr (fun i k => i = 108 ∧ k = 4) (fun _ => False) σ s.2 ∧ (j < e ∧ wt_dg (β j).toInt)) ∨ (j2 = j ∧ wt_frt s.2 1 j ∧ wt_fr (fun i k => i = 108 ∧ (k = 4 ∨ k = 5 ∨ k = 6)) (fun _ => False) σ s.2 ∧ ¬ (j < e ∧ wt_dg (β j).toInt)))) (fun K s I hK => ?_) n _ ⟨j, Nat.le_refl _, fun i h1 h2 => absurd h1 (by omega), rv0, by rw [Nat.sub_self]; show ((0 : Int32)).toInt = min 0 100000; omega, ?_⟩
    · obtain ⟨j2, i1, i2, rv, ic, hf⟩ := I
      have rv' := rv
      obtain ⟨r1, r2, r3, r4, r5⟩ := rv'
      have nn := wt_dv_nn (β := β) (e := e) (k := j) (j2 - j) (fun i a b => i2 i a (by omega))
      unfold wp_md_number_B44
      refine wt_H_bh (wh_byteAt n rv r3) (fun q hq => ?_)
      have E : ¬ (j2 < e ∧ wt_dg (β j2).toInt) → wt_H ((wp_md_in n s.1 x1 x2 s.2).bind fun q9 => if q9.1 = 0 then (wp_md_wrong n (2 : Int32) (wt_gf σ1 108 4) q9.2).bind fun q12 => wp_md_number_B122 n s.1 q12 else wp_md_number_B122 n s.1 q9.2) (fun q => ∃ j j2, wt_run β e wt_bl k j ∧ wt_run β e wt_dg j j2 ∧ wt_rv β e j2 q.2 ∧ ((j2 = j ∧ wt_frt q.2 1 j ∧ wt_fr (fun i k => i = 108 ∧ (k = 4 ∨ k = 5 ∨ k = 6)) (fun _ => False) σ q.2) ∨ (j < j2 ∧ (wt_dv β j (j2 - j) < x1.toInt ∨ x2.toInt < wt_dv β j (j2 - j)) ∧ wt_frt q.2 2 j ∧ wt_fr (fun i k => i = 108 ∧ (k = 4 ∨ k = 5 ∨ k = 6)) (fun _ => False) σ q.2) ∨ (j < j2 ∧ x1.toInt ≤ wt_dv β j (j2 - j) ∧ wt_dv β j (j2 - j) ≤ x2.toInt ∧ q.1.toInt = wt_dv β j (j2 - j) ∧ wt_fr (fun i k => i = 108 ∧ k = 4) (fun _ => False) σ q.2))) := by
        intro hx
        refine wt_H_bh (wh_in n) (fun q9 h9 => ?_)
        obtain ⟨e9, h9⟩ := h9
        rw [e9]
        rcases hf with ⟨f0, ff, fd⟩ | ⟨fj, ff, fr, fd⟩
        · have hlt : j < j2 := by
            by_cases c : j = j2
            · exact absurd (c ▸ fd) hx
            · omega
          rcases h9 with ⟨z9, h9⟩ | ⟨z9, h9⟩
          · rw [if_pos z9]
            refine wt_H_bh (wh_wrong n f0 (f := 2) (p := j) (by omega) t3) (fun q12 h12 => ?_)
            unfold wp_md_number_B122
            rw [if_neg (wt_frt_nz h12.1 (by omega))]
            exact wt_H_some ⟨j, j2, hr, ⟨i1, i2, hx⟩, wt_rv_fr rv h12.2 (fun h => h) (by (try dsimp only); omega) (by (try dsimp only); omega), Or.inr (Or.inl ⟨hlt, by omega, h12.1, wt_fr.tr (wt_fr.tr wt_fr.rf ff (fun i k h => by (try dsimp only at h); omega) (fun i h => h)) h12.2 (fun i k h => by (try dsimp only at h); omega) (fun i h => h)⟩)⟩
          · rw [if_neg (by rw [z9]; decide)]
            unfold wp_md_number_B122
            rw [if_pos f0]
            exact wt_H_some ⟨j, j2, hr, ⟨i1, i2, hx⟩, rv, Or.inr (Or.inr ⟨hlt, by omega, by omega, (show s.1.toInt = _ by omega), ff⟩)⟩
        · have nz := wt_frt_nz ff (by omega)
          have R : wt_H (wp_md_number_B122 n s.1 s.2) (fun q => ∃ j j2, wt_run β e wt_bl k j ∧ wt_run β e wt_dg j j2 ∧ wt_rv β e j2 q.2 ∧ ((j2 = j ∧ wt_frt q.2 1 j ∧ wt_fr (fun i k => i = 108 ∧ (k = 4 ∨ k = 5 ∨ k = 6)) (fun _ => False) σ q.2) ∨ (j < j2 ∧ (wt_dv β j (j2 - j) < x1.toInt ∨ x2.toInt < wt_dv β j (j2 - j)) ∧ wt_frt q.2 2 j ∧ wt_fr (fun i k => i = 108 ∧ (k = 4 ∨ k = 5 ∨ k = 6)) (fun _ => False) σ q.2) ∨ (j < j2 ∧ x1.toInt ≤ wt_dv β j (j2 - j) ∧ wt_dv β j (j2 - j) ≤ x2.toInt ∧ q.1.toInt = wt_dv β j (j2 - j) ∧ wt_fr (fun i k => i = 108 ∧ k = 4) (fun _ => False) σ q.2))) := by
            unfold wp_md_number_B122
            rw [if_neg nz]
            exact wt_H_some ⟨j, j2, hr, ⟨i1, i2, hx⟩, rv, Or.inl ⟨fj, ff, fr⟩⟩
          rcases h9 with ⟨z9, h9⟩ | ⟨z9, h9⟩
          · rw [if_pos z9]
            refine wt_H_bh (wh_wrongN n nz) (fun q12 h12 => ?_)
            rw [h12]
            exact R
          · rw [if_neg (by rw [z9]; decide)]
            exact R
      rcases hq with ⟨hq1, hq⟩ | ⟨hq1, hq⟩
      · subst hq
        refine wt_H_bh (wh_digitM n) (fun q7 h7 => ?_)
        obtain ⟨e7, h7⟩ := h7
        rcases h7 with ⟨z7, h7⟩ | ⟨z7, h7⟩
        · have e7' : q7.2 = s.2 := e7
          rw [if_pos z7, e7']
          exact E (fun z => by omega)
        · have : wt_dg (-1) := by rw [← wt_lm1]; exact h7
          unfold wt_dg at this
          omega
      · subst hq
        refine wt_H_bh (wh_digitM n) (fun q7 h7 => ?_)
        obtain ⟨e7, h7⟩ := h7
        have e7' : q7.2 = s.2 := e7
        rw [e7']
        rcases h7 with ⟨z7, h7⟩ | ⟨z7, h7⟩
        · rw [if_pos z7]
          exact E (fun z => h7 z.2)
        · rw [if_neg (by rw [z7]; decide)]
          have h7' : 48 ≤ (β j2).toInt ∧ (β j2).toInt ≤ 57 := h7
          refine wt_H_bh (wh_byteAt n rv r3) (fun q hq => ?_)
          have hq2 : q = (β j2, s.2) := by
            rcases hq with ⟨a, -⟩ | ⟨-, a⟩
            · omega
            · exact a
          subst hq2
          have hf2 : wt_gf s.2 108 5 = 0 ∧ wt_fr (fun i k => i = 108 ∧ k = 4) (fun _ => False) σ s.2 ∧ (j < e ∧ wt_dg (β j).toInt) := by
            rcases hf with hf | ⟨fj, -, -, fd⟩
            · exact hf
            · exact absurd ⟨fj ▸ hq1, fj ▸ h7⟩ fd
          have em := wt_mulL (y := s.1) k10 (by omega) (by omega)
          have ea := wt_addE (x := (10 : Int32) * s.1) (y := β j2) (by omega) (by omega)
          have es := wt_subE (x := ((10 : Int32) * s.1) + β j2) (y := (48 : Int32)) (by omega) (by omega)
          have ej := wt_i1 (c := wt_gf s.2 108 4) (by omega)
          have edv : wt_dv β j (j2 + 1 - j) = 10 * wt_dv β j (j2 - j) + ((β j2).toInt - 48) := by
            rw [show j2 + 1 - j = (j2 - j) + 1 by omega]
            show 10 * wt_dv β j (j2 - j) + ((β (j + (j2 - j))).toInt - 48) = _
            rw [show j + (j2 - j) = j2 by omega]
          have G : ∀ y : Int32, y.toInt = min (wt_dv β j (j2 + 1 - j)) 100000 → wt_H (wp_md_number_B91 n x1 x2 (wt_gf σ1 108 4) K y s.2) (fun q => ∃ j j2, wt_run β e wt_bl k j ∧ wt_run β e wt_dg j j2 ∧ wt_rv β e j2 q.2 ∧ ((j2 = j ∧ wt_frt q.2 1 j ∧ wt_fr (fun i k => i = 108 ∧ (k = 4 ∨ k = 5 ∨ k = 6)) (fun _ => False) σ q.2) ∨ (j < j2 ∧ (wt_dv β j (j2 - j) < x1.toInt ∨ x2.toInt < wt_dv β j (j2 - j)) ∧ wt_frt q.2 2 j ∧ wt_fr (fun i k => i = 108 ∧ (k = 4 ∨ k = 5 ∨ k = 6)) (fun _ => False) σ q.2) ∨ (j < j2 ∧ x1.toInt ≤ wt_dv β j (j2 - j) ∧ wt_dv β j (j2 - j) ≤ x2.toInt ∧ q.1.toInt = wt_dv β j (j2 - j) ∧ wt_fr (fun i k => i = 108 ∧ k = 4) (fun _ => False) σ q.2))) := by
            intro y hy
            unfold wp_md_number_B91
            obtain ⟨s3, ε3⟩ : ∃ o : wt_St, o = wt_sf s.2 108 4 ((wt_gf s.2 108 4) + (1 : Int32)) := ⟨_, rfl⟩
            rw [← ε3]
            have f3 := wt_fr_sf ε3
            refine hK _ ⟨j2 + 1, by omega, fun i h1 h2 => ?_, wt_rv_adv rv ε3 (by rw [ej, r3]; omega) (by omega), hy, Or.inl ⟨?_, wt_fr.tr hf2.2.1 f3 (fun i k h => by (try dsimp only at h); omega) (fun i h => h), hf2.2.2⟩⟩
            · by_cases hc : i = j2
              · rw [hc]; exact ⟨hq1, h7⟩
              · exact i2 i h1 (by omega)
            · show wt_gf s3 108 5 = 0
              rw [f3.1 108 5 (by (try dsimp only); omega)]
              exact hf2.1
          refine wt_H_if (fun c => ?_) (fun c => ?_)
          · have c' : ((((10 : Int32) * s.1) + β j2) - (48 : Int32)).toInt ≤ (100000 : Int32).toInt := wt_cle c
            exact G _ (by show ((((10 : Int32) * s.1) + β j2) - (48 : Int32)).toInt = _; omega)
          · have c' : (100000 : Int32).toInt < ((((10 : Int32) * s.1) + β j2) - (48 : Int32)).toInt := wt_ncle c
            exact G _ (by omega)
    · rcases hs0 with ⟨a, b, c⟩ | ⟨a, b, c⟩
      · exact Or.inl ⟨a, b, c⟩
      · exact Or.inr ⟨rfl, a, b, c⟩
  refine wt_H_bh (wh_byteAt n tv1 t3) (fun q hq => ?_)
  have W : ∀ q4 : Int32 × wt_St, q4.2 = σ1 → ¬ (j < e ∧ wt_dg (β j).toInt) → wt_H ((wp_md_wrong n (1 : Int32) (wt_gf q4.2 108 4) q4.2).bind fun q15 => wt_it (wp_md_number_B44 n x1 x2 (wt_gf σ1 108 4)) n ((0 : Int32), q15)) (fun q => ∃ j j2, wt_run β e wt_bl k j ∧ wt_run β e wt_dg j j2 ∧ wt_rv β e j2 q.2 ∧ ((j2 = j ∧ wt_frt q.2 1 j ∧ wt_fr (fun i k => i = 108 ∧ (k = 4 ∨ k = 5 ∨ k = 6)) (fun _ => False) σ q.2) ∨ (j < j2 ∧ (wt_dv β j (j2 - j) < x1.toInt ∨ x2.toInt < wt_dv β j (j2 - j)) ∧ wt_frt q.2 2 j ∧ wt_fr (fun i k => i = 108 ∧ (k = 4 ∨ k = 5 ∨ k = 6)) (fun _ => False) σ q.2) ∨ (j < j2 ∧ x1.toInt ≤ wt_dv β j (j2 - j) ∧ wt_dv β j (j2 - j) ≤ x2.toInt ∧ q.1.toInt = wt_dv β j (j2 - j) ∧ wt_fr (fun i k => i = 108 ∧ k = 4) (fun _ => False) σ q.2))) := by
    intro q4 e4 hx
    rw [e4]
    refine wt_H_bh (wh_wrong n h01 (f := 1) (p := j) (by omega) t3) (fun q15 h15 => ?_)
    exact LOOP q15 (wt_rv_fr tv1 h15.2 (fun h => h) (by (try dsimp only); omega) (by (try dsimp only); omega)) (Or.inr ⟨h15.1, wt_fr.tr (wt_fr.tr wt_fr.rf fr1 (fun i k h => by (try dsimp only at h); omega) (fun i h => h)) h15.2 (fun i k h => by (try dsimp only at h); omega) (fun i h => h), hx⟩)
  rcases hq with ⟨hq1, hq⟩ | ⟨hq1, hq⟩
  · subst hq
    refine wt_H_bh (wh_digitM n) (fun q7 h7 => ?_)
    obtain ⟨e7, h7⟩ := h7
    rcases h7 with ⟨z7, h7⟩ | ⟨z7, h7⟩
    · rw [if_pos z7]
      exact W q7 e7 (fun z => by omega)
    · have : wt_dg (-1) := by rw [← wt_lm1]; exact h7
      unfold wt_dg at this
      omega
  · subst hq
    refine wt_H_bh (wh_digitM n) (fun q7 h7 => ?_)
    obtain ⟨e7, h7⟩ := h7
    rcases h7 with ⟨z7, h7⟩ | ⟨z7, h7⟩
    · rw [if_pos z7]
      exact W q7 e7 (fun z => h7 z.2)
    · have e7' : q7.2 = σ1 := e7
      rw [if_neg (by rw [z7]; decide), e7']
      exact LOOP σ1 tv1 (Or.inl ⟨h01, fr1, hq1, h7⟩)
end WTQ4
-- 71f.word.lean.txt
section WTQ5
/-! letters, signs, names of clauses: both sides -/
theorem wt_sm_b {β : Nat → Int32} {e j j2 : Nat} (h : wt_run β e wt_sm j j2) {i : Nat} (h1 : j ≤ i) (h2 : i < j2) : 97 ≤ (β i).toInt ∧ (β i).toInt ≤ 122 := (h.2.1 i h1 h2).2
set_option maxHeartbeats 4000000 in
theorem wh_takeLetter (n : Nat) (hn : 4294967297 < n) {β : Nat → Int32} {e k : Nat} {σ : wt_St} (h : wt_tv β e k σ) : wt_H (wp_tp_takeLetter n σ) (fun q => ∃ j j2, wt_run β e wt_bl k j ∧ wt_run β e wt_sm j j2 ∧ wt_tv β e j2 q.2 ∧ ((j2 = j ∧ q.1 = -1 ∧ wt_flt q.2 1 j) ∨ (j + 1 < j2 ∧ q.1 = -1 ∧ wt_flt q.2 2 j) ∨ (j2 = j + 1 ∧ q.1.toInt = (β j).toInt - 97 ∧ wt_fr (fun i k => i = 1 ∧ (k = 4 ∨ k = 5)) (fun i => i = 3) σ q.2))) := by
  have k1 : (1 : Int32).toInt = 1 := by decide
  have k2 : (2 : Int32).toInt = 2 := by decide
  have k0 : (0 : Int32).toInt = 0 := by decide
  unfold wp_tp_takeLetter
  refine wt_H_bh (wh_takeWord n hn h) (fun q1 h1 => ?_)
  obtain ⟨j, j2, r1, r2, tv, st, hc⟩ := h1
  rcases hc with ⟨ej, z1, fl, fr⟩ | ⟨lt, z1, fr, sp⟩
  · rw [if_pos z1]
    exact wt_H_some ⟨j, j2, r1, r2, tv, Or.inl ⟨ej, rfl, fl⟩⟩
  · rw [if_neg (by rw [z1]; decide)]
    have tb := tv.2.2.2
    have es := wt_subE (x := wt_gf q1.2 1 4) (y := wt_gf q1.2 1 5) (by rw [tv.2.2.1, st]; omega) (by rw [tv.2.2.1, st]; omega)
    rw [tv.2.2.1, st] at es
    unfold wp_tp_wordLength
    show wt_H (if ((wt_gf q1.2 1 4) - (wt_gf q1.2 1 5)) ≤ (1 : Int32) then (wp_ap_look n 3 (0 : Int32) q1.2).bind fun q5 => some (q5.1, q5.2) else (wp_tp_fail n (2 : Int32) q1.2).bind fun q6 => some ((-1 : Int32), q6.2)) _
    refine wt_H_if (fun c => ?_) (fun c => ?_)
    · have c' := wt_cle c
      refine wt_H_bh (wh_look n hn (k := 0) (by omega) (by decide)) (fun q5 h5 => ?_)
      subst h5
      refine wt_H_some ⟨j, j2, r1, r2, tv, Or.inr (Or.inr ⟨by omega, ?_, fr⟩)⟩
      exact sp 0 (by omega) (by omega)
    · have c' := wt_ncle c
      refine wt_H_bh (wh_fail n (f := 2) (by omega) st) (fun q6 h6 => ?_)
      exact wt_H_some ⟨j, j2, r1, r2, wt_tv_fr tv h6.2.2 (fun h => h) (by (try dsimp only); omega) (by (try dsimp only); omega), Or.inr (Or.inl ⟨by omega, rfl, h6.2.1⟩)⟩
set_option maxHeartbeats 4000000 in
theorem wh_takeSign (n : Nat) (hn : 4294967297 < n) {β : Nat → Int32} {e k : Nat} {σ : wt_St} (x : Int32) (h : wt_tv β e k σ) : wt_H (wp_tp_takeSign n x σ) (fun q => ∃ j, wt_run β e wt_bl k j ∧ (wt_gf q.2 1 5).toInt = (j : Int) ∧ wt_fr (fun i k => i = 1 ∧ (k = 4 ∨ k = 5)) (fun _ => False) σ q.2 ∧ ((q.1 = 1 ∧ j < e ∧ β j = x ∧ wt_tv β e (j + 1) q.2) ∨ (q.1 = 0 ∧ ¬ (j < e ∧ β j = x) ∧ wt_tv β e j q.2))) := by
  unfold wp_tp_takeSign
  refine wt_H_bh (wh_skip n hn h) (fun s hs => ?_)
  obtain ⟨j, r1, tv, st, fr⟩ := hs
  have tv' := tv
  obtain ⟨t1, t2, t3, t4, t5⟩ := tv'
  refine wt_H_if (fun c => ?_) (fun c => ?_)
  · have c' := wt_cle c
    exact wt_H_some ⟨j, r1, st, fr, Or.inr ⟨rfl, fun z => by omega, tv⟩⟩
  · have c' := wt_ncle c
    refine wt_H_bh (wh_lookT n hn tv t3 (by omega)) (fun q hq => ?_)
    subst hq
    refine wt_H_if (fun c2 => ?_) (fun c2 => ?_)
    · have ei := wt_i1 (c := wt_gf s 1 4) (by omega)
      obtain ⟨s1, ε1⟩ : ∃ o : wt_St, o = wt_sf s 1 4 ((wt_gf s 1 4) + (1 : Int32)) := ⟨_, rfl⟩
      show wt_H (some ((1 : Int32), wt_sf s 1 4 ((wt_gf s 1 4) + (1 : Int32)))) _
      rw [← ε1]
      have f1 := wt_fr_sf ε1
      exact wt_H_some ⟨j, r1, by show (wt_gf s1 1 5).toInt = _; rw [f1.1 1 5 (by (try dsimp only); omega)]; exact st, wt_fr.tr fr f1 (fun i k h => by (try dsimp only at h); omega) (fun i h => h), Or.inl ⟨rfl, by omega, c2, wt_tv_adv tv ε1 (by rw [ei, t3]; omega) (by omega)⟩⟩
    · exact wt_H_some ⟨j, r1, st, fr, Or.inr ⟨rfl, fun z => c2 z.2, tv⟩⟩
theorem wh_needSign (n : Nat) (hn : 4294967297 < n) {β : Nat → Int32} {e k : Nat} {σ : wt_St} (x : Int32) (h : wt_tv β e k σ) : wt_H (wp_tp_needSign n x σ) (fun q => ∃ j, wt_run β e wt_bl k j ∧ ((q.1 = 1 ∧ j < e ∧ β j = x ∧ wt_tv β e (j + 1) q.2 ∧ wt_fr (fun i k => i = 1 ∧ (k = 4 ∨ k = 5)) (fun _ => False) σ q.2) ∨ (q.1 = 0 ∧ ¬ (j < e ∧ β j = x) ∧ wt_flt q.2 1 j))) := by
  unfold wp_tp_needSign
  refine wt_H_bh (wh_takeSign n hn x h) (fun q hq => ?_)
  obtain ⟨j, r1, st, fr, hc⟩ := hq
  rcases hc with ⟨z1, lt, eq, tv⟩ | ⟨z1, ne, tv⟩
  · rw [if_neg (by rw [z1]; decide)]
    exact wt_H_some ⟨j, r1, Or.inl ⟨rfl, lt, eq, tv, fr⟩⟩
  · rw [if_pos z1]
    refine wt_H_bh (wh_fail n (x := (1 : Int32)) (f := 1) (by decide) st) (fun q6 h6 => ?_)
    rw [if_pos h6.1]
    exact wt_H_some ⟨j, r1, Or.inr ⟨rfl, ne, h6.2.1⟩⟩
set_option maxHeartbeats 4000000 in
theorem wh_closes (n : Nat) {β : Nat → Int32} {e k : Nat} {σ : wt_St} {x : Int32} (h : wt_rv β e k σ) (h0 : wt_gf σ 108 5 = 0) (hx : 0 ≤ x.toInt) : wt_H (wp_md_closes n x σ) (fun q => ∃ j, wt_run β e wt_bl k j ∧ ((j < e ∧ β j = x ∧ wt_rv β e (j + 1) q ∧ wt_fr (fun i k => i = 108 ∧ k = 4) (fun _ => False) σ q) ∨ (¬ (j < e ∧ β j = x) ∧ wt_frt q 1 j))) := by
  unfold wp_md_closes
  rw [if_pos h0]
  refine wt_H_bh (wh_blanks n h) (fun s hs => ?_)
  obtain ⟨j, r1, rv, fr⟩ := hs
  have h01 : wt_gf s 108 5 = 0 := (fr.1 108 5 (by (try dsimp only); omega)).trans h0
  have rv' := rv
  obtain ⟨t1, t2, t3, t4, t5⟩ := rv'
  refine wt_H_bh (wh_byteAt n rv t3) (fun q hq => ?_)
  rcases hq with ⟨hq1, hq⟩ | ⟨hq1, hq⟩
  · subst hq
    rw [if_neg (show ¬ ((-1 : Int32), s).1 = x from fun z => by have := wt_ceq z; rw [wt_lm1] at this; omega)]
    refine wt_H_bh (wh_wrong n (x := (1 : Int32)) h01 (f := 1) (p := j) (by decide) t3) (fun q5 h5 => ?_)
    exact wt_H_some ⟨j, r1, Or.inr ⟨fun z => by omega, h5.1⟩⟩
  · subst hq
    refine wt_H_if (fun c => ?_) (fun c => ?_)
    · have ei := wt_i1 (c := wt_gf s 108 4) (by omega)
      obtain ⟨s1, ε1⟩ : ∃ o : wt_St, o = wt_sf s 108 4 ((wt_gf s 108 4) + (1 : Int32)) := ⟨_, rfl⟩
      show wt_H (some (wt_sf s 108 4 ((wt_gf s 108 4) + (1 : Int32)))) _
      rw [← ε1]
      exact wt_H_some ⟨j, r1, Or.inl ⟨hq1, c, wt_rv_adv rv ε1 (by rw [ei, t3]; omega) (by omega), wt_fr.tr fr (wt_fr_sf ε1) (fun i k h => by (try dsimp only at h); omega) (fun i h => h)⟩⟩
    · refine wt_H_bh (wh_wrong n (x := (1 : Int32)) h01 (f := 1) (p := j) (by decide) t3) (fun q5 h5 => ?_)
      exact wt_H_some ⟨j, r1, Or.inr ⟨fun z => c z.2, h5.1⟩⟩
theorem wh_closesN (n : Nat) {x : Int32} {σ : wt_St} (h0 : ¬ wt_gf σ 108 5 = 0) : wt_H (wp_md_closes n x σ) (fun q => q = σ) := by
  unfold wp_md_closes
  rw [if_neg h0]
  exact wt_H_some rfl
theorem wh_numberN (n : Nat) {x1 x2 : Int32} {σ : wt_St} (h0 : ¬ wt_gf σ 108 5 = 0) : wt_H (wp_md_number n x1 x2 σ) (fun q => q = ((0 : Int32), σ)) := by
  unfold wp_md_number
  rw [if_neg h0]
  exact wt_H_some rfl
theorem wh_letterHereN (n : Nat) {σ : wt_St} (h0 : ¬ wt_gf σ 108 5 = 0) : wt_H (wp_md_letterHere n σ) (fun q => q = ((0 : Int32), σ)) := by
  unfold wp_md_letterHere
  rw [if_neg h0]
  exact wt_H_some rfl
set_option maxHeartbeats 4000000 in
theorem wh_letterHere (n : Nat) {β : Nat → Int32} {e k : Nat} {σ : wt_St} (h : wt_rv β e k σ) (h0 : wt_gf σ 108 5 = 0) : wt_H (wp_md_letterHere n σ) (fun q => ∃ j j2, wt_run β e wt_bl k j ∧ wt_run β e wt_sm j j2 ∧ ((j2 = j ∧ wt_frt q.2 1 j ∧ q.1 = 0) ∨ (j + 1 < j2 ∧ wt_frt q.2 2 j ∧ q.1 = 0) ∨ (j2 = j + 1 ∧ wt_rv β e j2 q.2 ∧ q.1.toInt = (β j).toInt - 97 ∧ wt_fr (fun i k => i = 108 ∧ k = 4) (fun _ => False) σ q.2))) := by
  have k0 : (0 : Int32).toInt = 0 := by decide
  have k1 : (1 : Int32).toInt = 1 := by decide
  have k97 : (97 : Int32).toInt = 97 := by decide
  unfold wp_md_letterHere
  rw [if_pos h0]
  refine wt_H_bh (wh_lettersHere n h) (fun a ha => ?_)
  obtain ⟨j, j2, r1, r2, rv, ea, fr⟩ := ha
  have h01 : wt_gf a.2 108 5 = 0 := (fr.1 108 5 (by (try dsimp only); omega)).trans h0
  have rv' := rv
  obtain ⟨t1, t2, t3, t4, t5⟩ := rv'
  have hj2 := wt_run_le r2 t4
  have hj := r2.1
  have W : ∀ (f : Nat) (y v : Int32), y.toInt = (f : Int) → 0 < f → wt_H ((wp_md_wrong n y (wt_gf a.2 108 4) a.2).bind fun q8 => wp_md_letterHere_B56 n a.1 v q8) (fun q => wt_frt q.2 f j ∧ q.1 = 0) := by
    intro f y v hy hf
    refine wt_H_bh (wh_wrong n h01 hy t3) (fun q hq => ?_)
    unfold wp_md_letterHere_B56
    obtain ⟨s1, ε1⟩ : ∃ o : wt_St, o = wt_sf q 108 4 ((wt_gf q 108 4) + a.1) := ⟨_, rfl⟩
    rw [← ε1]
    have f1 := wt_fr_sf ε1
    have hf1 : wt_frt s1 f j := ⟨by rw [f1.1 108 5 (by (try dsimp only); omega)]; exact hq.1.1, by rw [f1.1 108 6 (by (try dsimp only); omega)]; exact hq.1.2⟩
    rw [if_neg (wt_frt_nz hf1 hf)]
    exact wt_H_some ⟨hf1, rfl⟩
  have B : ∀ q3 : Int32 × wt_St, q3.2 = a.2 → (j < e → q3.1 = β j) → wt_H (if a.1 = 0 then (wp_md_wrong n (1 : Int32) (wt_gf q3.2 108 4) q3.2).bind fun q8 => wp_md_letterHere_B56 n a.1 (q3.1 - (97 : Int32)) q8 else if a.1 ≤ (1 : Int32) then wp_md_letterHere_B56 n a.1 (q3.1 - (97 : Int32)) q3.2 else (wp_md_wrong n (2 : Int32) (wt_gf q3.2 108 4) q3.2).bind fun q7 => wp_md_letterHere_B56 n a.1 (q3.1 - (97 : Int32)) q7) (fun q => ∃ j j2, wt_run β e wt_bl k j ∧ wt_run β e wt_sm j j2 ∧ ((j2 = j ∧ wt_frt q.2 1 j ∧ q.1 = 0) ∨ (j + 1 < j2 ∧ wt_frt q.2 2 j ∧ q.1 = 0) ∨ (j2 = j + 1 ∧ wt_rv β e j2 q.2 ∧ q.1.toInt = (β j).toInt - 97 ∧ wt_fr (fun i k => i = 108 ∧ k = 4) (fun _ => False) σ q.2))) := by
    intro q3 e3 v3
    rw [e3]
    refine wt_H_if (fun c => ?_) (fun c => ?_)
    · have c' := wt_ceq c
      exact (W 1 (1 : Int32) _ (by decide) (by omega)).imp (fun q hq => ⟨j, j2, r1, r2, Or.inl ⟨by omega, hq⟩⟩)
    · have c' := wt_nceq c
      refine wt_H_if (fun d => ?_) (fun d => ?_)
      · have d' := wt_cle d
        have e1 : a.1.toInt = 1 := by omega
        have hb := wt_sm_b r2 (Nat.le_refl j) (by omega)
        rw [v3 (by omega)]
        have es := wt_subE (x := β j) (y := (97 : Int32)) (by omega) (by omega)
        unfold wp_md_letterHere_B56
        have ei := wt_addE (x := wt_gf a.2 108 4) (y := a.1) (by omega) (by omega)
        obtain ⟨s1, ε1⟩ : ∃ o : wt_St, o = wt_sf a.2 108 4 ((wt_gf a.2 108 4) + a.1) := ⟨_, rfl⟩
        rw [← ε1]
        have f1 := wt_fr_sf ε1
        rw [if_pos ((f1.1 108 5 (by (try dsimp only); omega)).trans h01)]
        exact wt_H_some ⟨j, j2, r1, r2, Or.inr (Or.inr ⟨by omega, wt_rv_adv rv ε1 (by rw [ei, t3]; omega) hj2, (by omega : (β j - (97 : Int32)).toInt = (β j).toInt - 97), wt_fr.tr fr f1 (fun i k h => by (try dsimp only at h); omega) (fun i h => h)⟩)⟩
      · have d' := wt_ncle d
        exact (W 2 (2 : Int32) _ (by decide) (by omega)).imp (fun q hq => ⟨j, j2, r1, r2, Or.inr (Or.inl ⟨by omega, hq⟩)⟩)
  refine wt_H_bh (wh_byteAt n rv t3) (fun q hq => ?_)
  rcases hq with ⟨hq1, hq⟩ | ⟨hq1, hq⟩
  · exact B q (by rw [hq]) (fun z => by omega)
  · exact B q (by rw [hq]) (fun _ => by rw [hq])
/-- the word from j to j2 is spelled so -/
def wt_is (β : Nat → Int32) (j j2 : Nat) (bs : List Int32) : Prop := j2 = j + bs.length ∧ ∀ i, i < bs.length → β (j + i) = wt_ch bs (nI i)
set_option maxHeartbeats 4000000 in
theorem wh_wordIs (n : Nat) (hn : 4294967297 < n) {β : Nat → Int32} {e j j2 : Nat} {σ : wt_St} (bs : List Int32) (hb : bs.length < 100) (h : wt_tv β e j2 σ) (hj : j ≤ j2) (st : (wt_gf σ 1 5).toInt = (j : Int)) : wt_H (wp_tp_wordIs n bs σ) (fun q => (wt_is β j j2 bs ∧ q = ((1 : Int32), σ)) ∨ (¬ wt_is β j j2 bs ∧ q = ((0 : Int32), σ))) := by
  have k0 : (0 : Int32).toInt = 0 := by decide
  have h' := h
  obtain ⟨t1, t2, t3, t4, t5⟩ := h'
  have hl := nI_toInt (n := bs.length) (by omega)
  have es := wt_subE (x := wt_gf σ 1 4) (y := wt_gf σ 1 5) (by omega) (by omega)
  unfold wp_tp_wordIs wp_tp_wordLength
  show wt_H (if ((wt_gf σ 1 4) - (wt_gf σ 1 5)) = (nI bs.length) then wt_it (wp_tp_wordIs_B15 n bs) n ((0 : Int32), σ) else some ((0 : Int32), σ)) _
  refine wt_H_if (fun c => ?_) (fun c => wt_H_some (Or.inr ⟨fun z => c (wt_eqI (by rw [es, hl, t3, st, z.1]; omega)), rfl⟩))
  have c' := wt_ceq c
  rw [es, hl, t3, st] at c'
  refine wt_H_it (fun s : Int32 × wt_St => s.2 = σ ∧ ∃ i : Nat, i ≤ bs.length ∧ s.1.toInt = (i : Int) ∧ ∀ i', i' < i → β (j + i') = wt_ch bs (nI i')) (fun K s I hK => ?_) n _ ⟨rfl, 0, Nat.zero_le _, k0, fun i' h => absurd h (by omega)⟩
  obtain ⟨e2, i, i1, i2, i3⟩ := I
  unfold wp_tp_wordIs_B15
  rw [e2]
  refine wt_H_if (fun d => ?_) (fun d => ?_)
  · have d' := wt_cle d
    exact wt_H_some (Or.inl ⟨⟨by omega, fun i' h => i3 i' (by omega)⟩, rfl⟩)
  · have d' := wt_ncle d
    have ea := wt_addE (x := wt_gf σ 1 5) (y := s.1) (by omega) (by omega)
    refine wt_H_bh (wh_lookT n hn h (j := j + i) (by omega) (by omega)) (fun q hq => ?_)
    subst hq
    refine wt_H_gd (fun _ => ?_)
    have e1 : s.1 = nI i := wt_eqI (by rw [nI_toInt (by omega)]; exact i2)
    have ei := wt_i1 (c := s.1) (by omega)
    refine wt_H_if (fun f => ?_) (fun f => ?_)
    · refine hK _ ⟨rfl, i + 1, by omega, (show (s.1 + (1 : Int32)).toInt = ((i + 1 : Nat) : Int) by omega), fun i' h => ?_⟩
      by_cases hc : i' = i
      · rw [hc, ← e1]; exact f
      · exact i3 i' (by omega)
    · refine wt_H_some (Or.inr ⟨fun z => f ?_, rfl⟩)
      have := z.2 i (by omega)
      rw [← e1] at this
      exact this
/-- the number that a word is in the reference -/
def wt_b27 (β : Nat → Int32) (j : Nat) : Nat → Int
  | 0 => 0
  | m + 1 => 27 * wt_b27 β j m + ((β (j + m)).toInt - 96)
def wt_p27 : Nat → Int
  | 0 => 1
  | m + 1 => 27 * wt_p27 m
theorem wt_b27_bd {β : Nat → Int32} {j : Nat} : ∀ m, (∀ i, i < m → 97 ≤ (β (j + i)).toInt ∧ (β (j + i)).toInt ≤ 122) → 0 ≤ wt_b27 β j m ∧ wt_b27 β j m + 1 ≤ wt_p27 m := by
  intro m
  induction m with
  | zero => intro _; exact ⟨Int.le_refl _, Int.le_refl _⟩
  | succ m ih =>
    intro h
    have h1 := ih (fun i hi => h i (by omega))
    have h2 := h m (by omega)
    show 0 ≤ 27 * wt_b27 β j m + ((β (j + m)).toInt - 96) ∧ 27 * wt_b27 β j m + ((β (j + m)).toInt - 96) + 1 ≤ 27 * wt_p27 m
    omega
theorem wt_p27_le {m : Nat} (h : m ≤ 5) : wt_p27 m ≤ 14348907 := by
  have : m = 0 ∨ m = 1 ∨ m = 2 ∨ m = 3 ∨ m = 4 ∨ m = 5 := by omega
  rcases this with h | h | h | h | h | h <;> subst h <;> decide
theorem wt_b27_inj {β γ : Nat → Int32} {j g : Nat} : ∀ m m', (∀ i, i < m → 97 ≤ (β (j + i)).toInt ∧ (β (j + i)).toInt ≤ 122) → (∀ i, i < m' → 97 ≤ (γ (g + i)).toInt ∧ (γ (g + i)).toInt ≤ 122) → wt_b27 β j m = wt_b27 γ g m' → m = m' ∧ ∀ i, i < m → β (j + i) = γ (g + i) := by
  intro m
  induction m with
  | zero =>
    intro m' h h' he
    cases m' with
    | zero => exact ⟨rfl, fun i hi => absurd hi (by omega)⟩
    | succ m' =>
      exfalso
      have h1 := (wt_b27_bd m' (fun i hi => h' i (by omega))).1
      have h2 := h' m' (by omega)
      have he' : (0 : Int) = 27 * wt_b27 γ g m' + ((γ (g + m')).toInt - 96) := he
      omega
  | succ m ih =>
    intro m' h h' he
    cases m' with
    | zero =>
      exfalso
      have h1 := (wt_b27_bd m (fun i hi => h i (by omega))).1
      have h2 := h m (by omega)
      have he' : 27 * wt_b27 β j m + ((β (j + m)).toInt - 96) = 0 := he
      omega
    | succ m' =>
      have h2 := h m (by omega)
      have h3 := h' m' (by omega)
      have he' : 27 * wt_b27 β j m + ((β (j + m)).toInt - 96) = 27 * wt_b27 γ g m' + ((γ (g + m')).toInt - 96) := he
      have r := ih m' (fun i hi => h i (by omega)) (fun i hi => h' i (by omega)) (by omega)
      refine ⟨by omega, fun i hi => ?_⟩
      by_cases hc : i = m
      · rw [hc, wt_eqI (by omega : (β (j + m)).toInt = (γ (g + m')).toInt), r.1]
      · exact r.2 i (by omega)
set_option maxHeartbeats 4000000 in
theorem wh_isWord (n : Nat) {β : Nat → Int32} {e k : Nat} {σ : wt_St} {w : Int32} (bs : List Int32) (hb : bs.length < 7) (hbs : ∀ i, i < bs.length → 97 ≤ (wt_ch bs (nI i)).toInt ∧ (wt_ch bs (nI i)).toInt ≤ 122) (hw : wt_b27 (fun i => wt_ch bs (nI i)) 0 bs.length = w.toInt) (h : wt_rv β e k σ) (h0 : wt_gf σ 108 5 = 0) : wt_H (wp_md_isWord n w σ) (fun q => ∃ j j2, wt_run β e wt_bl k j ∧ wt_run β e wt_sm j j2 ∧ wt_rv β e j q.2 ∧ wt_fr (fun i k => i = 108 ∧ k = 4) (fun _ => False) σ q.2 ∧ ((wt_is β j j2 bs ∧ q.1 = 1) ∨ (¬ wt_is β j j2 bs ∧ q.1 = 0))) := by
  have k0 : (0 : Int32).toInt = 0 := by decide
  have k1 : (1 : Int32).toInt = 1 := by decide
  have k7 : (7 : Int32).toInt = 7 := by decide
  have k27 : (27 : Int32).toInt = 27 := by decide
  have k97 : (97 : Int32).toInt = 97 := by decide
  unfold wp_md_isWord
  refine wt_H_bh (wh_lettersHere n h) (fun a ha => ?_)
  obtain ⟨j, j2, r1, r2, rv, ea, fr⟩ := ha
  have h01 : wt_gf a.2 108 5 = 0 := (fr.1 108 5 (by (try dsimp only); omega)).trans h0
  have rv' := rv
  obtain ⟨t1, t2, t3, t4, t5⟩ := rv'
  have hj2 := wt_run_le r2 t4
  have hj := r2.1
  have hin : ∀ m, m ≤ j2 - j → ∀ i, i < m → 97 ≤ (β (j + i)).toInt ∧ (β (j + i)).toInt ≤ 122 := fun m hm i hi => wt_sm_b r2 (by omega) (by omega)
  refine wt_H_it (fun s : Int32 × Int32 × wt_St => s.2.2 = a.2 ∧ ∃ m : Nat, s.2.1.toInt = (m : Int) ∧ m ≤ j2 - j ∧ m ≤ 7 ∧ (j2 - j < 7 → s.1.toInt = wt_b27 β j m)) (fun K s I hK => ?_) n _ ⟨rfl, 0, k0, Nat.zero_le _, by omega, fun _ => k0⟩
  obtain ⟨es, m, i1, i2, i3, i4⟩ := I
  have E : m = j2 - j ∨ m = 7 → wt_H (wp_md_isWord_B51 n w a.1 s.1 s.2.2) (fun q => ∃ j j2, wt_run β e wt_bl k j ∧ wt_run β e wt_sm j j2 ∧ wt_rv β e j q.2 ∧ wt_fr (fun i k => i = 108 ∧ k = 4) (fun _ => False) σ q.2 ∧ ((wt_is β j j2 bs ∧ q.1 = 1) ∨ (¬ wt_is β j j2 bs ∧ q.1 = 0))) := by
    intro hm
    unfold wp_md_isWord_B51
    rw [es, if_pos h01]
    refine wt_H_if (fun c => ?_) (fun c => ?_)
    · have c' := wt_cle c
      exact wt_H_some ⟨j, j2, r1, r2, rv, fr, Or.inr ⟨fun z => by have := z.1; omega, rfl⟩⟩
    · have c' := wt_ncle c
      have hl : j2 - j < 7 := by omega
      have hmm : m = j2 - j := by omega
      have v := i4 hl
      refine wt_H_if (fun d => ?_) (fun d => ?_)
      · have d' := wt_ceq d
        have r := wt_b27_inj (γ := fun i => wt_ch bs (nI i)) (g := 0) m bs.length (hin m i2) (fun i hi => by rw [Nat.zero_add]; exact hbs i hi) (by omega)
        refine wt_H_some ⟨j, j2, r1, r2, rv, fr, Or.inl ⟨⟨by omega, fun i hi => ?_⟩, rfl⟩⟩
        have := r.2 i (by omega)
        rw [Nat.zero_add] at this
        exact this
      · refine wt_H_some ⟨j, j2, r1, r2, rv, fr, Or.inr ⟨fun z => d (wt_eqI ?_), rfl⟩⟩
        rw [v, ← hw, hmm, show j2 - j = bs.length by have := z.1; omega]
        have q : ∀ p, p ≤ bs.length → wt_b27 β j p = wt_b27 (fun i => wt_ch bs (nI i)) 0 p := by
          intro p
          induction p with
          | zero => intro _; rfl
          | succ p ih =>
            intro hp
            show 27 * wt_b27 β j p + ((β (j + p)).toInt - 96) = 27 * wt_b27 (fun i => wt_ch bs (nI i)) 0 p + ((wt_ch bs (nI (0 + p))).toInt - 96)
            rw [ih (by omega), z.2 p (by omega), Nat.zero_add]
        exact q _ (Nat.le_refl _)
  unfold wp_md_isWord_B10
  refine wt_H_if (fun c => E (Or.inl (by have := wt_cle c; omega))) (fun c => ?_)
  have c' := wt_ncle c
  refine wt_H_if (fun d => E (Or.inr (by have := wt_cle d; omega))) (fun d => ?_)
  have d' := wt_ncle d
  rw [es]
  have e4 := wt_addE (x := wt_gf a.2 108 4) (y := s.2.1) (by omega) (by omega)
  refine wt_H_bh (wh_byteAt n rv (j := j + m) (by omega)) (fun q hq => ?_)
  have hq2 : q = (β (j + m), a.2) := by
    rcases hq with ⟨z, -⟩ | ⟨-, z⟩
    · omega
    · exact z
  subst hq2
  have ei := wt_i1 (c := s.2.1) (by omega)
  refine hK _ ⟨rfl, m + 1, (show (s.2.1 + (1 : Int32)).toInt = ((m + 1 : Nat) : Int) by omega), by omega, by omega, fun hl => ?_⟩
  have v := i4 hl
  have bd := wt_b27_bd m (hin m i2)
  have p5 := wt_p27_le (m := m) (by omega)
  have hb2 := hin (m + 1) (by omega) m (by omega)
  have em := wt_mulL (y := s.1) k27 (by omega) (by omega)
  have e1 := wt_addE (x := (27 : Int32) * s.1) (y := β (j + m)) (by omega) (by omega)
  have e2 := wt_subE (x := ((27 : Int32) * s.1) + β (j + m)) (y := (97 : Int32)) (by omega) (by omega)
  have e3 := wt_addE (x := (((27 : Int32) * s.1) + β (j + m)) - (97 : Int32)) (y := (1 : Int32)) (by omega) (by omega)
  show ((((((27 : Int32) * s.1) + β (j + m)) - (97 : Int32)) + (1 : Int32))).toInt = 27 * wt_b27 β j m + ((β (j + m)).toInt - 96)
  omega
end WTQ5
-- 71g.clause.lean.txt
section WTQ6
theorem wt_HH_lb {α α' α'' β : Type} {x : Option α} {f : α → Option α'} {g : α' → Option α''} {p' : Option β} {P : α → Prop} {Q : α'' → β → Prop} (h : wt_H x P) (k : ∀ a, P a → wt_HH ((f a).bind g) p' Q) : wt_HH ((x.bind f).bind g) p' Q := by
  cases x with
  | none => exact wt_HH_nl
  | some a => exact k a (h a rfl)
theorem wt_HH_bb {α α' α'' β β' : Type} {x : Option α} {f : α → Option α'} {g : α' → Option α''} {y : Option β} {f' : β → Option β'} {P : α → β → Prop} {Q : α'' → β' → Prop} (h : wt_HH x y P) (k : ∀ a b, P a b → wt_HH ((f a).bind g) (f' b) Q) : wt_HH ((x.bind f).bind g) (y.bind f') Q := by
  cases x with
  | none => exact wt_HH_nl
  | some a =>
    cases y with
    | none => exact wt_HH_nr
    | some b => exact k a b (h a b rfl rfl)
theorem wt_HH_ilb {α α' β : Type} {c : Prop} [Decidable c] {A B : Option α} {g : α → Option α'} {p' : Option β} {Q : α' → β → Prop} (h1 : c → wt_HH (A.bind g) p' Q) (h2 : ¬ c → wt_HH (B.bind g) p' Q) : wt_HH ((if c then A else B).bind g) p' Q := by
  by_cases hc : c
  · rw [if_pos hc]; exact h1 hc
  · rw [if_neg hc]; exact h2 hc
/-! both sides read on, and what they have read stands alike -/
def wt_ft (s z : wt_St) : Prop := ∃ f p : Nat, 0 < f ∧ wt_flt s f p ∧ wt_frt z f p
def wt_ok (R : wt_St → wt_St → Prop) (β : Nat → Int32) (e : Nat) (s z : wt_St) : Prop := ∃ k, wt_tv β e k s ∧ wt_rv β e k z ∧ wt_gf z 108 5 = 0 ∧ R s z
/-- what reading alone doesn't touch -/
def wt_lxc (R : wt_St → wt_St → Prop) : Prop := ∀ s s' z z', R s z → wt_fr (fun i k => i = 1 ∧ (k = 4 ∨ k = 5)) (fun i => i = 3) s s' → wt_fr (fun i k => i = 108 ∧ k = 4) (fun _ => False) z z' → R s' z'
theorem wt_frw {F F2 : Nat → Nat → Prop} {A A2 : Nat → Prop} {σ σ1 : wt_St} (h : wt_fr F2 A2 σ σ1) (hF : ∀ i k, F2 i k → F i k) (hA : ∀ i, A2 i → A i) : wt_fr F A σ σ1 := wt_fr.tr wt_fr.rf h hF hA
set_option maxHeartbeats 4000000 in
theorem wr_letter (n : Nat) (hn : 4294967297 < n) {R : wt_St → wt_St → Prop} (hR : wt_lxc R) {β : Nat → Int32} {e : Nat} {s z : wt_St} (h : wt_ok R β e s z) : wt_HH (wp_tp_takeLetter n s) (wp_md_letterHere n z) (fun q y => (q.1 = -1 ∧ wt_ft q.2 y.2 ∧ y.1 = 0) ∨ (∃ l : Nat, l < 26 ∧ q.1.toInt = (l : Int) ∧ y.1 = q.1 ∧ wt_ok R β e q.2 y.2)) := by
  obtain ⟨k, tv, rv, h0, r⟩ := h
  refine wt_HH_of (wh_takeLetter n hn tv) (wh_letterHere n rv h0) (fun q y hq hy => ?_)
  obtain ⟨j, j2, r1, r2, tv', hc⟩ := hq
  obtain ⟨j', j2', r1', r2', hc'⟩ := hy
  have e1 : j' = j := wt_run_u r1' r1
  rw [e1] at r2' hc'
  have e2 : j2' = j2 := wt_run_u r2' r2
  rw [e2] at hc'
  have hj := r2.1
  rcases hc with ⟨a1, a2, a3⟩ | ⟨a1, a2, a3⟩ | ⟨a1, a2, a3⟩
  · rcases hc' with ⟨b1, b2, b3⟩ | ⟨b1, b2, b3⟩ | ⟨b1, b2, b3, b4⟩
    · exact Or.inl ⟨a2, ⟨1, j, by omega, a3, b2⟩, b3⟩
    · omega
    · omega
  · rcases hc' with ⟨b1, b2, b3⟩ | ⟨b1, b2, b3⟩ | ⟨b1, b2, b3, b4⟩
    · omega
    · exact Or.inl ⟨a2, ⟨2, j, by omega, a3, b2⟩, b3⟩
    · omega
  · rcases hc' with ⟨b1, b2, b3⟩ | ⟨b1, b2, b3⟩ | ⟨b1, b2, b3, b4⟩
    · omega
    · omega
    · have hb := wt_sm_b r2 (Nat.le_refl j) (by omega)
      exact Or.inr ⟨((β j).toInt - 97).toNat, by omega, by omega, wt_eqI (by omega), j2, tv', b2, (b4.1 108 5 (by (try dsimp only); omega)).trans h0, hR _ _ _ _ r a3 b4⟩
set_option maxHeartbeats 4000000 in
theorem wr_number (n : Nat) (hn : 4294967297 < n) {R : wt_St → wt_St → Prop} (hR : wt_lxc R) {β : Nat → Int32} {e : Nat} {s z : wt_St} {x1 x2 : Int32} (h : wt_ok R β e s z) (hlo : 0 ≤ x1.toInt) (hhi : x2.toInt ≤ 1000) : wt_HH (wp_tp_takeNumber n x1 x2 s) (wp_md_number n x1 x2 z) (fun q y => (q.1 = -1 ∧ wt_ft q.2 y.2) ∨ (x1.toInt ≤ q.1.toInt ∧ q.1.toInt ≤ x2.toInt ∧ y.1 = q.1 ∧ wt_ok R β e q.2 y.2)) := by
  obtain ⟨k, tv, rv, h0, r⟩ := h
  refine wt_HH_of (wh_takeNumber n hn tv hlo hhi) (wh_number n rv h0 hlo hhi) (fun q y hq hy => ?_)
  obtain ⟨j, j2, r1, r2, tv', hc⟩ := hq
  obtain ⟨j', j2', r1', r2', rv', hc'⟩ := hy
  have e1 : j' = j := wt_run_u r1' r1
  rw [e1] at r2' hc'
  have e2 : j2' = j2 := wt_run_u r2' r2
  rw [e2] at hc' rv'
  have hj := r2.1
  rcases hc with ⟨a1, a2, a3, a4⟩ | ⟨a1, a2, a3, a4, a5⟩ | ⟨a1, a2, a3, a4, a5⟩
  · rcases hc' with ⟨b1, b2, b3⟩ | ⟨b1, b2, b3, b4⟩ | ⟨b1, b2, b3, b4, b5⟩
    · exact Or.inl ⟨a2, 1, j, by omega, a3, b2⟩
    · omega
    · omega
  · rcases hc' with ⟨b1, b2, b3⟩ | ⟨b1, b2, b3, b4⟩ | ⟨b1, b2, b3, b4, b5⟩
    · omega
    · exact Or.inl ⟨a3, 2, j, by omega, a4, b3⟩
    · omega
  · rcases hc' with ⟨b1, b2, b3⟩ | ⟨b1, b2, b3, b4⟩ | ⟨b1, b2, b3, b4, b5⟩
    · omega
    · omega
    · exact Or.inr ⟨by omega, by omega, wt_eqI (by omega), j2, tv', rv', (b5.1 108 5 (by (try dsimp only); omega)).trans h0, hR _ _ _ _ r (wt_frw a5 (fun i k h => h) (fun i h => h.elim)) b5⟩
set_option maxHeartbeats 4000000 in
theorem wr_need (n : Nat) (hn : 4294967297 < n) {R : wt_St → wt_St → Prop} (hR : wt_lxc R) {β : Nat → Int32} {e : Nat} {s z : wt_St} {x : Int32} (hx : 0 ≤ x.toInt) (h : wt_ok R β e s z) : wt_HH (wp_tp_needSign n x s) (wp_md_closes n x z) (fun q y => (q.1 = 0 ∧ wt_ft q.2 y) ∨ (q.1 = 1 ∧ wt_ok R β e q.2 y)) := by
  obtain ⟨k, tv, rv, h0, r⟩ := h
  refine wt_HH_of (wh_needSign n hn x tv) (wh_closes n rv h0 hx) (fun q y hq hy => ?_)
  obtain ⟨j, r1, hc⟩ := hq
  obtain ⟨j', r1', hc'⟩ := hy
  have e1 : j' = j := wt_run_u r1' r1
  rw [e1] at hc'
  rcases hc with ⟨a1, a2, a3, a4, a5⟩ | ⟨a1, a2, a3⟩
  · rcases hc' with ⟨b1, b2, b3, b4⟩ | ⟨b1, b2⟩
    · exact Or.inr ⟨a1, j + 1, a4, b3, (b4.1 108 5 (by (try dsimp only); omega)).trans h0, hR _ _ _ _ r (wt_frw a5 (fun i k h => h) (fun i h => h.elim)) b4⟩
    · exact absurd ⟨a2, a3⟩ b1
  · rcases hc' with ⟨b1, b2, b3, b4⟩ | ⟨b1, b2⟩
    · exact absurd ⟨b1, b2⟩ a2
    · exact Or.inl ⟨a1, 1, j, by omega, a3, b2⟩
/-! the tables of a case that is read -/
def wt_pr (s z : wt_St) (pc pp rm rl : Nat) : Prop := ∀ l : Nat, l < 26 → wt_ga s pc l = wt_ga z rm l ∧ 0 ≤ (wt_ga s pc l).toInt ∧ (wt_ga s pc l).toInt ≤ 12 ∧ ∀ i : Nat, (i : Int) < (wt_ga s pc l).toInt → wt_ga s pp (12 * l + i) = wt_ga z rl (13 * l + i)
def wt_lr (c : Int32) (s z : wt_St) : Prop := wt_pr s z 13 14 110 120 ∧ wt_pr s z 15 16 112 122 ∧ (∀ l, l < 26 → wt_ga s 17 l = wt_ga z 114 l) ∧ (∀ l, l < 26 → wt_ga s 18 l = wt_ga z 116 l) ∧ (∀ m, m < 4 → wt_ga s 19 m = wt_ga z 118 m) ∧ wt_gf s 12 7 = wt_gf z 108 24 ∧ wt_gf z 108 7 = c ∧ wt_gf s 1 7 = wt_gf z 108 6
theorem wt_pr_fr {s s' z z' : wt_St} {F F' : Nat → Nat → Prop} {A A' : Nat → Prop} {pc pp rm rl : Nat} (h : wt_pr s z pc pp rm rl) (f : wt_fr F A s s') (g : wt_fr F' A' z z') (h1 : ¬ A pc) (h2 : ¬ A pp) (h3 : ¬ A' rm) (h4 : ¬ A' rl) : wt_pr s' z' pc pp rm rl := fun l hl => by
  rw [f.2 pc h1, g.2 rm h3]
  obtain ⟨a, b, c, d⟩ := h l hl
  exact ⟨a, b, c, fun i hi => by rw [f.2 pp h2, g.2 rl h4]; exact d i hi⟩
theorem wt_lr_lxc {c : Int32} : wt_lxc (wt_lr c) := fun s s' z z' h f g => by
  obtain ⟨a1, a2, a3, a4, a5, a6, a7⟩ := h
  refine ⟨wt_pr_fr a1 f g (by decide) (by decide) (fun h => h) (fun h => h), wt_pr_fr a2 f g (by decide) (by decide) (fun h => h) (fun h => h), fun l hl => ?_, fun l hl => ?_, fun l hl => ?_, ?_, (g.1 108 7 (by (try dsimp only); omega)).trans a7.1, by rw [f.1 1 7 (by (try dsimp only); omega), g.1 108 6 (by (try dsimp only); omega)]; exact a7.2⟩
  · rw [f.2 17 (by decide), g.2 114 (fun h => h)]; exact a3 l hl
  · rw [f.2 18 (by decide), g.2 116 (fun h => h)]; exact a4 l hl
  · rw [f.2 19 (by decide), g.2 118 (fun h => h)]; exact a5 l hl
  · rw [f.1 12 7 (by (try dsimp only); omega), g.1 108 24 (by (try dsimp only); omega)]; exact a6
theorem wt_lr_lxc2 {c : Int32} {a l : Nat} (v : Int32) (ha : a ≠ 3) : wt_lxc (fun s z => wt_lr c s z ∧ wt_ga s a l = v) := fun s s' z z' h f g => ⟨wt_lr_lxc s s' z z' h.1 f g, (f.2 a ha l).trans h.2⟩
theorem wt_ok_imp {R R' : wt_St → wt_St → Prop} {β : Nat → Int32} {e : Nat} {s z : wt_St} (h : wt_ok R β e s z) (k : R s z → R' s z) : wt_ok R' β e s z := by
  obtain ⟨j, a, b, c, d⟩ := h
  exact ⟨j, a, b, c, k d⟩
set_option maxHeartbeats 4000000 in
/-- the pieces of a letter are laid into the rows of the class -/
theorem wh_fpLoop (n : Nat) {a1 a2 l m p : Nat} {x3 x4 x5 x6 : Int32} {s : wt_St} (h1 : wt_ln a1 = 26) (h2 : wt_ln a2 = 312) (h12 : a1 ≠ a2) (hl : l < 26) (e3 : x3.toInt = (l : Int)) (e4 : x4.toInt = (m : Int)) (e5 : x5.toInt = (p : Int)) (hm : m + p ≤ 12) : wt_H (wt_it (wp_ld_fillPieces_B61 n a1 a2 x3 x4 x5 x6) n (x4, s)) (fun q => q.1 = 1 ∧ wt_fr (fun _ _ => False) (fun i => i = a1 ∨ i = a2) s q.2 ∧ (wt_ga q.2 a1 l).toInt = ((m + p : Nat) : Int) ∧ (∀ l', l' ≠ l → wt_ga q.2 a1 l' = wt_ga s a1 l') ∧ (∀ i, m ≤ i → i < m + p → wt_ga q.2 a2 (12 * l + i) = x6) ∧ (∀ j, j < 12 * l + m ∨ 12 * l + m + p ≤ j → wt_ga q.2 a2 j = wt_ga s a2 j)) := by
  have k12 : (12 : Int32).toInt = 12 := by decide
  have ea := wt_addE (x := x4) (y := x5) (by omega) (by omega)
  have em := wt_mulR (x := x3) k12 (by omega) (by omega)
  refine wt_H_it (fun t : Int32 × wt_St => ∃ c : Nat, m ≤ c ∧ c ≤ m + p ∧ t.1.toInt = (c : Int) ∧ wt_fr (fun _ _ => False) (fun i => i = a2) s t.2 ∧ (∀ i, m ≤ i → i < c → wt_ga t.2 a2 (12 * l + i) = x6) ∧ (∀ j, j < 12 * l + m ∨ 12 * l + c ≤ j → wt_ga t.2 a2 j = wt_ga s a2 j)) (fun K t I hK => ?_) n _ ⟨m, Nat.le_refl _, by omega, e4, wt_fr.rf, fun i a b => absurd a (by omega), fun j _ => rfl⟩
  obtain ⟨c, c1, c2, c3, f, c4, c5⟩ := I
  unfold wp_ld_fillPieces_B61
  refine wt_H_if (fun d => ?_) (fun d => ?_)
  · have d' := wt_cle d
    refine wt_H_bh (wh_put n (k := l) e3 (by rw [h1]; exact hl)) (fun q hq => ?_)
    have fq := wt_fr_sa hq
    refine wt_H_some ⟨rfl, wt_fr.tr (wt_frw f (fun i k h => h) (fun i h => Or.inr h)) fq (fun i k h => h) (fun i h => Or.inl h), ?_, fun l' hl' => ?_, fun i a b => ?_, fun j hj => ?_⟩
    · show (wt_ga q a1 l).toInt = _
      rw [wt_v_sa hq]
      omega
    · show wt_ga q a1 l' = wt_ga s a1 l'
      rw [wt_w_sa hq l' hl', f.2 a1 h12]
    · show wt_ga q a2 (12 * l + i) = x6
      rw [fq.2 a2 (fun h => h12 h.symm)]
      exact c4 i a (by omega)
    · show wt_ga q a2 j = wt_ga s a2 j
      rw [fq.2 a2 (fun h => h12 h.symm)]
      exact c5 j (by omega)
  · have d' := wt_ncle d
    have e6 := wt_addE (x := x3 * (12 : Int32)) (y := t.1) (by omega) (by omega)
    have ei := wt_i1 (c := t.1) (by omega)
    refine wt_H_bh (wh_put n (k := 12 * l + c) (by omega) (by rw [h2]; omega)) (fun q hq => ?_)
    have fq := wt_fr_sa hq
    refine hK _ ⟨c + 1, by omega, by omega, (show (t.1 + (1 : Int32)).toInt = ((c + 1 : Nat) : Int) by omega), wt_fr.tr f fq (fun i k h => h) (fun i h => h), fun i a b => ?_, fun j hj => ?_⟩
    · show wt_ga q a2 (12 * l + i) = x6
      by_cases hc : 12 * l + i = 12 * l + c
      · rw [hc, wt_v_sa hq]
      · rw [wt_w_sa hq _ hc]
        exact c4 i a (by omega)
    · show wt_ga q a2 j = wt_ga s a2 j
      rw [wt_w_sa hq j (by omega)]
      exact c5 j (by omega)
set_option maxHeartbeats 4000000 in
/-- and into those of the reference -/
theorem wh_mpLoop (n : Nat) {a1 a2 l m p : Nat} {x3 x4 x5 : Int32} {s : wt_St} (h12 : a1 ≠ a2) (hl : l < 26) (e3 : x3.toInt = (l : Int)) (em : (wt_ga s a1 l).toInt = (m : Int)) (e4 : x4.toInt = (p : Int)) (hm : m + p ≤ 12) (h0 : wt_gf s 108 5 = 0) : wt_H (wt_it (wp_md_pieces_B31 n a1 a2 x3 x4 x5) n ((0 : Int32), s)) (fun q => wt_fr (fun _ _ => False) (fun i => i = a1 ∨ i = a2) s q ∧ (wt_ga q a1 l).toInt = ((m + p : Nat) : Int) ∧ (∀ l', l' ≠ l → wt_ga q a1 l' = wt_ga s a1 l') ∧ (∀ i, m ≤ i → i < m + p → wt_ga q a2 (13 * l + i) = x5) ∧ (∀ j, j < 13 * l + m ∨ 13 * l + m + p ≤ j → wt_ga q a2 j = wt_ga s a2 j)) := by
  have k0 : (0 : Int32).toInt = 0 := by decide
  have k13 : (13 : Int32).toInt = 13 := by decide
  have e13 := wt_mulL (y := x3) k13 (by omega) (by omega)
  refine wt_H_it (fun t : Int32 × wt_St => ∃ c : Nat, c ≤ p ∧ t.1.toInt = (c : Int) ∧ wt_fr (fun _ _ => False) (fun i => i = a1 ∨ i = a2) s t.2 ∧ (wt_ga t.2 a1 l).toInt = ((m + c : Nat) : Int) ∧ (∀ l', l' ≠ l → wt_ga t.2 a1 l' = wt_ga s a1 l') ∧ (∀ i, m ≤ i → i < m + c → wt_ga t.2 a2 (13 * l + i) = x5) ∧ (∀ j, j < 13 * l + m ∨ 13 * l + m + c ≤ j → wt_ga t.2 a2 j = wt_ga s a2 j)) (fun K t I hK => ?_) n _ ⟨0, Nat.zero_le _, k0, wt_fr.rf, by omega, fun l' _ => rfl, fun i a b => absurd a (by omega), fun j _ => rfl⟩
  obtain ⟨c, c1, c2, f, c3, c4, c5, c6⟩ := I
  unfold wp_md_pieces_B31
  refine wt_H_if (fun d => ?_) (fun d => ?_)
  · have d' := wt_cle d
    have ec : c = p := by omega
    subst ec
    exact wt_H_some ⟨f, c3, c4, c5, c6⟩
  · have d' := wt_ncle d
    rw [if_pos ((f.1 108 5 (fun h => h)).trans h0), wt_tnN e3]
    refine wt_H_gd (fun _ => ?_)
    unfold wp_md_cell
    have ea := wt_addE (x := (13 : Int32) * x3) (y := wt_ga t.2 a1 l) (by omega) (by omega)
    have ei := wt_i1 (c := t.1) (by omega)
    show wt_H (if (((13 : Int32) * x3) + wt_ga t.2 a1 l) < 0 ∨ (wt_ln a2) ≤ Int32.toNatClampNeg (((13 : Int32) * x3) + wt_ga t.2 a1 l) then none else if x3 < 0 ∨ (wt_ln a1) ≤ l then none else if x3 < 0 ∨ (wt_ln a1) ≤ l then none else K ((t.1 + (1 : Int32)), (wt_sa (wt_sa t.2 a2 (Int32.toNatClampNeg (((13 : Int32) * x3) + wt_ga t.2 a1 l)) x5) a1 l ((wt_ga (wt_sa t.2 a2 (Int32.toNatClampNeg (((13 : Int32) * x3) + wt_ga t.2 a1 l)) x5) a1 l) + (1 : Int32))))) _
    refine wt_H_gd (fun _ => ?_)
    refine wt_H_gd (fun _ => ?_)
    refine wt_H_gd (fun _ => ?_)
    rw [wt_tnN (m := 13 * l + (m + c)) (by omega)]
    obtain ⟨s1, ε1⟩ : ∃ o : wt_St, o = wt_sa t.2 a2 (13 * l + (m + c)) x5 := ⟨_, rfl⟩
    rw [← ε1]
    have f1 := wt_fr_sa ε1
    have eq1 : wt_ga s1 a1 l = wt_ga t.2 a1 l := f1.2 a1 h12 l
    rw [eq1]
    have e7 := wt_i1 (c := wt_ga t.2 a1 l) (by omega)
    obtain ⟨s2, ε2⟩ : ∃ o : wt_St, o = wt_sa s1 a1 l ((wt_ga t.2 a1 l) + (1 : Int32)) := ⟨_, rfl⟩
    rw [← ε2]
    have f2 := wt_fr_sa ε2
    refine hK _ ⟨c + 1, by omega, (show (t.1 + (1 : Int32)).toInt = ((c + 1 : Nat) : Int) by omega), wt_fr.tr (wt_fr.tr f f1 (fun i k h => h) (fun i h => Or.inr h)) f2 (fun i k h => h) (fun i h => Or.inl h), ?_, fun l' hl' => ?_, fun i a b => ?_, fun j hj => ?_⟩
    · show (wt_ga s2 a1 l).toInt = _
      rw [wt_v_sa ε2, e7]
      omega
    · show wt_ga s2 a1 l' = wt_ga s a1 l'
      rw [wt_w_sa ε2 l' hl', f1.2 a1 h12]
      exact c4 l' hl'
    · show wt_ga s2 a2 (13 * l + i) = x5
      rw [f2.2 a2 (fun h => h12 h.symm)]
      by_cases hc : 13 * l + i = 13 * l + (m + c)
      · rw [hc, wt_v_sa ε1]
      · rw [wt_w_sa ε1 _ hc]
        exact c5 i a (by omega)
    · show wt_ga s2 a2 j = wt_ga s a2 j
      rw [f2.2 a2 (fun h => h12 h.symm), wt_w_sa ε1 j (by omega)]
      exact c6 j (by omega)
theorem wh_mpLoopN (n : Nat) {a1 a2 : Nat} {x3 x5 : Int32} {s : wt_St} : wt_H (wt_it (wp_md_pieces_B31 n a1 a2 x3 (0 : Int32) x5) n ((0 : Int32), s)) (fun q => q = s) := by
  refine wt_H_it (fun t : Int32 × wt_St => t.1 = 0 ∧ t.2 = s) (fun K t I hK => ?_) n _ ⟨rfl, rfl⟩
  unfold wp_md_pieces_B31
  rw [I.1, if_pos (by decide), I.2]
  exact wt_H_some rfl
theorem wt_ft_nz {s z : wt_St} (h : wt_ft s z) : ¬ wt_gf z 108 5 = 0 := by
  obtain ⟨f, p, h1, -, h2⟩ := h
  exact wt_frt_nz h2 h1
/-- pieces that both sides lay alike -/
theorem wt_pr_set {s s' z z' : wt_St} {pc pp rm rl l m p : Nat} {x : Int32} (h : wt_pr s z pc pp rm rl) (hl : l < 26) (em : (wt_ga s pc l).toInt = (m : Int)) (hm : m + p ≤ 12) (a3 : (wt_ga s' pc l).toInt = ((m + p : Nat) : Int)) (a4 : ∀ l', l' ≠ l → wt_ga s' pc l' = wt_ga s pc l') (a5 : ∀ i, m ≤ i → i < m + p → wt_ga s' pp (12 * l + i) = x) (a6 : ∀ j, j < 12 * l + m ∨ 12 * l + m + p ≤ j → wt_ga s' pp j = wt_ga s pp j) (b3 : (wt_ga z' rm l).toInt = ((m + p : Nat) : Int)) (b4 : ∀ l', l' ≠ l → wt_ga z' rm l' = wt_ga z rm l') (b5 : ∀ i, m ≤ i → i < m + p → wt_ga z' rl (13 * l + i) = x) (b6 : ∀ j, j < 13 * l + m ∨ 13 * l + m + p ≤ j → wt_ga z' rl j = wt_ga z rl j) : wt_pr s' z' pc pp rm rl := fun l' hl' => by
  obtain ⟨c1, c2, c3, c4⟩ := h l' hl'
  by_cases hc : l' = l
  · subst hc
    refine ⟨wt_eqI (by omega), by omega, by omega, fun i hi => ?_⟩
    by_cases hi2 : i < m
    · rw [a6 _ (by omega), b6 _ (by omega)]
      exact c4 i (by omega)
    · rw [a5 i (by omega) (by omega), b5 i (by omega) (by omega)]
  · rw [a4 l' hc, b4 l' hc]
    refine ⟨c1, c2, c3, fun i hi => ?_⟩
    rw [a6 _ (by omega), b6 _ (by omega)]
    exact c4 i hi
set_option maxHeartbeats 4000000 in
theorem wr_pieces (n : Nat) (hn : 4294967297 < n) {c : Int32} {β : Nat → Int32} {e : Nat} {s z : wt_St} (a1 a2 e1 e2 : Nat) (hc : (a1 = 13 ∧ a2 = 14 ∧ e1 = 110 ∧ e2 = 120) ∨ (a1 = 15 ∧ a2 = 16 ∧ e1 = 112 ∧ e2 = 122)) (h : wt_ok (wt_lr c) β e s z) : wt_HH (wp_ld_fillPieces n a1 a2 s) (wp_md_pieces n e1 e2 z) (fun q y => (q.1 = 0 ∧ wt_ft q.2 y) ∨ (q.1 = 1 ∧ wt_ok (wt_lr c) β e q.2 y)) := by
  have k1 : (1 : Int32).toInt = 1 := by decide
  have k12 : (12 : Int32).toInt = 12 := by decide
  have k400 : (400 : Int32).toInt = 400 := by decide
  have l1 : wt_ln a1 = 26 := by rcases hc with ⟨h, -⟩ | ⟨h, -⟩ <;> subst h <;> decide
  have l2 : wt_ln a2 = 312 := by rcases hc with ⟨-, h, -⟩ | ⟨-, h, -⟩ <;> subst h <;> decide
  have pr : ∀ {s z : wt_St}, wt_lr c s z → wt_pr s z a1 a2 e1 e2 := by
    intro s z h
    rcases hc with ⟨c1, c2, c3, c4⟩ | ⟨c1, c2, c3, c4⟩
    · rw [c1, c2, c3, c4]; exact h.1
    · rw [c1, c2, c3, c4]; exact h.2.1
  unfold wp_ld_fillPieces wp_md_pieces
  refine wt_HH_b (wr_letter n hn wt_lr_lxc h) (fun q1 y1 p1 => ?_)
  rcases p1 with ⟨p1, p2, p3⟩ | ⟨l, l26, ql, yl, ok1⟩
  · rw [if_pos p1]
    have nz := wt_ft_nz p2
    refine wt_HH_of (P := fun q => q = ((0 : Int32), q1.2)) (P' := fun y => y = y1.2) (wt_H_some rfl) ?_ (fun a b ha hb => Or.inl ⟨by rw [ha], by rw [ha, hb]; exact p2⟩)
    refine wt_H_gd (fun _ => ?_)
    refine wt_H_bh (wh_numberN n nz) (fun q3 h3 => ?_)
    subst h3
    refine wt_H_bh (wh_numberN n nz) (fun q4 h4 => ?_)
    subst h4
    exact wh_mpLoopN n
  · rw [if_neg (fun c => by have := wt_ceq c; rw [wt_lm1] at this; omega)]
    refine wt_HH_l (wh_look n hn ql (by rw [l1]; exact l26)) (fun q3 h3 => ?_)
    subst h3
    dsimp only
    obtain ⟨pm1, pm2, pm3, -⟩ := pr ok1.choose_spec.2.2.2 l l26
    rw [yl, wt_tnN ql, ← pm1]
    refine wt_HH_gr (fun _ => ?_)
    have es := wt_subE (x := (12 : Int32)) (y := wt_ga q1.2 a1 l) (by omega) (by omega)
    have ha3 : a1 ≠ 3 := by omega
    have ok1' : wt_ok (fun s z => wt_lr c s z ∧ wt_ga s a1 l = wt_ga q1.2 a1 l) β e q1.2 y1.2 := wt_ok_imp ok1 (fun r => ⟨r, rfl⟩)
    refine wt_HH_b (wr_number n hn (wt_lr_lxc2 _ ha3) ok1' (by omega) (by omega)) (fun q4 y4 p4 => ?_)
    rcases p4 with ⟨p4, p5⟩ | ⟨p4, p5, p6, ok4⟩
    · rw [if_pos p4]
      -- the reference's first number answers 0 where it fails
      have nz := wt_ft_nz p5
      refine wt_HH_of (P := fun a => a = ((0 : Int32), q4.2)) (P' := fun b => wt_frt b (p5.choose) (p5.choose_spec.choose)) (wt_H_some rfl) ?_ (fun a b ha hb => Or.inl ⟨by rw [ha], ?_⟩)
      · refine wt_H_bh (wh_numberN n nz) (fun q5 h5 => ?_)
        subst h5
        refine wt_H_it (fun t : Int32 × wt_St => t.2 = y4.2) (fun K t I hK => ?_) n _ rfl
        unfold wp_md_pieces_B31
        rw [I]
        refine wt_H_if (fun _ => wt_H_some p5.choose_spec.choose_spec.2.2) (fun _ => ?_)
        rw [if_neg nz]
        exact wt_H_some p5.choose_spec.choose_spec.2.2
      · rw [ha]
        exact ⟨_, _, p5.choose_spec.choose_spec.1, p5.choose_spec.choose_spec.2.1, hb⟩
    · rw [if_neg (fun c => by have := wt_ceq c; rw [wt_lm1] at this; omega), p6]
      refine wt_HH_b (wr_number n hn (wt_lr_lxc2 _ ha3) ok4 (by omega) (by omega)) (fun q6 y6 p7 => ?_)
      rcases p7 with ⟨p7, p8⟩ | ⟨p7, p8, p9, ok6⟩
      · rw [if_pos p7]
        have nz := wt_ft_nz p8
        refine wt_HH_of (P := fun a => a = ((0 : Int32), q6.2)) (P' := fun b => b = y6.2) (wt_H_some rfl) ?_ (fun a b ha hb => Or.inl ⟨by rw [ha], by rw [ha, hb]; exact p8⟩)
        refine wt_H_it (fun t : Int32 × wt_St => t.2 = y6.2) (fun K t I hK => ?_) n _ rfl
        unfold wp_md_pieces_B31
        rw [I]
        refine wt_H_if (fun _ => wt_H_some rfl) (fun _ => ?_)
        rw [if_neg nz]
        exact wt_H_some rfl
      · rw [if_neg (fun c => by have := wt_ceq c; rw [wt_lm1] at this; omega), p9]
        obtain ⟨k6, tv6, rv6, h06, lr6, v6⟩ := ok6
        obtain ⟨pn1, pn2, pn3, -⟩ := pr lr6 l l26
        have hm0 := wt_tnI pm2
        refine wt_HH_of (wh_fpLoop n (l := l) (m := Int32.toNatClampNeg (wt_ga q1.2 a1 l)) (p := Int32.toNatClampNeg q4.1) l1 l2 (by omega) l26 ql (by omega) (by have := wt_tnI (x := q4.1) (by omega); omega) (by have := wt_tnI (x := q4.1) (by omega); omega)) (wh_mpLoop n (l := l) (m := Int32.toNatClampNeg (wt_ga q1.2 a1 l)) (p := Int32.toNatClampNeg q4.1) (by omega) l26 ql (by rw [← pn1, v6]; omega) (by have := wt_tnI (x := q4.1) (by omega); omega) (by have := wt_tnI (x := q4.1) (by omega); omega) h06) (fun a b ha hb => Or.inr ⟨ha.1, ?_⟩)
        obtain ⟨-, fa, a3, a4, a5, a6⟩ := ha
        obtain ⟨fb, b3, b4, b5, b6⟩ := hb
        have hp0 := wt_tnI (x := q4.1) (by omega)
        have prn : wt_pr a.2 b a1 a2 e1 e2 := wt_pr_set (pr lr6) l26 (by rw [v6]; omega) (by omega) a3 a4 a5 a6 b3 b4 b5 b6
        obtain ⟨c1, c2, c3, c4, c5, c6, c7⟩ := lr6
        refine ⟨k6, wt_tv_fr tv6 fa (by (try dsimp only); omega) (fun h => h) (fun h => h), wt_rv_fr rv6 fb (by (try dsimp only); omega) (fun h => h) (fun h => h), (fb.1 108 5 (fun h => h)).trans h06, ?_, ?_, fun i hi => ?_, fun i hi => ?_, fun i hi => ?_, ?_, (fb.1 108 7 (fun h => h)).trans c7.1, by rw [fa.1 1 7 (fun h => h), fb.1 108 6 (fun h => h)]; exact c7.2⟩
        · rcases hc with ⟨d1, d2, d3, d4⟩ | ⟨d1, d2, d3, d4⟩
          · rw [d1, d2, d3, d4] at prn; exact prn
          · exact wt_pr_fr c1 fa fb (by (try dsimp only); omega) (by (try dsimp only); omega) (by (try dsimp only); omega) (by (try dsimp only); omega)
        · rcases hc with ⟨d1, d2, d3, d4⟩ | ⟨d1, d2, d3, d4⟩
          · exact wt_pr_fr c2 fa fb (by (try dsimp only); omega) (by (try dsimp only); omega) (by (try dsimp only); omega) (by (try dsimp only); omega)
          · rw [d1, d2, d3, d4] at prn; exact prn
        · rw [fa.2 17 (by (try dsimp only); omega), fb.2 114 (by (try dsimp only); omega)]; exact c3 i hi
        · rw [fa.2 18 (by (try dsimp only); omega), fb.2 116 (by (try dsimp only); omega)]; exact c4 i hi
        · rw [fa.2 19 (by (try dsimp only); omega), fb.2 118 (by (try dsimp only); omega)]; exact c5 i hi
        · rw [fa.1 12 7 (fun h => h), fb.1 108 24 (fun h => h)]; exact c6
end WTQ6
-- 71h.claus2.lean.txt
section WTQ7
/-! what a clause may be -/
abbrev wt_w0 : List Int32 := [108, 101, 116, 116, 101, 114]
abbrev wt_w1 : List Int32 := [116, 104, 101, 114, 101]
abbrev wt_w2 : List Int32 := [112, 114, 105, 99, 101]
abbrev wt_w3 : List Int32 := [102, 97, 105, 110, 116]
abbrev wt_w4 : List Int32 := [108, 105, 107, 101]
abbrev wt_w5 : List Int32 := [102, 111, 108, 108, 111, 119]
theorem wh_six0 (n : Nat) {σ : wt_St} : wt_H (wp_md_six n (12 : Int32) (5 : Int32) (20 : Int32) (20 : Int32) (5 : Int32) (18 : Int32) σ) (fun q => q = ((175252482 : Int32), σ)) := by
  unfold wp_md_six wp_md_six_B36
  rw [if_neg (by decide), if_neg (by decide)]
  exact wt_H_some (congrArg (fun v => (v, σ)) (by decide : (27 * (27 * (27 * (27 * (27 * 12 + 5) + 20) + 20) + 5) + 18 : Int32) = 175252482))
theorem wh_six1 (n : Nat) {σ : wt_St} : wt_H (wp_md_six n (20 : Int32) (8 : Int32) (5 : Int32) (18 : Int32) (5 : Int32) (0 : Int32) σ) (fun q => q = ((10790420 : Int32), σ)) := by
  unfold wp_md_six wp_md_six_B36
  rw [if_neg (by decide), if_pos (by decide)]
  exact wt_H_some (congrArg (fun v => (v, σ)) (by decide : (27 * (27 * (27 * (27 * 20 + 8) + 5) + 18) + 5 : Int32) = 10790420))
theorem wh_six2 (n : Nat) {σ : wt_St} : wt_H (wp_md_six n (16 : Int32) (18 : Int32) (9 : Int32) (3 : Int32) (5 : Int32) (0 : Int32) σ) (fun q => q = ((8863997 : Int32), σ)) := by
  unfold wp_md_six wp_md_six_B36
  rw [if_neg (by decide), if_pos (by decide)]
  exact wt_H_some (congrArg (fun v => (v, σ)) (by decide : (27 * (27 * (27 * (27 * 16 + 18) + 9) + 3) + 5 : Int32) = 8863997))
theorem wh_six3 (n : Nat) {σ : wt_St} : wt_H (wp_md_six n (6 : Int32) (1 : Int32) (9 : Int32) (14 : Int32) (20 : Int32) (0 : Int32) σ) (fun q => q = ((3215288 : Int32), σ)) := by
  unfold wp_md_six wp_md_six_B36
  rw [if_neg (by decide), if_pos (by decide)]
  exact wt_H_some (congrArg (fun v => (v, σ)) (by decide : (27 * (27 * (27 * (27 * 6 + 1) + 9) + 14) + 20 : Int32) = 3215288))
theorem wh_six4 (n : Nat) {σ : wt_St} : wt_H (wp_md_six n (12 : Int32) (9 : Int32) (11 : Int32) (5 : Int32) (0 : Int32) (0 : Int32) σ) (fun q => q = ((243059 : Int32), σ)) := by
  unfold wp_md_six wp_md_six_B36
  rw [if_pos (by decide), if_pos (by decide)]
  exact wt_H_some (congrArg (fun v => (v, σ)) (by decide : (27 * (27 * (27 * 12 + 9) + 11) + 5 : Int32) = 243059))
theorem wh_six5 (n : Nat) {σ : wt_St} : wt_H (wp_md_six n (6 : Int32) (15 : Int32) (12 : Int32) (12 : Int32) (15 : Int32) (23 : Int32) σ) (fun q => q = ((94310429 : Int32), σ)) := by
  unfold wp_md_six wp_md_six_B36
  rw [if_neg (by decide), if_neg (by decide)]
  exact wt_H_some (congrArg (fun v => (v, σ)) (by decide : (27 * (27 * (27 * (27 * (27 * 6 + 15) + 12) + 12) + 15) + 23 : Int32) = 94310429))
/-- the reference asks for one name -/
theorem wh_isW (n : Nat) {β : Nat → Int32} {e k j2 : Nat} {σ : wt_St} {w : Int32} (bs : List Int32) (hb : bs.length < 7) (hbs : ∀ i, i < bs.length → 97 ≤ (wt_ch bs (nI i)).toInt ∧ (wt_ch bs (nI i)).toInt ≤ 122) (hw : wt_b27 (fun i => wt_ch bs (nI i)) 0 bs.length = w.toInt) (h : wt_rv β e k σ) (h0 : wt_gf σ 108 5 = 0) (r1 : wt_run β e wt_bl k k) (r2 : wt_run β e wt_sm k j2) : wt_H (wp_md_isWord n w σ) (fun q => wt_rv β e k q.2 ∧ wt_fr (fun i k => i = 108 ∧ k = 4) (fun _ => False) σ q.2 ∧ ((wt_is β k j2 bs ∧ ¬ q.1 = 0) ∨ (¬ wt_is β k j2 bs ∧ q.1 = 0))) := by
  refine (wh_isWord n bs hb hbs hw h h0).imp (fun q hq => ?_)
  obtain ⟨j, j2', s1, s2, rv, fr, hc⟩ := hq
  have e1 : j = k := wt_run_u s1 r1
  rw [e1] at s2 rv hc
  have e2 : j2' = j2 := wt_run_u s2 r2
  rw [e2] at hc
  refine ⟨rv, fr, ?_⟩
  rcases hc with ⟨a, b⟩ | ⟨a, b⟩
  · exact Or.inl ⟨a, by rw [b]; decide⟩
  · exact Or.inr ⟨a, b⟩
def wt_kcl (β : Nat → Int32) (k j2 : Nat) (y : Int32) : Prop := (y = 0 ∧ wt_is β k j2 wt_w0) ∨ (y = 1 ∧ ¬ wt_is β k j2 wt_w0 ∧ wt_is β k j2 wt_w1) ∨ (y = 2 ∧ ¬ wt_is β k j2 wt_w0 ∧ ¬ wt_is β k j2 wt_w1 ∧ wt_is β k j2 wt_w2) ∨ (y = 3 ∧ ¬ wt_is β k j2 wt_w0 ∧ ¬ wt_is β k j2 wt_w1 ∧ ¬ wt_is β k j2 wt_w2 ∧ wt_is β k j2 wt_w3) ∨ (y = 4 ∧ ¬ wt_is β k j2 wt_w0 ∧ ¬ wt_is β k j2 wt_w1 ∧ ¬ wt_is β k j2 wt_w2 ∧ ¬ wt_is β k j2 wt_w3 ∧ wt_is β k j2 wt_w4) ∨ (y = 5 ∧ ¬ wt_is β k j2 wt_w0 ∧ ¬ wt_is β k j2 wt_w1 ∧ ¬ wt_is β k j2 wt_w2 ∧ ¬ wt_is β k j2 wt_w3 ∧ ¬ wt_is β k j2 wt_w4 ∧ wt_is β k j2 wt_w5) ∨ (y = -1 ∧ ¬ wt_is β k j2 wt_w0 ∧ ¬ wt_is β k j2 wt_w1 ∧ ¬ wt_is β k j2 wt_w2 ∧ ¬ wt_is β k j2 wt_w3 ∧ ¬ wt_is β k j2 wt_w4 ∧ ¬ wt_is β k j2 wt_w5)
set_option maxRecDepth 100000 in
set_option maxHeartbeats 4000000 in
theorem wr_names {α : Type} {p : Option α} {Q : α → wt_St → Prop} (n : Nat) {β : Nat → Int32} {e k j2 : Nat} {z : wt_St} (rv : wt_rv β e k z) (h0 : wt_gf z 108 5 = 0) (r1 : wt_run β e wt_bl k k) (r2 : wt_run β e wt_sm k j2) (h : ∀ (y : Int32) (z1 : wt_St), wt_rv β e k z1 → wt_fr (fun i k => i = 108 ∧ k = 4) (fun _ => False) z z1 → wt_kcl β k j2 y → wt_HH p (wp_md_clause_B149 n (wt_gf z 108 4) y z1) Q) : wt_HH p (wp_md_clause n z) Q := by
  have fz : ∀ {z1 : wt_St}, wt_fr (fun i k => i = 108 ∧ k = 4) (fun _ => False) z z1 → wt_gf z1 108 5 = 0 := fun f => (f.1 108 5 (by (try dsimp only); omega)).trans h0
  have ft : ∀ {z1 z2 : wt_St}, wt_fr (fun i k => i = 108 ∧ k = 4) (fun _ => False) z z1 → wt_fr (fun i k => i = 108 ∧ k = 4) (fun _ => False) z1 z2 → wt_fr (fun i k => i = 108 ∧ k = 4) (fun _ => False) z z2 := fun f g => wt_fr.tr f g (fun i k h => h) (fun i h => h)
  unfold wp_md_clause
  refine wt_HH_r (wh_six0 n) (fun q hq => ?_)
  subst hq
  dsimp only
  refine wt_HH_r (wh_isW n wt_w0 (by decide) (by decide +kernel) (by decide +kernel) rv h0 r1 r2) (fun q1 g1 => ?_)
  obtain ⟨v1, f1, c1⟩ := g1
  rcases c1 with ⟨m1, c1⟩ | ⟨m1, c1⟩
  · rw [if_neg c1]
    exact h _ _ v1 f1 (Or.inl ⟨rfl, m1⟩)
  rw [if_pos c1]
  refine wt_HH_r (wh_six1 n) (fun q hq => ?_)
  subst hq
  dsimp only
  refine wt_HH_r (wh_isW n wt_w1 (by decide) (by decide +kernel) (by decide +kernel) v1 (fz f1) r1 r2) (fun q2 g2 => ?_)
  obtain ⟨v2, f2, c2⟩ := g2
  have f2 := ft f1 f2
  rcases c2 with ⟨m2, c2⟩ | ⟨m2, c2⟩
  · rw [if_neg c2]
    exact h _ _ v2 f2 (Or.inr (Or.inl ⟨rfl, m1, m2⟩))
  rw [if_pos c2]
  refine wt_HH_r (wh_six2 n) (fun q hq => ?_)
  subst hq
  dsimp only
  refine wt_HH_r (wh_isW n wt_w2 (by decide) (by decide +kernel) (by decide +kernel) v2 (fz f2) r1 r2) (fun q3 g3 => ?_)
  obtain ⟨v3, f3, c3⟩ := g3
  have f3 := ft f2 f3
  rcases c3 with ⟨m3, c3⟩ | ⟨m3, c3⟩
  · rw [if_neg c3]
    exact h _ _ v3 f3 (Or.inr (Or.inr (Or.inl ⟨rfl, m1, m2, m3⟩)))
  rw [if_pos c3]
  refine wt_HH_r (wh_six3 n) (fun q hq => ?_)
  subst hq
  dsimp only
  refine wt_HH_r (wh_isW n wt_w3 (by decide) (by decide +kernel) (by decide +kernel) v3 (fz f3) r1 r2) (fun q4 g4 => ?_)
  obtain ⟨v4, f4, c4⟩ := g4
  have f4 := ft f3 f4
  rcases c4 with ⟨m4, c4⟩ | ⟨m4, c4⟩
  · rw [if_neg c4]
    exact h _ _ v4 f4 (Or.inr (Or.inr (Or.inr (Or.inl ⟨rfl, m1, m2, m3, m4⟩))))
  rw [if_pos c4]
  refine wt_HH_r (wh_six4 n) (fun q hq => ?_)
  subst hq
  dsimp only
  refine wt_HH_r (wh_isW n wt_w4 (by decide) (by decide +kernel) (by decide +kernel) v4 (fz f4) r1 r2) (fun q5 g5 => ?_)
  obtain ⟨v5, f5, c5⟩ := g5
  have f5 := ft f4 f5
  rcases c5 with ⟨m5, c5⟩ | ⟨m5, c5⟩
  · rw [if_neg c5]
    exact h _ _ v5 f5 (Or.inr (Or.inr (Or.inr (Or.inr (Or.inl ⟨rfl, m1, m2, m3, m4, m5⟩)))))
  rw [if_pos c5]
  refine wt_HH_r (wh_six5 n) (fun q hq => ?_)
  subst hq
  dsimp only
  refine wt_HH_r (wh_isW n wt_w5 (by decide) (by decide +kernel) (by decide +kernel) v5 (fz f5) r1 r2) (fun q6 g6 => ?_)
  obtain ⟨v6, f6, c6⟩ := g6
  have f6 := ft f5 f6
  rcases c6 with ⟨m6, c6⟩ | ⟨m6, c6⟩
  · rw [if_neg c6]
    exact h _ _ v6 f6 (Or.inr (Or.inr (Or.inr (Or.inr (Or.inr (Or.inl ⟨rfl, m1, m2, m3, m4, m5, m6⟩))))))
  rw [if_pos c6]
  exact h _ _ v6 f6 (Or.inr (Or.inr (Or.inr (Or.inr (Or.inr (Or.inr ⟨rfl, m1, m2, m3, m4, m5, m6⟩))))))
theorem wh_wordT (n : Nat) (hn : 4294967297 < n) {β : Nat → Int32} {e j j2 : Nat} {σ : wt_St} (bs : List Int32) (hb : bs.length < 100) (h : wt_tv β e j2 σ) (hj : j ≤ j2) (st : (wt_gf σ 1 5).toInt = (j : Int)) (hm : wt_is β j j2 bs) : wt_H (wp_tp_wordIs n bs σ) (fun q => q = ((1 : Int32), σ)) := (wh_wordIs n hn bs hb h hj st).imp (fun q hq => by
  rcases hq with ⟨-, a⟩ | ⟨a, -⟩
  · exact a
  · exact absurd hm a)
theorem wh_wordF (n : Nat) (hn : 4294967297 < n) {β : Nat → Int32} {e j j2 : Nat} {σ : wt_St} (bs : List Int32) (hb : bs.length < 100) (h : wt_tv β e j2 σ) (hj : j ≤ j2) (st : (wt_gf σ 1 5).toInt = (j : Int)) (hm : ¬ wt_is β j j2 bs) : wt_H (wp_tp_wordIs n bs σ) (fun q => q = ((0 : Int32), σ)) := (wh_wordIs n hn bs hb h hj st).imp (fun q hq => by
  rcases hq with ⟨a, -⟩ | ⟨-, a⟩
  · exact absurd a hm
  · exact a)
set_option maxHeartbeats 4000000 in
theorem wh_names (n : Nat) (hn : 4294967297 < n) {β : Nat → Int32} {e j j2 : Nat} {σ : wt_St} (h : wt_tv β e j2 σ) (hj : j ≤ j2) (st : (wt_gf σ 1 5).toInt = (j : Int)) (y : Int32) (hc : wt_kcl β j j2 y) : wt_H (wp_ld_namesClause n σ) (fun q => q.2 = σ ∧ (y = -1 → q.1 = 0) ∧ (y ≠ -1 → ¬ q.1 = 0)) := by
  have T := fun bs hb hm => wh_wordT n hn (σ := σ) (j := j) bs hb h hj st hm
  have F := fun bs hb hm => wh_wordF n hn (σ := σ) (j := j) bs hb h hj st hm
  have o1 : ¬ (1 : Int32) = 0 := by decide
  have Y : ∀ y' : Int32, y = y' → ¬ y' = -1 → wt_H (some ((1 : Int32), σ)) (fun q => q.2 = σ ∧ (y = -1 → q.1 = 0) ∧ (y ≠ -1 → ¬ q.1 = 0)) := fun y' h1 h2 => wt_H_some ⟨rfl, fun z => absurd (h1.symm.trans z) h2, fun _ => o1⟩
  unfold wp_ld_namesClause
  rcases hc with ⟨hy, m0⟩ | ⟨hy, m0, m1⟩ | ⟨hy, m0, m1, m2⟩ | ⟨hy, m0, m1, m2, m3⟩ | ⟨hy, m0, m1, m2, m3, m4⟩ | ⟨hy, m0, m1, m2, m3, m4, m5⟩ | ⟨hy, m0, m1, m2, m3, m4, m5⟩
  · refine wt_H_bh (T wt_w0 (by decide) m0) (fun q hq => ?_)
    subst hq
    rw [if_neg o1]
    exact Y _ hy (by decide)
  · refine wt_H_bh (F wt_w0 (by decide) m0) (fun q hq => ?_)
    subst hq
    rw [if_pos rfl]
    refine wt_H_bh (T wt_w1 (by decide) m1) (fun q hq => ?_)
    subst hq
    rw [if_neg o1]
    exact Y _ hy (by decide)
  · refine wt_H_bh (F wt_w0 (by decide) m0) (fun q hq => ?_)
    subst hq
    rw [if_pos rfl]
    refine wt_H_bh (F wt_w1 (by decide) m1) (fun q hq => ?_)
    subst hq
    rw [if_pos rfl]
    refine wt_H_bh (T wt_w2 (by decide) m2) (fun q hq => ?_)
    subst hq
    rw [if_neg o1]
    exact Y _ hy (by decide)
  · refine wt_H_bh (F wt_w0 (by decide) m0) (fun q hq => ?_)
    subst hq
    rw [if_pos rfl]
    refine wt_H_bh (F wt_w1 (by decide) m1) (fun q hq => ?_)
    subst hq
    rw [if_pos rfl]
    refine wt_H_bh (F wt_w2 (by decide) m2) (fun q hq => ?_)
    subst hq
    rw [if_pos rfl]
    refine wt_H_bh (T wt_w3 (by decide) m3) (fun q hq => ?_)
    subst hq
    rw [if_neg o1]
    exact Y _ hy (by decide)
  · refine wt_H_bh (F wt_w0 (by decide) m0) (fun q hq => ?_)
    subst hq
    rw [if_pos rfl]
    refine wt_H_bh (F wt_w1 (by decide) m1) (fun q hq => ?_)
    subst hq
    rw [if_pos rfl]
    refine wt_H_bh (F wt_w2 (by decide) m2) (fun q hq => ?_)
    subst hq
    rw [if_pos rfl]
    refine wt_H_bh (F wt_w3 (by decide) m3) (fun q hq => ?_)
    subst hq
    rw [if_pos rfl]
    refine wt_H_bh (T wt_w4 (by decide) m4) (fun q hq => ?_)
    subst hq
    rw [if_neg o1]
    exact Y _ hy (by decide)
  · refine wt_H_bh (F wt_w0 (by decide) m0) (fun q hq => ?_)
    subst hq
    rw [if_pos rfl]
    refine wt_H_bh (F wt_w1 (by decide) m1) (fun q hq => ?_)
    subst hq
    rw [if_pos rfl]
    refine wt_H_bh (F wt_w2 (by decide) m2) (fun q hq => ?_)
    subst hq
    rw [if_pos rfl]
    refine wt_H_bh (F wt_w3 (by decide) m3) (fun q hq => ?_)
    subst hq
    rw [if_pos rfl]
    refine wt_H_bh (F wt_w4 (by decide) m4) (fun q hq => ?_)
    subst hq
    rw [if_pos rfl]
    refine wt_H_bh (T wt_w5 (by decide) m5) (fun q hq => ?_)
    subst hq
    rw [if_neg o1]
    exact Y _ hy (by decide)
  · refine wt_H_bh (F wt_w0 (by decide) m0) (fun q hq => ?_)
    subst hq
    rw [if_pos rfl]
    refine wt_H_bh (F wt_w1 (by decide) m1) (fun q hq => ?_)
    subst hq
    rw [if_pos rfl]
    refine wt_H_bh (F wt_w2 (by decide) m2) (fun q hq => ?_)
    subst hq
    rw [if_pos rfl]
    refine wt_H_bh (F wt_w3 (by decide) m3) (fun q hq => ?_)
    subst hq
    rw [if_pos rfl]
    refine wt_H_bh (F wt_w4 (by decide) m4) (fun q hq => ?_)
    subst hq
    rw [if_pos rfl]
    refine wt_H_bh (F wt_w5 (by decide) m5) (fun q hq => ?_)
    subst hq
    rw [if_pos rfl]
    exact wt_H_some ⟨rfl, fun _ => rfl, fun z => absurd hy z⟩
/-! the six kinds, each up to its sign -/
noncomputable abbrev wt_fin (n : Nat) (q5 : Int32 × wt_St) : Option (Int32 × wt_St) := if q5.1 = 0 then some ((0 : Int32), q5.2) else wp_tp_needSign n (59 : Int32) q5.2
abbrev wt_CQ (c : Int32) (β : Nat → Int32) (e : Nat) (q : Int32 × wt_St) (y : wt_St) : Prop := (q.1 = 0 ∧ wt_ft q.2 y) ∨ (q.1 = 1 ∧ wt_ok (wt_lr c) β e q.2 y)
theorem wr_fin (n : Nat) (hn : 4294967297 < n) {c : Int32} {β : Nat → Int32} {e : Nat} {q : Int32 × wt_St} {y : wt_St} (h : wt_CQ c β e q y) : wt_HH (wt_fin n q) (wp_md_clause_B377 n y) (wt_CQ c β e) := by
  unfold wp_md_clause_B377
  rcases h with ⟨h1, h2⟩ | ⟨h1, h2⟩
  · unfold wt_fin
    rw [if_pos h1]
    refine wt_HH_r (wh_closesN n (wt_ft_nz h2)) (fun q3 h3 => ?_)
    subst h3
    exact wt_HH_some (Or.inl ⟨rfl, h2⟩)
  · unfold wt_fin
    rw [if_neg (by rw [h1]; decide)]
    exact fun a b ha hb => by
      cases hcl : wp_md_closes n (59 : Int32) y with
      | none => rw [hcl] at hb; cases hb
      | some w =>
        rw [hcl] at hb
        have hb' : some w = some b := hb
        cases hb'
        exact wr_need n hn wt_lr_lxc (by decide) h2 a b ha hcl
theorem wt_ok_ch {c c' : Int32} {β : Nat → Int32} {e : Nat} {s s' z z' : wt_St} (h : wt_ok (wt_lr c) β e s z) {F F' : Nat → Nat → Prop} {A A' : Nat → Prop} (f : wt_fr F A s s') (g : wt_fr F' A' z z') (h1 : ¬ A 2) (h2 : ¬ F 1 3) (h3 : ¬ F 1 4) (h4 : ¬ A' 109) (h5 : ¬ F' 108 2) (h6 : ¬ F' 108 4) (h7 : ¬ F' 108 5) (k : wt_lr c s z → wt_lr c' s' z') : wt_ok (wt_lr c') β e s' z' := by
  obtain ⟨j, a, b, d, r⟩ := h
  exact ⟨j, wt_tv_fr a f h1 h2 h3, wt_rv_fr b g h4 h5 h6, (g.1 108 5 h7).trans d, k r⟩
set_option maxHeartbeats 4000000 in
theorem wr_price {ρ ρ' : Type} {Q : ρ → ρ' → Prop} (n : Nat) (hn : 4294967297 < n) {c : Int32} {β : Nat → Int32} {e : Nat} {s z : wt_St} {g : Int32 × wt_St → Option ρ} {B : wt_St → Option ρ'} (h : wt_ok (wt_lr c) β e s z) (hk : ∀ q y, wt_CQ c β e q y → wt_HH (g q) (B y) Q) : wt_HH ((wp_ld_fillPrice n 12 s).bind g) ((wp_md_letterHere n z).bind fun q38 => (wp_md_number n (0 : Int32) (99 : Int32) q38.2).bind fun q39 => if (wt_gf q39.2 108 5) = 0 then if q38.1 < 0 ∨ 26 ≤ Int32.toNatClampNeg q38.1 then none else B (wt_sa q39.2 114 (Int32.toNatClampNeg q38.1) q39.1) else B q39.2) Q := by
  have k0 : (0 : Int32).toInt = 0 := by decide
  have k99 : (99 : Int32).toInt = 99 := by decide
  unfold wp_ld_fillPrice
  refine wt_HH_bb (wr_letter n hn wt_lr_lxc h) (fun q1 y1 p1 => ?_)
  rcases p1 with ⟨p1, p2, p3⟩ | ⟨l, l26, ql, yl, ok1⟩
  · rw [if_pos p1]
    refine wt_HH_r (wh_numberN n (wt_ft_nz p2)) (fun q3 h3 => ?_)
    subst h3
    dsimp only
    rw [if_neg (wt_ft_nz p2)]
    exact hk ((0 : Int32), q1.2) y1.2 (Or.inl ⟨rfl, p2⟩)
  · rw [if_neg (fun c => by have := wt_ceq c; rw [wt_lm1] at this; omega)]
    refine wt_HH_bb (wr_number n hn wt_lr_lxc ok1 (by omega) (by omega)) (fun q4 y4 p4 => ?_)
    rcases p4 with ⟨p4, p5⟩ | ⟨p4, p5, p6, ok4⟩
    · rw [if_pos p4, if_neg (wt_ft_nz p5)]
      exact hk ((0 : Int32), q4.2) y4.2 (Or.inl ⟨rfl, p5⟩)
    · rw [if_neg (fun c => by have := wt_ceq c; rw [wt_lm1] at this; omega), if_pos ok4.choose_spec.2.2.1, yl, p6, wt_tnN ql]
      refine wt_HH_gr (fun _ => ?_)
      refine wt_HH_lb (wh_put n (k := l) ql (by show l < 26; exact l26)) (fun q5 h5 => ?_)
      have f5 := wt_fr_sa h5
      obtain ⟨y5, ε5⟩ : ∃ o : wt_St, o = wt_sa y4.2 114 l q4.1 := ⟨_, rfl⟩
      rw [← ε5]
      have g5 := wt_fr_sa ε5
      refine hk ((1 : Int32), q5) y5 (Or.inr ⟨rfl, wt_ok_ch ok4 f5 g5 (by decide) (fun h => h) (fun h => h) (by decide) (fun h => h) (fun h => h) (fun h => h) (fun r => ?_)⟩)
      obtain ⟨c1, c2, c3, c4, c5, c6, c7⟩ := r
      refine ⟨wt_pr_fr c1 f5 g5 (by decide) (by decide) (by decide) (by decide), wt_pr_fr c2 f5 g5 (by decide) (by decide) (by decide) (by decide), fun i hi => ?_, fun i hi => ?_, fun i hi => ?_, ?_, (g5.1 108 7 (fun h => h)).trans c7.1, by rw [f5.1 1 7 (fun h => h), g5.1 108 6 (fun h => h)]; exact c7.2⟩
      · by_cases hc : i = l
        · rw [hc, wt_v_sa ε5]
          exact wt_v_sa h5
        · rw [wt_w_sa ε5 i hc]
          exact (wt_w_sa h5 i hc).trans (c3 i hi)
      · rw [f5.2 18 (by decide), g5.2 116 (by decide)]; exact c4 i hi
      · rw [f5.2 19 (by decide), g5.2 118 (by decide)]; exact c5 i hi
      · rw [f5.1 12 7 (fun h => h), g5.1 108 24 (fun h => h)]; exact c6
set_option maxHeartbeats 4000000 in
theorem wr_like {ρ ρ' : Type} {Q : ρ → ρ' → Prop} (n : Nat) (hn : 4294967297 < n) {c : Int32} {β : Nat → Int32} {e : Nat} {s z : wt_St} {g : Int32 × wt_St → Option ρ} {B : wt_St → Option ρ'} (h : wt_ok (wt_lr c) β e s z) (hk : ∀ q y, wt_CQ c β e q y → wt_HH (g q) (B y) Q) : wt_HH ((wp_ld_fillLike n 12 s).bind g) ((wp_md_letterHere n z).bind fun q33 => (wp_md_letterHere n q33.2).bind fun q34 => if (wt_gf q34.2 108 5) = 0 then if q33.1 < 0 ∨ 26 ≤ Int32.toNatClampNeg q33.1 then none else B (wt_sa q34.2 116 (Int32.toNatClampNeg q33.1) q34.1) else B q34.2) Q := by
  unfold wp_ld_fillLike
  refine wt_HH_bb (wr_letter n hn wt_lr_lxc h) (fun q1 y1 p1 => ?_)
  rcases p1 with ⟨p1, p2, p3⟩ | ⟨l, l26, ql, yl, ok1⟩
  · rw [if_pos p1]
    refine wt_HH_r (wh_letterHereN n (wt_ft_nz p2)) (fun q3 h3 => ?_)
    subst h3
    dsimp only
    rw [if_neg (wt_ft_nz p2)]
    exact hk ((0 : Int32), q1.2) y1.2 (Or.inl ⟨rfl, p2⟩)
  · rw [if_neg (fun c => by have := wt_ceq c; rw [wt_lm1] at this; omega)]
    refine wt_HH_bb (wr_letter n hn wt_lr_lxc ok1) (fun q4 y4 p4 => ?_)
    rcases p4 with ⟨p4, p5, -⟩ | ⟨l2, l226, p5, p6, ok4⟩
    · rw [if_pos p4, if_neg (wt_ft_nz p5)]
      exact hk ((0 : Int32), q4.2) y4.2 (Or.inl ⟨rfl, p5⟩)
    · rw [if_neg (fun c => by have := wt_ceq c; rw [wt_lm1] at this; omega), if_pos ok4.choose_spec.2.2.1, yl, p6, wt_tnN ql]
      refine wt_HH_gr (fun _ => ?_)
      refine wt_HH_lb (wh_put n (k := l) ql (by show l < 26; exact l26)) (fun q5 h5 => ?_)
      have f5 := wt_fr_sa h5
      obtain ⟨y5, ε5⟩ : ∃ o : wt_St, o = wt_sa y4.2 116 l q4.1 := ⟨_, rfl⟩
      rw [← ε5]
      have g5 := wt_fr_sa ε5
      refine hk ((1 : Int32), q5) y5 (Or.inr ⟨rfl, wt_ok_ch ok4 f5 g5 (by decide) (fun h => h) (fun h => h) (by decide) (fun h => h) (fun h => h) (fun h => h) (fun r => ?_)⟩)
      obtain ⟨c1, c2, c3, c4, c5, c6, c7⟩ := r
      refine ⟨wt_pr_fr c1 f5 g5 (by decide) (by decide) (by decide) (by decide), wt_pr_fr c2 f5 g5 (by decide) (by decide) (by decide) (by decide), fun i hi => ?_, fun i hi => ?_, fun i hi => ?_, ?_, (g5.1 108 7 (fun h => h)).trans c7.1, by rw [f5.1 1 7 (fun h => h), g5.1 108 6 (fun h => h)]; exact c7.2⟩
      · rw [f5.2 17 (by decide), g5.2 114 (by decide)]; exact c3 i hi
      · by_cases hc : i = l
        · rw [hc, wt_v_sa ε5]
          exact wt_v_sa h5
        · rw [wt_w_sa ε5 i hc]
          exact (wt_w_sa h5 i hc).trans (c4 i hi)
      · rw [f5.2 19 (by decide), g5.2 118 (by decide)]; exact c5 i hi
      · rw [f5.1 12 7 (fun h => h), g5.1 108 24 (fun h => h)]; exact c6
set_option maxHeartbeats 4000000 in
theorem wr_faint {ρ ρ' : Type} {Q : ρ → ρ' → Prop} (n : Nat) (hn : 4294967297 < n) {c : Int32} {β : Nat → Int32} {e : Nat} {s z : wt_St} {g : Int32 × wt_St → Option ρ} {B : wt_St → Option ρ'} (h : wt_ok (wt_lr c) β e s z) (hk : ∀ q y, wt_CQ c β e q y → wt_HH (g q) (B y) Q) : wt_HH ((wp_ld_fillFaint n 12 s).bind g) ((wp_md_number n (0 : Int32) (99 : Int32) z).bind fun q37 => B (wt_sf q37.2 108 24 q37.1)) Q := by
  have k0 : (0 : Int32).toInt = 0 := by decide
  have k99 : (99 : Int32).toInt = 99 := by decide
  unfold wp_ld_fillFaint
  refine wt_HH_bb (wr_number n hn wt_lr_lxc h (by omega) (by omega)) (fun q4 y4 p4 => ?_)
  obtain ⟨y5, ε5⟩ : ∃ o : wt_St, o = wt_sf y4.2 108 24 y4.1 := ⟨_, rfl⟩
  rw [← ε5]
  have g5 := wt_fr_sf ε5
  rcases p4 with ⟨p4, f, p, p5, p6, p7⟩ | ⟨p4, p5, p6, ok4⟩
  · rw [if_pos p4]
    exact hk ((0 : Int32), q4.2) y5 (Or.inl ⟨rfl, f, p, p5, p6, by rw [g5.1 108 5 (by (try dsimp only); omega)]; exact p7.1, by rw [g5.1 108 6 (by (try dsimp only); omega)]; exact p7.2⟩)
  · rw [if_neg (fun c => by have := wt_ceq c; rw [wt_lm1] at this; omega)]
    obtain ⟨s5, ε⟩ : ∃ o : wt_St, o = wt_sf q4.2 12 7 q4.1 := ⟨_, rfl⟩
    rw [← ε]
    have f5 := wt_fr_sf ε
    refine hk ((1 : Int32), s5) y5 (Or.inr ⟨rfl, wt_ok_ch ok4 f5 g5 (fun h => h) (by (try dsimp only); omega) (by (try dsimp only); omega) (fun h => h) (by (try dsimp only); omega) (by (try dsimp only); omega) (by (try dsimp only); omega) (fun r => ?_)⟩)
    obtain ⟨c1, c2, c3, c4, c5, c6, c7⟩ := r
    refine ⟨wt_pr_fr c1 f5 g5 (fun h => h) (fun h => h) (fun h => h) (fun h => h), wt_pr_fr c2 f5 g5 (fun h => h) (fun h => h) (fun h => h) (fun h => h), fun i hi => ?_, fun i hi => ?_, fun i hi => ?_, ?_, (g5.1 108 7 (by (try dsimp only); omega)).trans c7.1, by rw [f5.1 1 7 (by (try dsimp only); omega), g5.1 108 6 (by (try dsimp only); omega)]; exact c7.2⟩
    · rw [f5.2 17 (fun h => h), g5.2 114 (fun h => h)]; exact c3 i hi
    · rw [f5.2 18 (fun h => h), g5.2 116 (fun h => h)]; exact c4 i hi
    · rw [f5.2 19 (fun h => h), g5.2 118 (fun h => h)]; exact c5 i hi
    · rw [wt_v_sf ε, wt_v_sf ε5, p6]
set_option maxHeartbeats 4000000 in
theorem wr_follow {ρ ρ' : Type} {Q : ρ → ρ' → Prop} (n : Nat) (hn : 4294967297 < n) {c : Int32} {β : Nat → Int32} {e : Nat} {s z : wt_St} {g : Int32 × wt_St → Option ρ} {B : wt_St → Option ρ'} (h : wt_ok (wt_lr c) β e s z) (hk : ∀ q y, wt_CQ c β e q y → wt_HH (g q) (B y) Q) : wt_HH ((wp_ld_fillFollow n 12 s).bind g) ((wp_md_number n (0 : Int32) (3 : Int32) z).bind fun q27 => (wp_md_number n (0 : Int32) (3 : Int32) q27.2).bind fun q28 => if (wt_gf q28.2 108 5) = 0 then if q27.1 < 0 ∨ 4 ≤ Int32.toNatClampNeg q27.1 then none else if q27.1 < 0 ∨ 4 ≤ Int32.toNatClampNeg q27.1 then none else B (wt_sa q28.2 118 (Int32.toNatClampNeg q27.1) ((wt_ga q28.2 118 (Int32.toNatClampNeg q27.1)) ||| ((1 : Int32) <<< (q28.1 &&& 31)))) else B q28.2) Q := by
  have k0 : (0 : Int32).toInt = 0 := by decide
  have k3 : (3 : Int32).toInt = 3 := by decide
  unfold wp_ld_fillFollow
  refine wt_HH_bb (wr_number n hn wt_lr_lxc h (by omega) (by omega)) (fun q1 y1 p1 => ?_)
  rcases p1 with ⟨p1, p2⟩ | ⟨p1, p2, p3, ok1⟩
  · rw [if_pos p1]
    refine wt_HH_r (wh_numberN n (wt_ft_nz p2)) (fun q3 h3 => ?_)
    subst h3
    dsimp only
    rw [if_neg (wt_ft_nz p2)]
    exact hk ((0 : Int32), q1.2) y1.2 (Or.inl ⟨rfl, p2⟩)
  · rw [if_neg (fun c => by have := wt_ceq c; rw [wt_lm1] at this; omega)]
    refine wt_HH_bb (wr_number n hn wt_lr_lxc ok1 (by omega) (by omega)) (fun q4 y4 p4 => ?_)
    rcases p4 with ⟨p4, p5⟩ | ⟨p4, p5, p6, ok4⟩
    · rw [if_pos p4, if_neg (wt_ft_nz p5)]
      exact hk ((0 : Int32), q4.2) y4.2 (Or.inl ⟨rfl, p5⟩)
    · have hl := wt_tnI (x := q1.1) (by omega)
      rw [if_neg (fun c => by have := wt_ceq c; rw [wt_lm1] at this; omega), if_pos ok4.choose_spec.2.2.1, p3, p6]
      refine wt_HH_gr (fun _ => ?_)
      refine wt_HH_gr (fun _ => ?_)
      refine wt_HH_lb (wh_look n hn (k := Int32.toNatClampNeg q1.1) (by omega) (by show Int32.toNatClampNeg q1.1 < 4; omega)) (fun q5 h5 => ?_)
      subst h5
      dsimp only
      refine wt_HH_lb (wh_put n (k := Int32.toNatClampNeg q1.1) (by omega) (by show Int32.toNatClampNeg q1.1 < 4; omega)) (fun q5 h5 => ?_)
      have f5 := wt_fr_sa h5
      obtain ⟨y5, ε5⟩ : ∃ o : wt_St, o = wt_sa y4.2 118 (Int32.toNatClampNeg q1.1) ((wt_ga y4.2 118 (Int32.toNatClampNeg q1.1)) ||| ((1 : Int32) <<< (q4.1 &&& 31))) := ⟨_, rfl⟩
      rw [← ε5]
      have g5 := wt_fr_sa ε5
      refine hk ((1 : Int32), q5) y5 (Or.inr ⟨rfl, wt_ok_ch ok4 f5 g5 (by decide) (fun h => h) (fun h => h) (by decide) (fun h => h) (fun h => h) (fun h => h) (fun r => ?_)⟩)
      obtain ⟨c1, c2, c3, c4, c5, c6, c7⟩ := r
      refine ⟨wt_pr_fr c1 f5 g5 (by decide) (by decide) (by decide) (by decide), wt_pr_fr c2 f5 g5 (by decide) (by decide) (by decide) (by decide), fun i hi => ?_, fun i hi => ?_, fun i hi => ?_, ?_, (g5.1 108 7 (fun h => h)).trans c7.1, by rw [f5.1 1 7 (fun h => h), g5.1 108 6 (fun h => h)]; exact c7.2⟩
      · rw [f5.2 17 (by decide), g5.2 114 (by decide)]; exact c3 i hi
      · rw [f5.2 18 (by decide), g5.2 116 (by decide)]; exact c4 i hi
      · by_cases hc : i = Int32.toNatClampNeg q1.1
        · rw [hc, wt_v_sa ε5, ← c5 _ (by omega)]
          exact wt_v_sa h5
        · rw [wt_w_sa ε5 i hc]
          exact (wt_w_sa h5 i hc).trans (c5 i hi)
      · rw [f5.1 12 7 (fun h => h), g5.1 108 24 (fun h => h)]; exact c6
end WTQ7
-- 71i.kase.lean.txt
section WTQ8
theorem wt_fin0 (n : Nat) (s : wt_St) : wt_fin n ((0 : Int32), s) = some ((0 : Int32), s) := if_pos rfl
theorem wt_len_w : wt_w0.length = 6 ∧ wt_w1.length = 5 ∧ wt_w2.length = 5 ∧ wt_w3.length = 5 ∧ wt_w4.length = 4 ∧ wt_w5.length = 6 := ⟨rfl, rfl, rfl, rfl, rfl, rfl⟩
theorem wt_kcl_none {β : Nat → Int32} {k : Nat} {y : Int32} (h : wt_kcl β k k y) : y = -1 := by
  obtain ⟨l0, l1, l2, l3, l4, l5⟩ := wt_len_w
  rcases h with ⟨hy, m⟩ | ⟨hy, m0, m⟩ | ⟨hy, m0, m1, m⟩ | ⟨hy, m0, m1, m2, m⟩ | ⟨hy, m0, m1, m2, m3, m⟩ | ⟨hy, m0, m1, m2, m3, m4, m⟩ | ⟨hy, -⟩
  · have := m.1; omega
  · have := m.1; omega
  · have := m.1; omega
  · have := m.1; omega
  · have := m.1; omega
  · have := m.1; omega
  · exact hy
set_option maxRecDepth 100000 in
set_option maxHeartbeats 8000000 in
theorem wr_clause (n : Nat) (hn : 4294967297 < n) {b : Int32} {β : Nat → Int32} {e k : Nat} {s z : wt_St} (hb0 : 0 ≤ b.toInt) (hb : b.toInt ≤ 60) (tv : wt_tv β e k s) (rv : wt_rv β e k z) (h0 : wt_gf z 108 5 = 0) (lr : wt_lr b s z) (r1 : wt_run β e wt_bl k k) : wt_HH ((wp_ld_fillClause n 12 b s).bind (wt_fin n)) (wp_md_clause n z) (fun q y => (q.1 = 0 ∧ wt_ft q.2 y) ∨ (q.1 = 1 ∧ wt_ok (wt_lr (b + 1)) β e q.2 y ∧ b.toInt < 60)) := by
  have k60 : (60 : Int32).toInt = 60 := by decide
  have k1 : (1 : Int32).toInt = 1 := by decide
  have k3 : (3 : Int32).toInt = 3 := by decide
  have o1 : ¬ (1 : Int32) = 0 := by decide
  unfold wp_ld_fillClause
  refine wt_HH_lb (wh_takeWord n hn tv) (fun q1 h1 => ?_)
  obtain ⟨j, j2, s1, s2, tv1, st1, hc⟩ := h1
  have ej : j = k := wt_run_u s1 r1
  rw [ej] at s2 st1 hc
  have W : ∀ (f : Nat) (x : Int32) (y0 : Int32) (q : wt_St) (z1 : wt_St), x.toInt = (f : Int) → 0 < f → wt_flt q f k → wt_rv β e k z1 → wt_fr (fun i k => i = 108 ∧ k = 4) (fun _ => False) z z1 → wt_HH (some ((0 : Int32), q)) ((wp_md_wrong n x (wt_gf z 108 4) z1).bind fun q46 => wp_md_clause_B179 n y0 q46) (fun q y => (q.1 = 0 ∧ wt_ft q.2 y) ∨ (q.1 = 1 ∧ wt_ok (wt_lr (b + 1)) β e q.2 y ∧ b.toInt < 60)) := by
    intro f x y0 q z1 hx hf hq rv1 f1
    refine wt_HH_r (wh_wrong n ((f1.1 108 5 (by (try dsimp only); omega)).trans h0) hx rv.2.2.1) (fun z2 h2 => ?_)
    unfold wp_md_clause_B179
    rw [if_neg (wt_frt_nz h2.1 hf)]
    exact wt_HH_some (Or.inl ⟨rfl, f, k, hf, hq, h2.1⟩)
  rcases hc with ⟨e2, q0, fl, -⟩ | ⟨lt, q0, fr, sp⟩
  · rw [if_pos q0]
    show wt_HH (wt_fin n ((0 : Int32), q1.2)) _ _
    rw [wt_fin0]
    rw [e2] at s2
    refine wr_names n rv h0 r1 s2 (fun y z1 rv1 f1 hy => ?_)
    rw [wt_kcl_none hy]
    unfold wp_md_clause_B149
    rw [if_pos rfl]
    exact W 1 _ _ _ _ (by decide) (by omega) fl rv1 f1
  · rw [if_neg (by rw [q0]; decide)]
    refine wr_names n rv h0 r1 s2 (fun y z1 rv1 f1 hy => ?_)
    have h01 : wt_gf z1 108 5 = 0 := (f1.1 108 5 (by (try dsimp only); omega)).trans h0
    have h71 : wt_gf z1 108 7 = b := (f1.1 108 7 (by (try dsimp only); omega)).trans lr.2.2.2.2.2.2.1
    refine wt_HH_lb (wh_names n hn tv1 (by omega) st1 y hy) (fun q3 h3 => ?_)
    obtain ⟨e3, hm, hp⟩ := h3
    rw [e3]
    unfold wp_md_clause_B149
    by_cases hy1 : y = -1
    · rw [if_pos (hm hy1), if_pos hy1]
      refine wt_HH_lb (wh_fail n (x := (1 : Int32)) (f := 1) (by decide) st1) (fun q28 h28 => ?_)
      rw [h28.1]
      show wt_HH (wt_fin n ((0 : Int32), q28.2)) _ _
      rw [wt_fin0]
      exact W 1 _ _ _ _ (by decide) (by omega) h28.2.1 rv1 f1
    · rw [if_neg (hp hy1), if_neg hy1, h71]
      by_cases h60 : b = 60
      · rw [if_neg (fun c => by have := wt_clt c; rw [h60] at this; omega), if_pos h60]
        refine wt_HH_lb (wh_fail n (x := (3 : Int32)) (f := 3) (by decide) st1) (fun q28 h28 => ?_)
        rw [h28.1]
        show wt_HH (wt_fin n ((0 : Int32), q28.2)) _ _
        rw [wt_fin0]
        exact W 3 _ _ _ _ (by decide) (by omega) h28.2.1 rv1 f1
      · have hlt : b.toInt < 60 := by
          have : b.toInt ≠ 60 := fun c => h60 (wt_eqI (c.trans k60.symm))
          omega
        rw [if_pos (Int32.lt_iff_toInt_lt.mpr (by omega)), if_neg h60]
        refine wt_HH.imp (P := wt_CQ (b + 1) β e) ?_ (fun q y hq => hq.elim Or.inl (fun h => Or.inr ⟨h.1, h.2, hlt⟩))
        unfold wp_md_clause_B179
        rw [if_pos h01]
        refine wt_HH_r (wh_lettersHere n rv1) (fun q22 h22 => ?_)
        obtain ⟨i, i2, u1, u2, rv2, e22, f2⟩ := h22
        have ei : i = k := wt_run_u u1 r1
        rw [ei] at u2 rv2 e22
        have ei2 : i2 = j2 := wt_run_u u2 s2
        rw [ei2] at e22
        have tb := tv1.2.2.2
        have ea := wt_addE (x := wt_gf z1 108 4) (y := q22.1) (by rw [rv1.2.2.1]; omega) (by rw [rv1.2.2.1]; omega)
        obtain ⟨z2, ε2⟩ : ∃ o : wt_St, o = wt_sf q22.2 108 4 ((wt_gf z1 108 4) + q22.1) := ⟨_, rfl⟩
        rw [← ε2]
        have g2 := wt_fr_sf ε2
        have e72 : wt_gf z2 108 7 = b := (g2.1 108 7 (by (try dsimp only); omega)).trans ((f2.1 108 7 (by (try dsimp only); omega)).trans h71)
        rw [e72]
        obtain ⟨z3, ε3⟩ : ∃ o : wt_St, o = wt_sf z2 108 7 (b + (1 : Int32)) := ⟨_, rfl⟩
        rw [← ε3]
        have g3 := wt_fr_sf ε3
        have rvz2 : wt_rv β e j2 z2 := wt_rv_adv rv2 ε2 (by rw [ea, rv1.2.2.1]; omega) (by omega)
        have ok3 : wt_ok (wt_lr (b + 1)) β e q1.2 z3 := by
          refine ⟨j2, tv1, wt_rv_fr rvz2 g3 (fun h => h) (by (try dsimp only); omega) (by (try dsimp only); omega), ?_, ?_⟩
          · rw [g3.1 108 5 (by (try dsimp only); omega), g2.1 108 5 (by (try dsimp only); omega), f2.1 108 5 (by (try dsimp only); omega)]; exact h01
          · have l2 := wt_lr_lxc s q1.2 z z2 lr fr (wt_fr.tr (wt_fr.tr f1 f2 (fun i k h => h) (fun i h => h)) g2 (fun i k h => by (try dsimp only at h); omega) (fun i h => h))
            obtain ⟨c1, c2, c3, c4, c5, c6, c7, c8⟩ := l2
            have fi : wt_fr (fun _ _ => False) (fun _ => False) q1.2 q1.2 := wt_fr.rf
            refine ⟨wt_pr_fr c1 fi g3 (fun h => h) (fun h => h) (fun h => h) (fun h => h), wt_pr_fr c2 fi g3 (fun h => h) (fun h => h) (fun h => h) (fun h => h), fun l hl => ?_, fun l hl => ?_, fun l hl => ?_, ?_, wt_v_sf ε3, ?_⟩
            · rw [g3.2 114 (fun h => h)]; exact c3 l hl
            · rw [g3.2 116 (fun h => h)]; exact c4 l hl
            · rw [g3.2 118 (fun h => h)]; exact c5 l hl
            · rw [g3.1 108 24 (by (try dsimp only); omega)]; exact c6
            · rw [g3.1 108 6 (by (try dsimp only); omega)]; exact c8
        have T := fun bs hb hm => wh_wordT n hn (σ := q1.2) (j := k) bs hb tv1 (by omega) st1 hm
        have F := fun bs hb hm => wh_wordF n hn (σ := q1.2) (j := k) bs hb tv1 (by omega) st1 hm
        rcases hy with ⟨hy, m0⟩ | ⟨hy, m0, m1⟩ | ⟨hy, m0, m1, m2⟩ | ⟨hy, m0, m1, m2, m3⟩ | ⟨hy, m0, m1, m2, m3, m4⟩ | ⟨hy, m0, m1, m2, m3, m4, m5⟩ | ⟨hy, -⟩
        · subst hy
          refine wt_HH_lb (T wt_w0 (by decide) m0) (fun q hq => ?_)
          subst hq
          rw [if_neg o1, if_neg (by decide), if_pos (by decide)]
          unfold wp_md_clause_B231 wp_md_clause_B246
          rw [if_pos (by decide)]
          exact wt_HH_bb (wr_pieces n hn 13 14 110 120 (Or.inl ⟨rfl, rfl, rfl, rfl⟩) ok3) (fun a y hp => wr_fin n hn hp)
        · subst hy
          refine wt_HH_lb (F wt_w0 (by decide) m0) (fun q hq => ?_)
          subst hq
          rw [if_pos rfl]
          refine wt_HH_lb (T wt_w1 (by decide) m1) (fun q hq => ?_)
          subst hq
          rw [if_neg o1, if_neg (by decide), if_neg (by decide)]
          unfold wp_md_clause_B231 wp_md_clause_B246
          rw [if_neg (by decide)]
          exact wt_HH_bb (wr_pieces n hn 15 16 112 122 (Or.inr ⟨rfl, rfl, rfl, rfl⟩) ok3) (fun a y hp => wr_fin n hn hp)
        · subst hy
          refine wt_HH_lb (F wt_w0 (by decide) m0) (fun q hq => ?_)
          subst hq
          rw [if_pos rfl]
          refine wt_HH_lb (F wt_w1 (by decide) m1) (fun q hq => ?_)
          subst hq
          rw [if_pos rfl]
          refine wt_HH_lb (T wt_w2 (by decide) m2) (fun q hq => ?_)
          subst hq
          rw [if_neg o1, if_pos (by decide), if_pos rfl, Option.bind_assoc]
          exact wr_price n hn ok3 (fun a y hp => wr_fin n hn hp)
        · subst hy
          refine wt_HH_lb (F wt_w0 (by decide) m0) (fun q hq => ?_)
          subst hq
          rw [if_pos rfl]
          refine wt_HH_lb (F wt_w1 (by decide) m1) (fun q hq => ?_)
          subst hq
          rw [if_pos rfl]
          refine wt_HH_lb (F wt_w2 (by decide) m2) (fun q hq => ?_)
          subst hq
          rw [if_pos rfl]
          refine wt_HH_lb (T wt_w3 (by decide) m3) (fun q hq => ?_)
          subst hq
          rw [if_neg o1, if_pos (by decide), if_neg (by decide), if_pos rfl, Option.bind_assoc]
          exact wr_faint n hn ok3 (fun a y hp => wr_fin n hn hp)
        · subst hy
          refine wt_HH_lb (F wt_w0 (by decide) m0) (fun q hq => ?_)
          subst hq
          rw [if_pos rfl]
          refine wt_HH_lb (F wt_w1 (by decide) m1) (fun q hq => ?_)
          subst hq
          rw [if_pos rfl]
          refine wt_HH_lb (F wt_w2 (by decide) m2) (fun q hq => ?_)
          subst hq
          rw [if_pos rfl]
          refine wt_HH_lb (F wt_w3 (by decide) m3) (fun q hq => ?_)
          subst hq
          rw [if_pos rfl]
          refine wt_HH_lb (T wt_w4 (by decide) m4) (fun q hq => ?_)
          subst hq
          rw [if_neg o1, if_pos (by decide), if_neg (by decide), if_neg (by decide), if_pos rfl, Option.bind_assoc]
          exact wr_like n hn ok3 (fun a y hp => wr_fin n hn hp)
        · subst hy
          refine wt_HH_lb (F wt_w0 (by decide) m0) (fun q hq => ?_)
          subst hq
          rw [if_pos rfl]
          refine wt_HH_lb (F wt_w1 (by decide) m1) (fun q hq => ?_)
          subst hq
          rw [if_pos rfl]
          refine wt_HH_lb (F wt_w2 (by decide) m2) (fun q hq => ?_)
          subst hq
          rw [if_pos rfl]
          refine wt_HH_lb (F wt_w3 (by decide) m3) (fun q hq => ?_)
          subst hq
          rw [if_pos rfl]
          refine wt_HH_lb (F wt_w4 (by decide) m4) (fun q hq => ?_)
          subst hq
          rw [if_pos rfl, if_pos (by decide), if_neg (by decide), if_neg (by decide), if_neg (by decide), Option.bind_assoc]
          exact wr_follow n hn ok3 (fun a y hp => wr_fin n hn hp)
        · exact absurd hy hy1
/-! a loop whose end goes on: the end may be taken out of it -/
theorem wt_it_fac {α ρ ρ' : Type} {body : (α → Option ρ) → α → Option ρ} {body' : (α → Option ρ') → α → Option ρ'} {r : ρ' → Option ρ} (h : ∀ (K : α → Option ρ') (s : α), body (fun a => (K a).bind r) s = (body' K s).bind r) : ∀ (n : Nat) (s : α), wt_it body n s = (wt_it body' n s).bind r := by
  intro n
  induction n with
  | zero => intro s; rfl
  | succ n ih =>
    intro s
    show body (wt_it body n) s = (body' (wt_it body' n) s).bind r
    rw [← h, show wt_it body n = (fun a => (wt_it body' n a).bind r) from funext ih]
noncomputable def wt_kL (n : Nat) (K : wt_St → Option wt_St) (s : wt_St) : Option wt_St :=
  if (wt_gf s 108 5) = 0 then
    if (wt_gf s 108 2) ≤ (wt_gf s 108 4) then some s
    else (wp_md_clause n s).bind fun q14 => (wp_md_blanks n q14).bind fun q15 => K q15
  else some s
theorem wt_kL_fac (n m : Nat) (s : wt_St) : wt_it (wp_md_kase_B41 n) m s = (wt_it (wt_kL n) m s).bind (wp_md_kase_B70 n) := by
  refine wt_it_fac (fun K s => ?_) m s
  unfold wp_md_kase_B41 wt_kL
  by_cases h1 : (wt_gf s 108 5) = 0
  · rw [if_pos h1, if_pos h1]
    by_cases h2 : (wt_gf s 108 2) ≤ (wt_gf s 108 4)
    · rw [if_pos h2, if_pos h2]
      rfl
    · rw [if_neg h2, if_neg h2]
      cases wp_md_clause n s with
      | none => rfl
      | some a =>
        show ((wp_md_blanks n a).bind fun q15 => (K q15).bind (wp_md_kase_B70 n)) = ((wp_md_blanks n a).bind fun q15 => K q15).bind (wp_md_kase_B70 n)
        cases wp_md_blanks n a with
        | none => rfl
        | some b => rfl
  · rw [if_neg h1, if_neg h1]
    rfl
theorem wt_HH_if2 {ρ ρ' ρ'' : Type} {x : Option (Int32 × wt_St)} {y : wt_St → Option (Int32 × wt_St)} {F K : wt_St → Option ρ} {x' : Option ρ'} {f' : ρ' → Option ρ''} {P : Int32 × wt_St → ρ' → Prop} {Q : ρ → ρ'' → Prop} (h : wt_HH (x.bind fun q5 => if q5.1 = 0 then some ((0 : Int32), q5.2) else y q5.2) x' P) (k0 : ∀ a b, a.1 = 0 → P a b → wt_HH (F a.2) (f' b) Q) (k1 : ∀ a b, ¬ a.1 = 0 → P a b → wt_HH (K a.2) (f' b) Q) : wt_HH (x.bind fun q5 => if q5.1 = 0 then F q5.2 else (y q5.2).bind fun q7 => if q7.1 = 0 then F q7.2 else K q7.2) (x'.bind f') Q := by
  cases x with
  | none => exact wt_HH_nl
  | some a =>
    cases x' with
    | none => exact wt_HH_nr
    | some b =>
      have h' : wt_HH (if a.1 = 0 then some ((0 : Int32), a.2) else y a.2) (some b) P := h
      show wt_HH (if a.1 = 0 then F a.2 else (y a.2).bind fun q7 => if q7.1 = 0 then F q7.2 else K q7.2) (f' b) Q
      by_cases ha : a.1 = 0
      · rw [if_pos ha] at h' ⊢
        exact k0 ((0 : Int32), a.2) b rfl (h' _ _ rfl rfl)
      · rw [if_neg ha] at h' ⊢
        cases hy : y a.2 with
        | none => exact wt_HH_nl
        | some c =>
          show wt_HH (if c.1 = 0 then F c.2 else K c.2) (f' b) Q
          have hp := h' c b hy rfl
          by_cases hc : c.1 = 0
          · rw [if_pos hc]; exact k0 c b hc hp
          · rw [if_neg hc]; exact k1 c b hc hp
theorem wh_over (n : Nat) (hn : 4294967297 < n) {β : Nat → Int32} {e k : Nat} {σ : wt_St} (h : wt_tv β e k σ) : wt_H (wp_tp_over n σ) (fun q => ∃ j, wt_run β e wt_bl k j ∧ wt_tv β e j q.2 ∧ (wt_gf q.2 1 5).toInt = (j : Int) ∧ wt_fr (fun i k => i = 1 ∧ (k = 4 ∨ k = 5)) (fun _ => False) σ q.2 ∧ ((q.1 = 0 ∧ j < e) ∨ (q.1 = 1 ∧ e ≤ j))) := by
  unfold wp_tp_over
  refine wt_H_bh (wh_skip n hn h) (fun s hs => ?_)
  obtain ⟨j, r1, tv, st, fr⟩ := hs
  have t2 := tv.2.1
  have t3 := tv.2.2.1
  refine wt_H_if (fun c => ?_) (fun c => ?_)
  · have c' := wt_clt c
    exact wt_H_some ⟨j, r1, tv, st, fr, Or.inl ⟨rfl, by omega⟩⟩
  · have c' := wt_ncl c
    exact wt_H_some ⟨j, r1, tv, st, fr, Or.inr ⟨rfl, by omega⟩⟩
theorem wt_run_self {β : Nat → Int32} {e : Nat} {P : Int → Prop} {k j : Nat} (h : wt_run β e P k j) : wt_run β e P j j := ⟨Nat.le_refl _, fun i h1 h2 => absurd h1 (by omega), h.2.2⟩
theorem wt_HH_itJ {α α' ρ ρ' : Type} {body : (α → Option ρ) → α → Option ρ} {body' : (α' → Option ρ') → α' → Option ρ'} {Q : ρ → ρ' → Prop} (I : α → α' → Prop) (J : α' → Prop) (QJ : α' → ρ' → Prop) (hJ : ∀ (n : Nat) (s' : α'), J s' → wt_H (wt_it body' n s') (QJ s')) (h : ∀ (K : α → Option ρ) (K' : α' → Option ρ') (s : α) (s' : α'), I s s' → (∀ t t', I t t' → wt_HH (K t) (K' t') Q) → (∀ t', J t' → wt_H (K' t') (QJ t')) → wt_HH (body K s) (body' K' s') Q) : ∀ (n n' : Nat) (s : α) (s' : α'), I s s' → wt_HH (wt_it body n s) (wt_it body' n' s') Q := by
  intro n
  induction n with
  | zero => intro n' s s' _; exact wt_HH_nl
  | succ n ih =>
    intro n' s s' hs
    cases n' with
    | zero => exact wt_HH_nr
    | succ n' => exact h _ _ s s' hs (fun t t' ht => ih n' t t' ht) (hJ n')
theorem wt_kL_f (n m : Nat) (s : wt_St) (h : ¬ wt_gf s 108 5 = 0) : wt_H (wt_it (wt_kL n) m s) (fun y => y = s) := by
  cases m with
  | zero => exact wt_H_none
  | succ m =>
    show wt_H (wt_kL n (wt_it (wt_kL n) m) s) _
    unfold wt_kL
    rw [if_neg h]
    exact wt_H_some rfl
set_option maxHeartbeats 4000000 in
/-- a case is read on both sides: the same fault, or the same tables -/
theorem wr_fillLoop (n m m' : Nat) (hn : 4294967297 < n) {β : Nat → Int32} {e k j : Nat} {s z : wt_St} (tv : wt_tv β e k s) (r : wt_run β e wt_bl k j) (rv : wt_rv β e j z) (h0 : wt_gf z 108 5 = 0) (lr : wt_lr 0 s z) : wt_HH (wt_it (wp_ld_fill_B6 n 12) m ((0 : Int32), s)) (wt_it (wt_kL n) m' z) (fun q y => (q.1 = 0 ∧ wt_ft q.2 y) ∨ (q.1 = 1 ∧ wt_gf y 108 5 = 0 ∧ ∃ c, wt_lr c q.2 y)) := by
  have k0 : (0 : Int32).toInt = 0 := by decide
  have k60 : (60 : Int32).toInt = 60 := by decide
  refine wt_HH_itJ (fun (t : Int32 × wt_St) (y : wt_St) => 0 ≤ t.1.toInt ∧ t.1.toInt ≤ 60 ∧ ∃ k j, wt_tv β e k t.2 ∧ wt_run β e wt_bl k j ∧ wt_rv β e j y ∧ wt_gf y 108 5 = 0 ∧ wt_lr t.1 t.2 y) (fun y => ¬ wt_gf y 108 5 = 0) (fun s y => y = s) (fun a b h => wt_kL_f n a b h) (fun K K' t y I hK hJ => ?_) m m' _ _ ⟨by show 0 ≤ ((0 : Int32)).toInt; omega, by show ((0 : Int32)).toInt ≤ 60; omega, k, j, tv, r, rv, h0, lr⟩
  obtain ⟨i1, i2, k, j, tv, r, rv, h0, lr⟩ := I
  unfold wp_ld_fill_B6 wt_kL
  rw [if_neg (fun c => by have := wt_clt c; omega), if_pos h0]
  refine wt_HH_l (wh_over n hn tv) (fun q3 h3 => ?_)
  obtain ⟨j', r', tv', st', fr', hc⟩ := h3
  have ej : j' = j := wt_run_u r' r
  rw [ej] at tv' hc
  have lr' : wt_lr t.1 q3.2 y := wt_lr_lxc _ _ _ _ lr (wt_frw fr' (fun i k h => h) (fun i h => h.elim)) wt_fr.rf
  have t2 := rv.2.1
  have t3 := rv.2.2.1
  rcases hc with ⟨c1, c2⟩ | ⟨c1, c2⟩
  · rw [if_pos c1, if_neg (fun c => by have := wt_cle c; omega)]
    refine wt_HH_if2 (y := wp_tp_needSign n (59 : Int32)) (F := fun q => some ((0 : Int32), q)) (K := fun q => K ((t.1 + (1 : Int32)), q)) (wr_clause n hn i1 i2 tv' rv h0 lr' (wt_run_self r)) (fun a b ha hp => ?_) (fun a b ha hp => ?_)
    · rcases hp with ⟨p1, p2⟩ | ⟨p1, -⟩
      · -- the reference skips blanks and stops at the fault
        obtain ⟨f, p, hf, hfl, hfr⟩ := p2
        have B : wt_H (wp_md_blanks n b) (fun w => wt_fr (fun i k => i = 108 ∧ k = 4) (fun _ => False) b w) := by
          unfold wp_md_blanks
          refine wt_H_it (fun w : wt_St => wt_fr (fun i k => i = 108 ∧ k = 4) (fun _ => False) b w) (fun K2 w hw hK2 => ?_) n b wt_fr.rf
          unfold wp_md_blanks_B0
          have BA : wt_H (wp_md_byteAt n (wt_gf w 108 4) w) (fun q => q.2 = w) := by
            unfold wp_md_byteAt
            exact wt_H_if (fun _ => wt_H_gd (fun _ => wt_H_some rfl)) (fun _ => wt_H_some rfl)
          refine wt_H_bh BA (fun q hq => ?_)
          rw [hq]
          refine wt_H_if (fun _ => hK2 _ (wt_fr.tr hw (wt_fr_sf rfl) (fun i k h => h) (fun i h => h))) (fun _ => wt_H_some hw)
        refine wt_HH_r B (fun w hw => ?_)
        have hw5 : wt_frt w f p := ⟨by rw [hw.1 108 5 (by (try dsimp only); omega)]; exact hfr.1, by rw [hw.1 108 6 (by (try dsimp only); omega)]; exact hfr.2⟩
        refine wt_HH_of (P := fun q => q = ((0 : Int32), a.2)) (P' := fun y => y = w) (wt_H_some rfl) ?_ (fun q y hq hy => Or.inl ⟨by rw [hq], f, p, hf, by rw [hq]; exact hfl, by rw [hy]; exact hw5⟩)
        exact hJ w (wt_frt_nz hw5 hf)
      · exact absurd ha (by rw [p1]; decide)
    · rcases hp with ⟨p1, -⟩ | ⟨p1, ⟨k2, tv2, rv2, h02, lr2⟩, hlt⟩
      · exact absurd p1 ha
      · refine wt_HH_r (wh_blanks n rv2) (fun w hw => ?_)
        obtain ⟨j3, r3, rv3, fr3⟩ := hw
        have ei := wt_i1 (c := t.1) (by omega)
        exact hK ((t.1 + (1 : Int32)), a.2) w ⟨by show 0 ≤ (t.1 + (1 : Int32)).toInt; omega, by show (t.1 + (1 : Int32)).toInt ≤ 60; omega, k2, j3, tv2, r3, rv3, (fr3.1 108 5 (by (try dsimp only); omega)).trans h02, wt_lr_lxc _ _ _ _ lr2 wt_fr.rf fr3⟩
  · rw [if_neg (by rw [c1]; decide), if_pos (Int32.le_iff_toInt_le.mpr (by omega))]
    exact wt_HH_some (Or.inr ⟨rfl, h0, t.1, lr'⟩)
end WTQ8
