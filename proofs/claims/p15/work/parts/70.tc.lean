/-! total correctness of the pure programs -/
def wt_T {α : Type} (p : Option α) (Q : α → Prop) : Prop := ∃ a, p = some a ∧ Q a
section WTT
variable {α β ρ : Type}
theorem wt_T_some {a : α} {Q : α → Prop} (h : Q a) : wt_T (some a) Q := ⟨a, rfl, h⟩
theorem wt_T_gd {c : Prop} [Decidable c] {A : Option α} {Q : α → Prop} (hc : ¬ c) (h : wt_T A Q) : wt_T (if c then none else A) Q := by rw [if_neg hc]; exact h
theorem wt_T_gp {c : Prop} [Decidable c] {A : Option α} {Q : α → Prop} (hc : c) (h : wt_T A Q) : wt_T (if c then A else none) Q := by rw [if_pos hc]; exact h
theorem wt_T_if {c : Prop} [Decidable c] {A B : Option α} {Q : α → Prop} (h1 : c → wt_T A Q) (h2 : ¬ c → wt_T B Q) : wt_T (if c then A else B) Q := by
  by_cases hc : c
  · rw [if_pos hc]; exact h1 hc
  · rw [if_neg hc]; exact h2 hc
theorem wt_T_bi {x : Option α} {f : α → Option β} {P : α → Prop} {Q : β → Prop} (h : wt_T x P) (k : ∀ a, P a → wt_T (f a) Q) : wt_T (x.bind f) Q := by
  obtain ⟨a, rfl, hp⟩ := h
  exact k a hp
theorem wt_T.imp {x : Option α} {P Q : α → Prop} (h : wt_T x P) (k : ∀ a, P a → Q a) : wt_T x Q := by
  obtain ⟨a, e, hp⟩ := h
  exact ⟨a, e, k a hp⟩
theorem wt_T_it {body : (α → Option ρ) → α → Option ρ} {Q : ρ → Prop} (I : α → Prop) (m : α → Nat) (h : ∀ (K : α → Option ρ) (s : α), I s → (∀ s', I s' → m s' < m s → wt_T (K s') Q) → wt_T (body K s) Q) : ∀ (n : Nat) (s : α), I s → m s < n → wt_T (wt_it body n s) Q := by
  intro n
  induction n with
  | zero => intro s _ h1; omega
  | succ n ih => intro s hs h1; exact h _ s hs (fun s' hs' hlt => ih s' hs' (by omega))
end WTT
theorem wt_clt {a b : Int32} (h : a < b) : a.toInt < b.toInt := Int32.lt_iff_toInt_lt.mp h
theorem wt_ncl {a b : Int32} (h : ¬ a < b) : b.toInt ≤ a.toInt := by rw [Int32.lt_iff_toInt_lt] at h; omega
theorem wt_cle {a b : Int32} (h : a ≤ b) : a.toInt ≤ b.toInt := Int32.le_iff_toInt_le.mp h
theorem wt_ncle {a b : Int32} (h : ¬ a ≤ b) : b.toInt < a.toInt := by rw [Int32.le_iff_toInt_le] at h; omega
theorem wt_ceq {a b : Int32} (h : a = b) : a.toInt = b.toInt := congrArg _ h
theorem wt_nceq {a b : Int32} (h : ¬ a = b) : a.toInt ≠ b.toInt := fun e => h (Int32.toInt_inj.mp e)
theorem wt_eqI {a b : Int32} (h : a.toInt = b.toInt) : a = b := Int32.toInt_inj.mp h
theorem wt_bd (x : Int32) : -2147483648 ≤ x.toInt ∧ x.toInt < 2147483648 := ⟨Int32.le_toInt x, Int32.toInt_lt x⟩
theorem wt_bm (z : Int) : ∃ k : Int, z.bmod (2 ^ 32) = z + 4294967296 * k := by
  refine ⟨(z.bmod (2 ^ 32) - z) / 4294967296, ?_⟩
  rw [Int.bmod_def]
  split <;> omega
theorem wt_addI (x y : Int32) : ∃ k : Int, (x + y).toInt = x.toInt + y.toInt + 4294967296 * k ∧ -2147483648 ≤ (x + y).toInt ∧ (x + y).toInt < 2147483648 := by
  obtain ⟨k, hk⟩ := wt_bm (x.toInt + y.toInt)
  exact ⟨k, by rw [Int32.toInt_add]; exact hk, wt_bd _⟩
theorem wt_subI (x y : Int32) : ∃ k : Int, (x - y).toInt = x.toInt - y.toInt + 4294967296 * k ∧ -2147483648 ≤ (x - y).toInt ∧ (x - y).toInt < 2147483648 := by
  obtain ⟨k, hk⟩ := wt_bm (x.toInt - y.toInt)
  exact ⟨k, by rw [Int32.toInt_sub]; exact hk, wt_bd _⟩
theorem wt_mulI (x y : Int32) : ∃ k : Int, (x * y).toInt = x.toInt * y.toInt + 4294967296 * k ∧ -2147483648 ≤ (x * y).toInt ∧ (x * y).toInt < 2147483648 := by
  obtain ⟨k, hk⟩ := wt_bm (x.toInt * y.toInt)
  exact ⟨k, by rw [Int32.toInt_mul]; exact hk, wt_bd _⟩
theorem wt_ix {x : Int32} {N : Nat} (h0 : 0 ≤ x.toInt) (h1 : x.toInt < (N : Int)) : ¬ (x < 0 ∨ N ≤ Int32.toNatClampNeg x) := by
  have e : (Int32.toNatClampNeg x : Int) = x.toInt := by unfold Int32.toNatClampNeg; omega
  rintro (h | h)
  · have := wt_clt h
    rw [show (0 : Int32).toInt = 0 from rfl] at this
    omega
  · omega
theorem wt_tn (x : Int32) : x.toInt < 0 ∨ (Int32.toNatClampNeg x : Int) = x.toInt := by
  unfold Int32.toNatClampNeg
  omega
theorem wt_ln_bd (r : Nat) : wt_ln r ≤ 2000 := by
  unfold wt_ln
  cases h : wt_LAY[r]? with
  | none => exact Nat.zero_le _
  | some q =>
    have hall : wt_LAY.all (fun q => decide (q.2.1 ≤ 2000)) = true := by decide +kernel
    exact of_decide_eq_true (List.all_eq_true.mp hall q (List.mem_of_getElem? h))
theorem wt_lnI (r : Nat) : (nI (wt_ln r)).toInt = (wt_ln r : Int) ∧ wt_ln r ≤ 2000 := ⟨nI_toInt (by have := wt_ln_bd r; omega), wt_ln_bd r⟩
/-! what stays -/
def wt_fr (F : Nat → Nat → Prop) (A : Nat → Prop) (σ σ' : wt_St) : Prop := (∀ i k, ¬ F i k → wt_gf σ' i k = wt_gf σ i k) ∧ ∀ i, ¬ A i → ∀ j, wt_ga σ' i j = wt_ga σ i j
theorem wt_fr.rf {F : Nat → Nat → Prop} {A : Nat → Prop} {σ : wt_St} : wt_fr F A σ σ := ⟨fun _ _ _ => rfl, fun _ _ _ => rfl⟩
theorem wt_fr.tr {F F2 : Nat → Nat → Prop} {A A2 : Nat → Prop} {σ σ1 σ2 : wt_St} (h1 : wt_fr F A σ σ1) (h2 : wt_fr F2 A2 σ1 σ2) (hF : ∀ i k, F2 i k → F i k) (hA : ∀ i, A2 i → A i) : wt_fr F A σ σ2 :=
  ⟨fun i k h => (h2.1 i k (fun z => h (hF i k z))).trans (h1.1 i k h), fun i h j => (h2.2 i (fun z => h (hA i z)) j).trans (h1.2 i h j)⟩
theorem wt_fr_sa {σ σ' : wt_St} {i j : Nat} {v : Int32} (e : σ' = wt_sa σ i j v) : wt_fr (fun _ _ => False) (fun i' => i' = i) σ σ' := by
  subst e
  exact ⟨fun _ _ _ => rfl, fun i' h j' => by rw [wt_ga_sa, if_neg (fun z => h z.1)]⟩
theorem wt_fr_sf {σ σ' : wt_St} {i k : Nat} {v : Int32} (e : σ' = wt_sf σ i k v) : wt_fr (fun i' k' => i' = i ∧ k' = k) (fun _ => False) σ σ' := by
  subst e
  exact ⟨fun i' k' h => by rw [wt_gf_sf, if_neg h], fun _ _ _ => rfl⟩
theorem wt_v_sa {σ σ' : wt_St} {i j : Nat} {v : Int32} (e : σ' = wt_sa σ i j v) : wt_ga σ' i j = v := by
  subst e
  rw [wt_ga_sa, if_pos ⟨rfl, rfl⟩]
theorem wt_w_sa {σ σ' : wt_St} {i j : Nat} {v : Int32} (e : σ' = wt_sa σ i j v) (j' : Nat) (h : j' ≠ j) : wt_ga σ' i j' = wt_ga σ i j' := by
  subst e
  rw [wt_ga_sa, if_neg (fun z => h z.2)]
theorem wt_v_sf {σ σ' : wt_St} {i k : Nat} {v : Int32} (e : σ' = wt_sf σ i k v) : wt_gf σ' i k = v := by
  subst e
  rw [wt_gf_sf, if_pos ⟨rfl, rfl⟩]
/-- what look answers -/
def wt_lk (a : Nat) (x : Int32) (σ : wt_St) : Int32 := if x < 0 then 0 else if nI (wt_ln a) ≤ x then 0 else wt_ga σ a (Int32.toNatClampNeg x)
theorem wt_lk_fr {a : Nat} {x : Int32} {σ σ' : wt_St} (h : ∀ j, wt_ga σ' a j = wt_ga σ a j) : wt_lk a x σ' = wt_lk a x σ := by
  unfold wt_lk
  rw [h]
def wt_lk2 (a b : Nat) (x : Int32) (σ : wt_St) : Int32 := wt_lk a (wt_lk b x σ) σ
theorem wt_lk2_fr {a b : Nat} {x : Int32} {σ σ' : wt_St} (h : ∀ j, wt_ga σ' a j = wt_ga σ a j) (h2 : ∀ j, wt_ga σ' b j = wt_ga σ b j) : wt_lk2 a b x σ' = wt_lk2 a b x σ := by
  unfold wt_lk2
  rw [wt_lk_fr h2, wt_lk_fr h]
theorem wt_lm1 : (-1 : Int32).toInt = -1 := by decide
theorem wt_lm2 : (-2 : Int32).toInt = -2 := by decide
theorem wt_lm8 : (-8 : Int32).toInt = -8 := by decide
theorem wt_i1 {c : Int32} (h : c.toInt < 2147483647) : (c + (1 : Int32)).toInt = c.toInt + 1 := by
  have k : (1 : Int32).toInt = 1 := by decide
  have b := wt_bd c
  rw [Jvm.Kit.i32_add (by omega) (by omega), k]
theorem wt_d1 {c : Int32} (h : -2147483648 < c.toInt) : (c + (-1 : Int32)).toInt = c.toInt - 1 := by
  have b := wt_bd c
  rw [Jvm.Kit.i32_add (by rw [wt_lm1]; omega) (by rw [wt_lm1]; omega), wt_lm1]
  omega
theorem wt_d8 {c : Int32} (h : -2147483640 < c.toInt) : (c + (-8 : Int32)).toInt = c.toInt - 8 := by
  have b := wt_bd c
  rw [Jvm.Kit.i32_add (by rw [wt_lm8]; omega) (by rw [wt_lm8]; omega), wt_lm8]
  omega
theorem wt_mu {B B' c : Int32} (hB : B'.toInt = B.toInt) (hc : c.toInt < B.toInt) : (B'.toInt - (c + (1 : Int32)).toInt + 0).toNat < (B.toInt - c.toInt + 0).toNat := by
  have b := wt_bd B
  rw [wt_i1 (by omega)]
  omega
theorem wt_mu1 {B B' c : Int32} (hB : B'.toInt = B.toInt) (hc : c.toInt ≤ B.toInt) (hb : B.toInt < 2147483647) : (B'.toInt - (c + (1 : Int32)).toInt + 1).toNat < (B.toInt - c.toInt + 1).toNat := by
  have b := wt_bd B
  rw [wt_i1 (by omega)]
  omega
theorem wt_nn {B c : Int32} (h0 : 0 ≤ c.toInt) (hc : c.toInt < B.toInt) : 0 ≤ (c + (1 : Int32)).toInt := by
  have b := wt_bd B
  rw [wt_i1 (by omega)]
  omega
theorem wt_nn1 {B c : Int32} (h0 : 0 ≤ c.toInt) (hc : c.toInt ≤ B.toInt) (hb : B.toInt < 2147483647) : 0 ≤ (c + (1 : Int32)).toInt := by
  rw [wt_i1 (by omega)]
  omega
theorem wt_md0 {c : Int32} (h : 0 < c.toInt) : ((c + (-1 : Int32)).toInt + 0).toNat < (c.toInt + 0).toNat := by
  rw [wt_d1 (by omega)]
  omega
theorem wt_md1 {c : Int32} (h : 0 ≤ c.toInt) : ((c + (-1 : Int32)).toInt + 1).toNat < (c.toInt + 1).toNat := by
  rw [wt_d1 (by omega)]
  omega
theorem wt_md8 {c : Int32} (h : 0 ≤ c.toInt) : ((c + (-8 : Int32)).toInt + 1).toNat < (c.toInt + 1).toNat := by
  rw [wt_d8 (by omega)]
  omega
theorem wt_T_rec {α ρ : Type} {body : (α → Option ρ) → α → Option ρ} (I : α → Prop) (m : α → Nat) (Q : α → ρ → Prop) (h : ∀ (R : α → Option ρ) (s : α), I s → (∀ s', I s' → m s' < m s → wt_T (R s') (Q s')) → wt_T (body R s) (Q s)) : ∀ (n : Nat) (s : α), I s → m s < n → wt_T (wt_it body n s) (Q s) := by
  intro n
  induction n with
  | zero => intro s _ h1; omega
  | succ n ih => intro s hs h1; exact h _ s hs (fun s' hs' hlt => ih s' hs' (by omega))
