/-! the reference's numbers: ranges that always hold -/
abbrev wt_fam : List (Nat × Nat × Int × Int) := [(110, 111, 0, 12), (111, 112, 0, 13), (112, 114, 0, 12), (120, 122, 0, 400), (122, 124, 0, 400), (125, 127, 0, 9), (127, 129, 0, 3), (132, 192, 0, 25), (193, 253, 0, 25), (253, 254, 0, 12), (255, 263, 0, 59), (274, 275, 0, 59), (275, 276, -1, 7), (276, 277, 0, 108), (278, 282, 0, 337), (288, 289, 0, 337), (319, 320, 0, 59), (286, 287, 0, 400), (114, 116, 0, 99)]
abbrev wt_famF : List (Nat × Int × Int) := [(1, 0, 500), (2, 0, 500), (4, 0, 500), (5, 0, 3), (7, 0, 60), (27, 0, 60), (28, 0, 60), (39, 0, 8), (40, 0, 10), (41, 0, 3), (54, 0, 108)]
def wt_RW (σ : wt_St) : Prop := ∀ i, 264 ≤ i → i < 274 → (0 ≤ (wt_ga σ i 0).toInt ∧ (wt_ga σ i 0).toInt ≤ 7) ∧ 0 ≤ (wt_ga σ i 1).toInt ∧ (wt_ga σ i 1).toInt ≤ 400
def wt_RI (σ : wt_St) : Prop := (∀ q ∈ wt_fam, ∀ i, q.1 ≤ i → i < q.2.1 → ∀ j, q.2.2.1 ≤ (wt_ga σ i j).toInt ∧ (wt_ga σ i j).toInt ≤ q.2.2.2) ∧ (∀ q ∈ wt_famF, q.2.1 ≤ (wt_gf σ 108 q.1).toInt ∧ (wt_gf σ 108 q.1).toInt ≤ q.2.2) ∧ wt_RW σ
theorem wt_R_ga {σ : wt_St} (h : wt_RI σ) (k : Nat) {q : Nat × Nat × Int × Int} (hk : wt_fam[k]? = some q) (i : Nat) (h1 : q.1 ≤ i) (h2 : i < q.2.1) (j : Nat) : q.2.2.1 ≤ (wt_ga σ i j).toInt ∧ (wt_ga σ i j).toInt ≤ q.2.2.2 := h.1 q (List.mem_of_getElem? hk) i h1 h2 j
theorem wt_R_gf {σ : wt_St} (h : wt_RI σ) (k : Nat) {q : Nat × Int × Int} (hk : wt_famF[k]? = some q) : q.2.1 ≤ (wt_gf σ 108 q.1).toInt ∧ (wt_gf σ 108 q.1).toInt ≤ q.2.2 := h.2.1 q (List.mem_of_getElem? hk)
theorem wt_R_w {σ : wt_St} (h : wt_RI σ) (i : Nat) (h1 : 264 ≤ i) (h2 : i < 274) : (0 ≤ (wt_ga σ i 0).toInt ∧ (wt_ga σ i 0).toInt ≤ 7) ∧ 0 ≤ (wt_ga σ i 1).toInt ∧ (wt_ga σ i 1).toInt ≤ 400 := h.2.2 i h1 h2
theorem wt_fam_w : wt_fam.all (fun q => decide (q.2.1 ≤ 264) || decide (274 ≤ q.1)) = true := by decide +kernel
theorem wt_fam_apart : (List.range wt_fam.length).all (fun a => (List.range wt_fam.length).all (fun b => a == b || decide ((wt_fam.getD a (0, 0, 0, 0)).2.1 ≤ (wt_fam.getD b (0, 0, 0, 0)).1) || decide ((wt_fam.getD b (0, 0, 0, 0)).2.1 ≤ (wt_fam.getD a (0, 0, 0, 0)).1))) = true := by decide +kernel
theorem wt_fam_one {a b i : Nat} {p q : Nat × Nat × Int × Int} (ha : wt_fam[a]? = some p) (hb : wt_fam[b]? = some q) (p1 : p.1 ≤ i) (p2 : i < p.2.1) (q1 : q.1 ≤ i) (q2 : i < q.2.1) : p = q := by
  have la := (List.getElem?_eq_some_iff.mp ha).1
  have lb := (List.getElem?_eq_some_iff.mp hb).1
  have h := List.all_eq_true.mp (List.all_eq_true.mp wt_fam_apart a (List.mem_range.mpr la)) b (List.mem_range.mpr lb)
  have ea : wt_fam.getD a (0, 0, 0, 0) = p := by rw [List.getD_eq_getElem?_getD, ha]; rfl
  have eb : wt_fam.getD b (0, 0, 0, 0) = q := by rw [List.getD_eq_getElem?_getD, hb]; rfl
  rw [ea, eb] at h
  simp only [Bool.or_eq_true, beq_iff_eq, decide_eq_true_eq] at h
  rcases h with (h | h) | h
  · subst h
    exact Option.some.inj (ha.symm.trans hb)
  · omega
  · omega
theorem wt_RI_in {σ σ' : wt_St} {i j : Nat} {v : Int32} (h : wt_RI σ) (e : σ' = wt_sa σ i j v) (k : Nat) {q : Nat × Nat × Int × Int} (hk : wt_fam[k]? = some q) (h1 : q.1 ≤ i) (h2 : i < q.2.1) (h3 : q.2.2.1 ≤ v.toInt) (h4 : v.toInt ≤ q.2.2.2) : wt_RI σ' := by
  subst e
  refine ⟨fun p hp i' p1 p2 j' => ?_, fun p hp => h.2.1 p hp, fun i' w1 w2 => ?_⟩
  rotate_left
  · have hz := List.all_eq_true.mp wt_fam_w q (List.mem_of_getElem? hk)
    simp only [Bool.or_eq_true, decide_eq_true_eq] at hz
    rw [wt_ga_sa, wt_ga_sa, if_neg (by omega), if_neg (by omega)]
    exact h.2.2 i' w1 w2
  rw [wt_ga_sa]
  by_cases hc : i' = i ∧ j' = j
  · rw [if_pos hc]
    obtain ⟨rfl, rfl⟩ := hc
    obtain ⟨b, hb⟩ := List.getElem?_of_mem hp
    have := wt_fam_one hk hb h1 h2 p1 p2
    subst this
    exact ⟨h3, h4⟩
  · rw [if_neg hc]
    exact h.1 p hp i' p1 p2 j'
theorem wt_RI_no {σ σ' : wt_St} {i j : Nat} {v : Int32} (h : wt_RI σ) (e : σ' = wt_sa σ i j v) (a b : Nat) (hab : (wt_fam.all (fun q => decide (q.2.1 ≤ a) || decide (b ≤ q.1)) && (decide (274 ≤ a) || decide (b ≤ 264))) = true) (h1 : a ≤ i) (h2 : i < b) : wt_RI σ' := by
  subst e
  rw [Bool.and_eq_true] at hab
  refine ⟨fun p hp i' p1 p2 j' => ?_, fun p hp => h.2.1 p hp, fun i' w1 w2 => ?_⟩
  rotate_left
  · have hz := hab.2
    simp only [Bool.or_eq_true, decide_eq_true_eq] at hz
    rw [wt_ga_sa, wt_ga_sa, if_neg (by omega), if_neg (by omega)]
    exact h.2.2 i' w1 w2
  rw [wt_ga_sa, if_neg]
  · exact h.1 p hp i' p1 p2 j'
  · rintro ⟨rfl, -⟩
    have := List.all_eq_true.mp hab.1 p hp
    simp only [Bool.or_eq_true, decide_eq_true_eq] at this
    omega
theorem wt_RI_fin {σ σ' : wt_St} {kf : Nat} {v : Int32} (h : wt_RI σ) (e : σ' = wt_sf σ 108 kf v) (k : Nat) {q : Nat × Int × Int} (hk : wt_famF[k]? = some q) (hq : q.1 = kf) (h3 : q.2.1 ≤ v.toInt) (h4 : v.toInt ≤ q.2.2) : wt_RI σ' := by
  subst e
  subst hq
  refine ⟨fun p hp i' p1 p2 j' => h.1 p hp i' p1 p2 j', fun p hp => ?_, fun i' w1 w2 => h.2.2 i' w1 w2⟩
  rw [wt_gf_sf]
  by_cases hc : (108 : Nat) = 108 ∧ p.1 = q.1
  · rw [if_pos hc]
    have hu : wt_famF.all (fun p => wt_famF.all (fun q => (! (p.1 == q.1)) || p == q)) = true := by decide +kernel
    have := List.all_eq_true.mp (List.all_eq_true.mp hu p hp) q (List.mem_of_getElem? hk)
    simp only [Bool.or_eq_true, Bool.not_eq_true', beq_eq_false_iff_ne, beq_iff_eq] at this
    rcases this with z | z
    · exact absurd hc.2 z
    · subst z
      exact ⟨h3, h4⟩
  · rw [if_neg hc]
    exact h.2.1 p hp
theorem wt_RI_fno {σ σ' : wt_St} {i kf : Nat} {v : Int32} (h : wt_RI σ) (e : σ' = wt_sf σ i kf v) (hn : i ≠ 108 ∨ wt_famF.all (fun q => ! (q.1 == kf)) = true) : wt_RI σ' := by
  subst e
  refine ⟨fun p hp i' p1 p2 j' => h.1 p hp i' p1 p2 j', fun p hp => ?_, fun i' w1 w2 => h.2.2 i' w1 w2⟩
  rw [wt_gf_sf, if_neg]
  · exact h.2.1 p hp
  · rintro ⟨z1, z2⟩
    rcases hn with hn | hn
    · exact hn z1.symm
    · have := List.all_eq_true.mp hn p hp
      rw [z2] at this
      simp at this
/-- what another's changes leave -/
theorem wt_RI_fr {σ σ' : wt_St} {F : Nat → Nat → Prop} {A : Nat → Prop} (h : wt_RI σ) (f : wt_fr F A σ σ') (hF : ∀ k, ¬ F 108 k) (hA : ∀ i, 108 ≤ i → ¬ A i) : wt_RI σ' := by
  refine ⟨fun p hp i p1 p2 j => ?_, fun p hp => ?_, fun i w1 w2 => ?_⟩
  · have hl : wt_fam.all (fun q => decide (108 ≤ q.1)) = true := by decide +kernel
    have := of_decide_eq_true (List.all_eq_true.mp hl p hp)
    rw [f.2 i (hA i (by omega)) j]
    exact h.1 p hp i p1 p2 j
  · rw [f.1 108 p.1 (hF p.1)]
    exact h.2.1 p hp
  · rw [f.2 i (hA i (by omega)) 0, f.2 i (hA i (by omega)) 1]
    exact h.2.2 i w1 w2
theorem wt_tn0 : Int32.toNatClampNeg (0 : Int32) = 0 := by decide
theorem wt_tn1 : Int32.toNatClampNeg (1 : Int32) = 1 := by decide
theorem wt_R_w0 {σ : wt_St} (h : wt_RI σ) (i : Nat) (h1 : 264 ≤ i) (h2 : i < 274) : 0 ≤ (wt_ga σ i (Int32.toNatClampNeg (0 : Int32))).toInt ∧ (wt_ga σ i (Int32.toNatClampNeg (0 : Int32))).toInt ≤ 7 := by
  rw [wt_tn0]
  exact (h.2.2 i h1 h2).1
theorem wt_R_w1 {σ : wt_St} (h : wt_RI σ) (i : Nat) (h1 : 264 ≤ i) (h2 : i < 274) : 0 ≤ (wt_ga σ i (Int32.toNatClampNeg (1 : Int32))).toInt ∧ (wt_ga σ i (Int32.toNatClampNeg (1 : Int32))).toInt ≤ 400 := by
  rw [wt_tn1]
  exact (h.2.2 i h1 h2).2
def wt_M12 (σ : wt_St) : Prop := ∀ j, (wt_ga σ 111 j).toInt ≤ 12
theorem wt_M_in {σ σ' : wt_St} {j : Nat} {v : Int32} (h : wt_M12 σ) (e : σ' = wt_sa σ 111 j v) (hv : v.toInt ≤ 12) : wt_M12 σ' := by
  subst e
  intro j'
  rw [wt_ga_sa]
  by_cases hc : (111 : Nat) = 111 ∧ j' = j
  · rw [if_pos hc]; exact hv
  · rw [if_neg hc]; exact h j'
theorem wt_M_no {σ σ' : wt_St} {i j : Nat} {v : Int32} (h : wt_M12 σ) (e : σ' = wt_sa σ i j v) (hi : ¬ i = 111) : wt_M12 σ' := by
  subst e
  intro j'
  rw [wt_ga_sa, if_neg (fun z => hi z.1.symm)]
  exact h j'
theorem wt_M_sf {σ σ' : wt_St} {i k : Nat} {v : Int32} (h : wt_M12 σ) (e : σ' = wt_sf σ i k v) : wt_M12 σ' := by
  subst e
  exact h
theorem wt_M_fr {σ σ' : wt_St} {F : Nat → Nat → Prop} {A : Nat → Prop} (h : wt_M12 σ) (f : wt_fr F A σ σ') (hA : ¬ A 111) : wt_M12 σ' := fun j => by
  rw [f.2 111 hA j]
  exact h j
theorem wt_RI_w {σ σ' : wt_St} {i j : Nat} {v : Int32} (h : wt_RI σ) (e : σ' = wt_sa σ i j v) (h1 : 264 ≤ i) (h2 : i < 274) (h3 : j = 0 → 0 ≤ v.toInt ∧ v.toInt ≤ 7) (h4 : j = 1 → 0 ≤ v.toInt ∧ v.toInt ≤ 400) : wt_RI σ' := by
  subst e
  refine ⟨fun p hp i' p1 p2 j' => ?_, fun p hp => h.2.1 p hp, fun i' w1 w2 => ?_⟩
  · have hz := List.all_eq_true.mp wt_fam_w p hp
    simp only [Bool.or_eq_true, decide_eq_true_eq] at hz
    rw [wt_ga_sa, if_neg (by omega)]
    exact h.1 p hp i' p1 p2 j'
  · have hw := h.2.2 i' w1 w2
    rw [wt_ga_sa, wt_ga_sa]
    refine ⟨?_, ?_⟩
    · by_cases hc : i' = i ∧ (0 : Nat) = j
      · rw [if_pos hc]; exact h3 hc.2.symm
      · rw [if_neg hc]; exact hw.1
    · by_cases hc : i' = i ∧ (1 : Nat) = j
      · rw [if_pos hc]; exact h4 hc.2.symm
      · rw [if_neg hc]; exact hw.2
def wt_sum (f : Nat → Int) : Nat → Int
  | 0 => 0
  | m + 1 => wt_sum f m + f m
/-- what is needed: never below none, and not more than fits on a page -/
def wt_NB (σ : wt_St) : Prop := (∀ l, l < 26 → 0 ≤ (wt_ga σ 287 l).toInt) ∧ wt_sum (fun l => (wt_ga σ 287 l).toInt) 26 ≤ 108
/-- how many of the first are such -/
def wt_ct (f : Nat → Int) (l : Int) (m : Nat) : Int := wt_sum (fun k => if f k = l then 1 else 0) m
/-- what a word needs of a letter, what a text needs, what a page holds -/
def wt_nw (σ : wt_St) (w : Nat) (l : Int) : Int := wt_ct (fun k => (wt_ga σ (193 + w) k).toInt) l (Int32.toNatClampNeg (wt_ga σ 126 w))
def wt_nt (σ : wt_St) (t : Nat) (l : Int) : Int := wt_sum (fun k => wt_nw σ (Int32.toNatClampNeg (wt_ga σ (255 + t) k)) l) (Int32.toNatClampNeg (wt_ga σ 253 t))
def wt_pc (σ : wt_St) (g : Nat) (l : Int) : Int := wt_ct (fun k => (wt_ga σ (278 + g) k).toInt / 13) l (Int32.toNatClampNeg (wt_ga σ 276 g))
def wt_PG (σ : wt_St) : Prop := ∀ g, g < 4 → (wt_ga σ 275 g).toInt ≠ -1 → (wt_ga σ 275 g).toInt < (wt_gf σ 108 39).toInt ∧ ∀ l : Int, 0 ≤ l → l < 26 → wt_nt σ (Int32.toNatClampNeg (wt_ga σ 275 g)) l ≤ wt_pc σ g l
def wt_PA (i : Nat) : Prop := i = 126 ∨ (193 ≤ i ∧ i < 254) ∨ (255 ≤ i ∧ i < 263) ∨ i = 275 ∨ i = 276 ∨ (278 ≤ i ∧ i < 282)
theorem wt_nw_fr {σ σ' : wt_St} {w : Nat} {l : Int} (hw : w ≤ 59) (h : ∀ i, wt_PA i → ∀ j, wt_ga σ' i j = wt_ga σ i j) : wt_nw σ' w l = wt_nw σ w l := by
  unfold wt_nw
  rw [h 126 (Or.inl rfl) w]
  have e : (fun k => (wt_ga σ' (193 + w) k).toInt) = (fun k => (wt_ga σ (193 + w) k).toInt) := by
    funext k
    rw [h (193 + w) (Or.inr (Or.inl ⟨by omega, by omega⟩)) k]
  rw [e]
theorem wt_nt_fr {σ σ' : wt_St} {t : Nat} {l : Int} (r : wt_RI σ) (ht : t ≤ 7) (h : ∀ i, wt_PA i → ∀ j, wt_ga σ' i j = wt_ga σ i j) : wt_nt σ' t l = wt_nt σ t l := by
  unfold wt_nt
  rw [h 253 (Or.inr (Or.inl ⟨by omega, by omega⟩)) t]
  have e : (fun k => wt_nw σ' (Int32.toNatClampNeg (wt_ga σ' (255 + t) k)) l) = (fun k => wt_nw σ (Int32.toNatClampNeg (wt_ga σ (255 + t) k)) l) := by
    funext k
    have g := wt_R_ga r 10 rfl (255 + t) (show 255 ≤ 255 + t by omega) (show 255 + t < 263 by omega) k
    rw [h (255 + t) (Or.inr (Or.inr (Or.inl ⟨by omega, by omega⟩))) k]
    exact wt_nw_fr (wt_tnle (b := 59) g.2) h
  rw [e]
theorem wt_pc_fr {σ σ' : wt_St} {g : Nat} {l : Int} (hg : g < 4) (h : ∀ i, wt_PA i → ∀ j, wt_ga σ' i j = wt_ga σ i j) : wt_pc σ' g l = wt_pc σ g l := by
  unfold wt_pc
  rw [h 276 (Or.inr (Or.inr (Or.inr (Or.inr (Or.inl rfl))))) g]
  have e : (fun k => (wt_ga σ' (278 + g) k).toInt / 13) = (fun k => (wt_ga σ (278 + g) k).toInt / 13) := by
    funext k
    rw [h (278 + g) (Or.inr (Or.inr (Or.inr (Or.inr (Or.inr ⟨by omega, by omega⟩))))) k]
  rw [e]
theorem wt_PG_eq {σ σ' : wt_St} (r : wt_RI σ) (p : wt_PG σ) (hf : wt_gf σ' 108 39 = wt_gf σ 108 39) (h : ∀ i, wt_PA i → ∀ j, wt_ga σ' i j = wt_ga σ i j) : wt_PG σ' := by
  intro g hg hne
  have e := h 275 (Or.inr (Or.inr (Or.inr (Or.inl rfl)))) g
  rw [e] at hne ⊢
  rw [hf]
  refine ⟨(p g hg hne).1, fun l h0 h1 => ?_⟩
  have gt := wt_R_ga r 12 rfl 275 (by decide) (by decide) g
  rw [wt_nt_fr r (wt_tnle (b := 7) gt.2) h, wt_pc_fr hg h]
  exact (p g hg hne).2 l h0 h1
theorem wt_PG_fr {σ σ' : wt_St} {F : Nat → Nat → Prop} {A : Nat → Prop} (r : wt_RI σ) (p : wt_PG σ) (f : wt_fr F A σ σ') (hF : ¬ F 108 39) (hA : ∀ i, wt_PA i → ¬ A i) : wt_PG σ' := wt_PG_eq r p (f.1 108 39 hF) (fun i hi j => f.2 i (hA i hi) j)
theorem wt_sum_bd {f : Nat → Int} {c : Int} : ∀ (m : Nat), (∀ k, k < m → 0 ≤ f k ∧ f k ≤ c) → 0 ≤ wt_sum f m ∧ wt_sum f m ≤ c * m := by
  intro m
  induction m with
  | zero => intro _; exact ⟨Int.le_refl _, by simp [wt_sum]⟩
  | succ m ih =>
    intro h
    have h1 := ih (fun k hk => h k (by omega))
    have h2 := h m (by omega)
    have e : c * ((m + 1 : Nat) : Int) = c * m + c := by rw [Int.natCast_succ, Int.mul_add, Int.mul_one]
    rw [e]
    show 0 ≤ wt_sum f m + f m ∧ wt_sum f m + f m ≤ c * m + c
    omega
theorem wt_sum_congr {f g : Nat → Int} : ∀ (m : Nat), (∀ k, k < m → f k = g k) → wt_sum f m = wt_sum g m := by
  intro m
  induction m with
  | zero => intro _; rfl
  | succ m ih =>
    intro h
    show wt_sum f m + f m = wt_sum g m + g m
    rw [ih (fun k hk => h k (by omega)), h m (by omega)]
theorem wt_sum_add {f g : Nat → Int} : ∀ (m : Nat), wt_sum (fun k => f k + g k) m = wt_sum f m + wt_sum g m := by
  intro m
  induction m with
  | zero => rfl
  | succ m ih =>
    show wt_sum (fun k => f k + g k) m + (f m + g m) = wt_sum f m + f m + (wt_sum g m + g m)
    omega
theorem wt_sum_le {f g : Nat → Int} : ∀ (m : Nat), (∀ k, k < m → f k ≤ g k) → wt_sum f m ≤ wt_sum g m := by
  intro m
  induction m with
  | zero => intro _; exact Int.le_refl _
  | succ m ih =>
    intro h
    have h1 := ih (fun k hk => h k (by omega))
    have h2 := h m (by omega)
    show wt_sum f m + f m ≤ wt_sum g m + g m
    omega
theorem wt_ct_bd (f : Nat → Int) (l : Int) (m : Nat) : 0 ≤ wt_ct f l m ∧ wt_ct f l m ≤ m := by
  have h := wt_sum_bd (f := fun k => if f k = l then 1 else 0) (c := 1) m (fun k _ => by
    show 0 ≤ (if f k = l then (1 : Int) else 0) ∧ (if f k = l then (1 : Int) else 0) ≤ 1
    split <;> omega)
  unfold wt_ct
  omega
theorem wt_sum_one (v : Int) : ∀ (m : Nat), wt_sum (fun l => if v = (l : Int) then 1 else 0) m ≤ 1 ∧ (v < 0 ∨ (m : Int) ≤ v → wt_sum (fun l => if v = (l : Int) then 1 else 0) m = 0) := by
  intro m
  induction m with
  | zero => exact ⟨by simp [wt_sum], fun _ => rfl⟩
  | succ m ih =>
    show wt_sum (fun l => if v = (l : Int) then 1 else 0) m + (if v = (m : Int) then 1 else 0) ≤ 1 ∧ (v < 0 ∨ ((m + 1 : Nat) : Int) ≤ v → wt_sum (fun l => if v = (l : Int) then 1 else 0) m + (if v = (m : Int) then 1 else 0) = 0)
    by_cases h : v = (m : Int)
    · rw [if_pos h]
      have := ih.2 (by omega)
      omega
    · rw [if_neg h]
      refine ⟨by omega, fun hh => ?_⟩
      have := ih.2 (by omega)
      omega
theorem wt_sum_ct (f : Nat → Int) (L : Nat) : ∀ (m : Nat), wt_sum (fun l => wt_ct f (l : Int) m) L ≤ m := by
  intro m
  induction m with
  | zero =>
    have h := wt_sum_bd (f := fun l => wt_ct f (l : Int) 0) (c := 0) L (fun k _ => ⟨Int.le_refl _, Int.le_refl _⟩)
    omega
  | succ m ih =>
    have e : wt_sum (fun l => wt_ct f (l : Int) (m + 1)) L = wt_sum (fun l => wt_ct f (l : Int) m) L + wt_sum (fun l => if f m = (l : Int) then 1 else 0) L := wt_sum_add L
    have h1 := (wt_sum_one (f m) L).1
    rw [e]
    omega
theorem wt_nw_bd {σ : wt_St} (r : wt_RI σ) (w : Nat) (l : Int) : 0 ≤ wt_nw σ w l ∧ wt_nw σ w l ≤ 9 := by
  have h := wt_ct_bd (fun k => (wt_ga σ (193 + w) k).toInt) l (Int32.toNatClampNeg (wt_ga σ 126 w))
  have g : 0 ≤ (wt_ga σ 126 w).toInt ∧ (wt_ga σ 126 w).toInt ≤ 9 := wt_R_ga r 5 rfl 126 (by decide) (by decide) w
  have := wt_tnI g.1
  unfold wt_nw
  omega
/-- how many pieces of a letter lie free and are good for so many -/
def wt_gf1 (σ : wt_St) (c : Int) (i : Nat) : Int := if (wt_ga σ 124 i).toInt = -1 ∧ c ≤ (wt_ga σ 121 i).toInt then 1 else 0
def wt_go (σ : wt_St) (c : Int) (l : Nat) : Int := wt_sum (fun j => wt_gf1 σ c (13 * l + j)) (Int32.toNatClampNeg (wt_ga σ 111 l))
theorem wt_gf1_bd (σ : wt_St) (c : Int) (i : Nat) : 0 ≤ wt_gf1 σ c i ∧ wt_gf1 σ c i ≤ 1 := by
  unfold wt_gf1
  split <;> omega
theorem wt_sum_off {f g : Nat → Int} {j : Nat} : ∀ (m : Nat), (∀ k, k < m → k ≠ j → f k = g k) → f j ≤ g j + 1 → wt_sum f m ≤ wt_sum g m + 1 ∧ (m ≤ j → wt_sum f m = wt_sum g m) := by
  intro m
  induction m with
  | zero => intro _ _; exact ⟨by simp [wt_sum], fun _ => rfl⟩
  | succ m ih =>
    intro h hj
    have h1 := ih (fun k hk => h k (by omega)) hj
    show wt_sum f m + f m ≤ wt_sum g m + g m + 1 ∧ (m + 1 ≤ j → wt_sum f m + f m = wt_sum g m + g m)
    by_cases e : m = j
    · subst e
      have := h1.2 (Nat.le_refl _)
      exact ⟨by omega, fun z => by omega⟩
    · have h2 := h m (by omega) e
      refine ⟨by omega, fun z => ?_⟩
      have := h1.2 (by omega)
      omega
theorem wt_go_eq {σ σ' : wt_St} {c : Int} {l : Nat} (hm : (wt_ga σ 111 l).toInt ≤ 13) (e : wt_ga σ' 111 l = wt_ga σ 111 l) (h : ∀ j, j < 13 → wt_ga σ' 124 (13 * l + j) = wt_ga σ 124 (13 * l + j) ∧ wt_ga σ' 121 (13 * l + j) = wt_ga σ 121 (13 * l + j)) : wt_go σ' c l = wt_go σ c l := by
  unfold wt_go
  rw [e]
  have := wt_tnle (b := 13) hm
  refine wt_sum_congr _ (fun j hj => ?_)
  show wt_gf1 σ' c (13 * l + j) = wt_gf1 σ c (13 * l + j)
  unfold wt_gf1
  rw [(h j (by omega)).1, (h j (by omega)).2]
theorem wt_go_off {σ σ' : wt_St} {c : Int} {l j0 : Nat} (hm : (wt_ga σ 111 l).toInt ≤ 13) (e : wt_ga σ' 111 l = wt_ga σ 111 l) (h : ∀ j, j < 13 → j ≠ j0 → wt_ga σ' 124 (13 * l + j) = wt_ga σ 124 (13 * l + j) ∧ wt_ga σ' 121 (13 * l + j) = wt_ga σ 121 (13 * l + j)) : wt_go σ c l ≤ wt_go σ' c l + 1 := by
  unfold wt_go
  rw [e]
  have hm2 := wt_tnle (b := 13) hm
  refine (wt_sum_off (j := j0) _ (fun j hj hne => ?_) ?_).1
  · show wt_gf1 σ c (13 * l + j) = wt_gf1 σ' c (13 * l + j)
    unfold wt_gf1
    rw [(h j (by omega) hne).1, (h j (by omega) hne).2]
  · have a := wt_gf1_bd σ c (13 * l + j0)
    have b := wt_gf1_bd σ' c (13 * l + j0)
    show wt_gf1 σ c (13 * l + j0) ≤ wt_gf1 σ' c (13 * l + j0) + 1
    omega
theorem wt_sum_pre {f : Nat → Int} {a : Nat} : ∀ (m : Nat), a ≤ m → (∀ k, k < m → 0 ≤ f k) → wt_sum f a ≤ wt_sum f m := by
  intro m
  induction m with
  | zero => intro h _; rw [show a = 0 by omega]; exact Int.le_refl _
  | succ m ih =>
    intro h hf
    by_cases e : a = m + 1
    · rw [e]; exact Int.le_refl _
    · have h1 := ih (by omega) (fun k hk => hf k (by omega))
      have h2 := hf m (by omega)
      show wt_sum f a ≤ wt_sum f m + f m
      omega
theorem wt_ct_congr {f g : Nat → Int} {l : Int} (m : Nat) (h : ∀ k, k < m → f k = g k) : wt_ct f l m = wt_ct g l m := by
  unfold wt_ct
  exact wt_sum_congr m (fun k hk => by show (if f k = l then (1 : Int) else 0) = (if g k = l then 1 else 0); rw [h k hk])
abbrev wt_tk (σ : wt_St) (l : Nat) : Int := wt_ct (fun k => (wt_ga σ 288 k).toInt / 13) l (Int32.toNatClampNeg (wt_gf σ 108 54))
def wt_LP (σ : wt_St) : Prop := ∀ j, j < 338 → 0 ≤ (wt_ga σ 121 j).toInt ∧ (wt_ga σ 121 j).toInt ≤ 400
theorem wt_LP_fr {σ σ' : wt_St} {F : Nat → Nat → Prop} {A : Nat → Prop} (h : wt_LP σ) (f : wt_fr F A σ σ') (hA : ¬ A 121) : wt_LP σ' := fun j hj => by
  rw [f.2 121 hA j]
  exact h j hj
theorem wt_sum_all {f : Nat → Int} : ∀ (m : Nat), (∀ k, k < m → f k = 1) → wt_sum f m = m := by
  intro m
  induction m with
  | zero => intro _; rfl
  | succ m ih =>
    intro h
    show wt_sum f m + f m = ((m + 1 : Nat) : Int)
    rw [ih (fun k hk => h k (by omega)), h m (by omega)]
    omega
theorem wt_NB_le {σ : wt_St} (h : wt_NB σ) (l : Nat) (hl : l < 26) : 0 ≤ (wt_ga σ 287 l).toInt ∧ (wt_ga σ 287 l).toInt ≤ 108 := by
  have h1 := wt_sum_pre (f := fun l => (wt_ga σ 287 l).toInt) (a := l + 1) 26 (by omega) h.1
  have h2 : wt_sum (fun l => (wt_ga σ 287 l).toInt) (l + 1) = wt_sum (fun l => (wt_ga σ 287 l).toInt) l + (wt_ga σ 287 l).toInt := rfl
  have h3 := wt_sum_pre (f := fun l => (wt_ga σ 287 l).toInt) (a := 0) l (by omega) (fun k hk => h.1 k (by omega))
  have h4 : wt_sum (fun l => (wt_ga σ 287 l).toInt) 0 = 0 := rfl
  have := h.1 l hl
  have := h.2
  omega
abbrev wt_un (σ : wt_St) (m : Nat) : Int := wt_sum (fun j => if (wt_ga σ 320 j).toInt < 0 then 1 else 0) m
/-- the pieces taken: they stand on that page, are good for so many, and no one comes twice -/
def wt_TD (σ : wt_St) (c p : Int) : Prop := ∀ k : Nat, (k : Int) < (wt_gf σ 108 54).toInt → (wt_ga σ 124 (Int32.toNatClampNeg (wt_ga σ 288 k))).toInt = p ∧ c ≤ (wt_ga σ 121 (Int32.toNatClampNeg (wt_ga σ 288 k))).toInt ∧ ∀ k', k' < k → wt_ga σ 288 k' ≠ wt_ga σ 288 k
/-- no piece stands twice on a page -/
def wt_PD (σ : wt_St) : Prop := ∀ g, g < 4 → ∀ k k' : Nat, k' < k → (k : Int) < (wt_ga σ 276 g).toInt → wt_ga σ (278 + g) k' ≠ wt_ga σ (278 + g) k
theorem wt_PD_fr {σ σ' : wt_St} {F : Nat → Nat → Prop} {A : Nat → Prop} (p : wt_PD σ) (f : wt_fr F A σ σ') (hA : ∀ i, i = 276 ∨ (278 ≤ i ∧ i < 282) → ¬ A i) : wt_PD σ' := fun g hg k k' h1 h2 => by
  rw [f.2 276 (hA 276 (Or.inl rfl))] at h2
  rw [f.2 (278 + g) (hA _ (Or.inr ⟨by omega, by omega⟩)), f.2 (278 + g) (hA _ (Or.inr ⟨by omega, by omega⟩))]
  exact p g hg k k' h1 h2
theorem wt_Ra0 {σ : wt_St} (h : wt_RI σ) (i : Nat) (h1 : 110 ≤ i) (h2 : i < 111) (j : Nat) : 0 ≤ (wt_ga σ i j).toInt ∧ (wt_ga σ i j).toInt ≤ 12 := wt_R_ga h 0 (q := (110, 111, 0, 12)) rfl i h1 h2 j
theorem wt_Rn0 {σ σ' : wt_St} {i j : Nat} {v : Int32} (h : wt_RI σ) (e : σ' = wt_sa σ i j v) (h1 : 110 ≤ i) (h2 : i < 111) (h3 : 0 ≤ v.toInt) (h4 : v.toInt ≤ 12) : wt_RI σ' := wt_RI_in h e 0 (q := (110, 111, 0, 12)) rfl h1 h2 h3 h4
theorem wt_Ra1 {σ : wt_St} (h : wt_RI σ) (i : Nat) (h1 : 111 ≤ i) (h2 : i < 112) (j : Nat) : 0 ≤ (wt_ga σ i j).toInt ∧ (wt_ga σ i j).toInt ≤ 13 := wt_R_ga h 1 (q := (111, 112, 0, 13)) rfl i h1 h2 j
theorem wt_Rn1 {σ σ' : wt_St} {i j : Nat} {v : Int32} (h : wt_RI σ) (e : σ' = wt_sa σ i j v) (h1 : 111 ≤ i) (h2 : i < 112) (h3 : 0 ≤ v.toInt) (h4 : v.toInt ≤ 13) : wt_RI σ' := wt_RI_in h e 1 (q := (111, 112, 0, 13)) rfl h1 h2 h3 h4
theorem wt_Ra2 {σ : wt_St} (h : wt_RI σ) (i : Nat) (h1 : 112 ≤ i) (h2 : i < 114) (j : Nat) : 0 ≤ (wt_ga σ i j).toInt ∧ (wt_ga σ i j).toInt ≤ 12 := wt_R_ga h 2 (q := (112, 114, 0, 12)) rfl i h1 h2 j
theorem wt_Rn2 {σ σ' : wt_St} {i j : Nat} {v : Int32} (h : wt_RI σ) (e : σ' = wt_sa σ i j v) (h1 : 112 ≤ i) (h2 : i < 114) (h3 : 0 ≤ v.toInt) (h4 : v.toInt ≤ 12) : wt_RI σ' := wt_RI_in h e 2 (q := (112, 114, 0, 12)) rfl h1 h2 h3 h4
theorem wt_Ra3 {σ : wt_St} (h : wt_RI σ) (i : Nat) (h1 : 120 ≤ i) (h2 : i < 122) (j : Nat) : 0 ≤ (wt_ga σ i j).toInt ∧ (wt_ga σ i j).toInt ≤ 400 := wt_R_ga h 3 (q := (120, 122, 0, 400)) rfl i h1 h2 j
theorem wt_Rn3 {σ σ' : wt_St} {i j : Nat} {v : Int32} (h : wt_RI σ) (e : σ' = wt_sa σ i j v) (h1 : 120 ≤ i) (h2 : i < 122) (h3 : 0 ≤ v.toInt) (h4 : v.toInt ≤ 400) : wt_RI σ' := wt_RI_in h e 3 (q := (120, 122, 0, 400)) rfl h1 h2 h3 h4
theorem wt_Ra4 {σ : wt_St} (h : wt_RI σ) (i : Nat) (h1 : 122 ≤ i) (h2 : i < 124) (j : Nat) : 0 ≤ (wt_ga σ i j).toInt ∧ (wt_ga σ i j).toInt ≤ 400 := wt_R_ga h 4 (q := (122, 124, 0, 400)) rfl i h1 h2 j
theorem wt_Rn4 {σ σ' : wt_St} {i j : Nat} {v : Int32} (h : wt_RI σ) (e : σ' = wt_sa σ i j v) (h1 : 122 ≤ i) (h2 : i < 124) (h3 : 0 ≤ v.toInt) (h4 : v.toInt ≤ 400) : wt_RI σ' := wt_RI_in h e 4 (q := (122, 124, 0, 400)) rfl h1 h2 h3 h4
theorem wt_Ra5 {σ : wt_St} (h : wt_RI σ) (i : Nat) (h1 : 125 ≤ i) (h2 : i < 127) (j : Nat) : 0 ≤ (wt_ga σ i j).toInt ∧ (wt_ga σ i j).toInt ≤ 9 := wt_R_ga h 5 (q := (125, 127, 0, 9)) rfl i h1 h2 j
theorem wt_Rn5 {σ σ' : wt_St} {i j : Nat} {v : Int32} (h : wt_RI σ) (e : σ' = wt_sa σ i j v) (h1 : 125 ≤ i) (h2 : i < 127) (h3 : 0 ≤ v.toInt) (h4 : v.toInt ≤ 9) : wt_RI σ' := wt_RI_in h e 5 (q := (125, 127, 0, 9)) rfl h1 h2 h3 h4
theorem wt_Ra6 {σ : wt_St} (h : wt_RI σ) (i : Nat) (h1 : 127 ≤ i) (h2 : i < 129) (j : Nat) : 0 ≤ (wt_ga σ i j).toInt ∧ (wt_ga σ i j).toInt ≤ 3 := wt_R_ga h 6 (q := (127, 129, 0, 3)) rfl i h1 h2 j
theorem wt_Rn6 {σ σ' : wt_St} {i j : Nat} {v : Int32} (h : wt_RI σ) (e : σ' = wt_sa σ i j v) (h1 : 127 ≤ i) (h2 : i < 129) (h3 : 0 ≤ v.toInt) (h4 : v.toInt ≤ 3) : wt_RI σ' := wt_RI_in h e 6 (q := (127, 129, 0, 3)) rfl h1 h2 h3 h4
theorem wt_Ra7 {σ : wt_St} (h : wt_RI σ) (i : Nat) (h1 : 132 ≤ i) (h2 : i < 192) (j : Nat) : 0 ≤ (wt_ga σ i j).toInt ∧ (wt_ga σ i j).toInt ≤ 25 := wt_R_ga h 7 (q := (132, 192, 0, 25)) rfl i h1 h2 j
theorem wt_Rn7 {σ σ' : wt_St} {i j : Nat} {v : Int32} (h : wt_RI σ) (e : σ' = wt_sa σ i j v) (h1 : 132 ≤ i) (h2 : i < 192) (h3 : 0 ≤ v.toInt) (h4 : v.toInt ≤ 25) : wt_RI σ' := wt_RI_in h e 7 (q := (132, 192, 0, 25)) rfl h1 h2 h3 h4
theorem wt_Ra8 {σ : wt_St} (h : wt_RI σ) (i : Nat) (h1 : 193 ≤ i) (h2 : i < 253) (j : Nat) : 0 ≤ (wt_ga σ i j).toInt ∧ (wt_ga σ i j).toInt ≤ 25 := wt_R_ga h 8 (q := (193, 253, 0, 25)) rfl i h1 h2 j
theorem wt_Rn8 {σ σ' : wt_St} {i j : Nat} {v : Int32} (h : wt_RI σ) (e : σ' = wt_sa σ i j v) (h1 : 193 ≤ i) (h2 : i < 253) (h3 : 0 ≤ v.toInt) (h4 : v.toInt ≤ 25) : wt_RI σ' := wt_RI_in h e 8 (q := (193, 253, 0, 25)) rfl h1 h2 h3 h4
theorem wt_Ra9 {σ : wt_St} (h : wt_RI σ) (i : Nat) (h1 : 253 ≤ i) (h2 : i < 254) (j : Nat) : 0 ≤ (wt_ga σ i j).toInt ∧ (wt_ga σ i j).toInt ≤ 12 := wt_R_ga h 9 (q := (253, 254, 0, 12)) rfl i h1 h2 j
theorem wt_Rn9 {σ σ' : wt_St} {i j : Nat} {v : Int32} (h : wt_RI σ) (e : σ' = wt_sa σ i j v) (h1 : 253 ≤ i) (h2 : i < 254) (h3 : 0 ≤ v.toInt) (h4 : v.toInt ≤ 12) : wt_RI σ' := wt_RI_in h e 9 (q := (253, 254, 0, 12)) rfl h1 h2 h3 h4
theorem wt_Ra10 {σ : wt_St} (h : wt_RI σ) (i : Nat) (h1 : 255 ≤ i) (h2 : i < 263) (j : Nat) : 0 ≤ (wt_ga σ i j).toInt ∧ (wt_ga σ i j).toInt ≤ 59 := wt_R_ga h 10 (q := (255, 263, 0, 59)) rfl i h1 h2 j
theorem wt_Rn10 {σ σ' : wt_St} {i j : Nat} {v : Int32} (h : wt_RI σ) (e : σ' = wt_sa σ i j v) (h1 : 255 ≤ i) (h2 : i < 263) (h3 : 0 ≤ v.toInt) (h4 : v.toInt ≤ 59) : wt_RI σ' := wt_RI_in h e 10 (q := (255, 263, 0, 59)) rfl h1 h2 h3 h4
theorem wt_Ra11 {σ : wt_St} (h : wt_RI σ) (i : Nat) (h1 : 274 ≤ i) (h2 : i < 275) (j : Nat) : 0 ≤ (wt_ga σ i j).toInt ∧ (wt_ga σ i j).toInt ≤ 59 := wt_R_ga h 11 (q := (274, 275, 0, 59)) rfl i h1 h2 j
theorem wt_Rn11 {σ σ' : wt_St} {i j : Nat} {v : Int32} (h : wt_RI σ) (e : σ' = wt_sa σ i j v) (h1 : 274 ≤ i) (h2 : i < 275) (h3 : 0 ≤ v.toInt) (h4 : v.toInt ≤ 59) : wt_RI σ' := wt_RI_in h e 11 (q := (274, 275, 0, 59)) rfl h1 h2 h3 h4
theorem wt_Ra12 {σ : wt_St} (h : wt_RI σ) (i : Nat) (h1 : 275 ≤ i) (h2 : i < 276) (j : Nat) : -1 ≤ (wt_ga σ i j).toInt ∧ (wt_ga σ i j).toInt ≤ 7 := wt_R_ga h 12 (q := (275, 276, -1, 7)) rfl i h1 h2 j
theorem wt_Rn12 {σ σ' : wt_St} {i j : Nat} {v : Int32} (h : wt_RI σ) (e : σ' = wt_sa σ i j v) (h1 : 275 ≤ i) (h2 : i < 276) (h3 : -1 ≤ v.toInt) (h4 : v.toInt ≤ 7) : wt_RI σ' := wt_RI_in h e 12 (q := (275, 276, -1, 7)) rfl h1 h2 h3 h4
theorem wt_Ra13 {σ : wt_St} (h : wt_RI σ) (i : Nat) (h1 : 276 ≤ i) (h2 : i < 277) (j : Nat) : 0 ≤ (wt_ga σ i j).toInt ∧ (wt_ga σ i j).toInt ≤ 108 := wt_R_ga h 13 (q := (276, 277, 0, 108)) rfl i h1 h2 j
theorem wt_Rn13 {σ σ' : wt_St} {i j : Nat} {v : Int32} (h : wt_RI σ) (e : σ' = wt_sa σ i j v) (h1 : 276 ≤ i) (h2 : i < 277) (h3 : 0 ≤ v.toInt) (h4 : v.toInt ≤ 108) : wt_RI σ' := wt_RI_in h e 13 (q := (276, 277, 0, 108)) rfl h1 h2 h3 h4
theorem wt_Ra14 {σ : wt_St} (h : wt_RI σ) (i : Nat) (h1 : 278 ≤ i) (h2 : i < 282) (j : Nat) : 0 ≤ (wt_ga σ i j).toInt ∧ (wt_ga σ i j).toInt ≤ 337 := wt_R_ga h 14 (q := (278, 282, 0, 337)) rfl i h1 h2 j
theorem wt_Rn14 {σ σ' : wt_St} {i j : Nat} {v : Int32} (h : wt_RI σ) (e : σ' = wt_sa σ i j v) (h1 : 278 ≤ i) (h2 : i < 282) (h3 : 0 ≤ v.toInt) (h4 : v.toInt ≤ 337) : wt_RI σ' := wt_RI_in h e 14 (q := (278, 282, 0, 337)) rfl h1 h2 h3 h4
theorem wt_Ra15 {σ : wt_St} (h : wt_RI σ) (i : Nat) (h1 : 288 ≤ i) (h2 : i < 289) (j : Nat) : 0 ≤ (wt_ga σ i j).toInt ∧ (wt_ga σ i j).toInt ≤ 337 := wt_R_ga h 15 (q := (288, 289, 0, 337)) rfl i h1 h2 j
theorem wt_Rn15 {σ σ' : wt_St} {i j : Nat} {v : Int32} (h : wt_RI σ) (e : σ' = wt_sa σ i j v) (h1 : 288 ≤ i) (h2 : i < 289) (h3 : 0 ≤ v.toInt) (h4 : v.toInt ≤ 337) : wt_RI σ' := wt_RI_in h e 15 (q := (288, 289, 0, 337)) rfl h1 h2 h3 h4
theorem wt_Ra16 {σ : wt_St} (h : wt_RI σ) (i : Nat) (h1 : 319 ≤ i) (h2 : i < 320) (j : Nat) : 0 ≤ (wt_ga σ i j).toInt ∧ (wt_ga σ i j).toInt ≤ 59 := wt_R_ga h 16 (q := (319, 320, 0, 59)) rfl i h1 h2 j
theorem wt_Rn16 {σ σ' : wt_St} {i j : Nat} {v : Int32} (h : wt_RI σ) (e : σ' = wt_sa σ i j v) (h1 : 319 ≤ i) (h2 : i < 320) (h3 : 0 ≤ v.toInt) (h4 : v.toInt ≤ 59) : wt_RI σ' := wt_RI_in h e 16 (q := (319, 320, 0, 59)) rfl h1 h2 h3 h4
theorem wt_Ra17 {σ : wt_St} (h : wt_RI σ) (i : Nat) (h1 : 286 ≤ i) (h2 : i < 287) (j : Nat) : 0 ≤ (wt_ga σ i j).toInt ∧ (wt_ga σ i j).toInt ≤ 400 := wt_R_ga h 17 (q := (286, 287, 0, 400)) rfl i h1 h2 j
theorem wt_Rn17 {σ σ' : wt_St} {i j : Nat} {v : Int32} (h : wt_RI σ) (e : σ' = wt_sa σ i j v) (h1 : 286 ≤ i) (h2 : i < 287) (h3 : 0 ≤ v.toInt) (h4 : v.toInt ≤ 400) : wt_RI σ' := wt_RI_in h e 17 (q := (286, 287, 0, 400)) rfl h1 h2 h3 h4
theorem wt_Ra18 {σ : wt_St} (h : wt_RI σ) (i : Nat) (h1 : 114 ≤ i) (h2 : i < 116) (j : Nat) : 0 ≤ (wt_ga σ i j).toInt ∧ (wt_ga σ i j).toInt ≤ 99 := wt_R_ga h 18 (q := (114, 116, 0, 99)) rfl i h1 h2 j
theorem wt_Rn18 {σ σ' : wt_St} {i j : Nat} {v : Int32} (h : wt_RI σ) (e : σ' = wt_sa σ i j v) (h1 : 114 ≤ i) (h2 : i < 116) (h3 : 0 ≤ v.toInt) (h4 : v.toInt ≤ 99) : wt_RI σ' := wt_RI_in h e 18 (q := (114, 116, 0, 99)) rfl h1 h2 h3 h4
theorem wt_Rf0 {σ : wt_St} (h : wt_RI σ) : 0 ≤ (wt_gf σ 108 1).toInt ∧ (wt_gf σ 108 1).toInt ≤ 500 := wt_R_gf h 0 (q := (1, 0, 500)) rfl
theorem wt_Rm0 {σ σ' : wt_St} {v : Int32} (h : wt_RI σ) (e : σ' = wt_sf σ 108 1 v) (h3 : 0 ≤ v.toInt) (h4 : v.toInt ≤ 500) : wt_RI σ' := wt_RI_fin h e 0 (q := (1, 0, 500)) rfl rfl h3 h4
theorem wt_Rf1 {σ : wt_St} (h : wt_RI σ) : 0 ≤ (wt_gf σ 108 2).toInt ∧ (wt_gf σ 108 2).toInt ≤ 500 := wt_R_gf h 1 (q := (2, 0, 500)) rfl
theorem wt_Rm1 {σ σ' : wt_St} {v : Int32} (h : wt_RI σ) (e : σ' = wt_sf σ 108 2 v) (h3 : 0 ≤ v.toInt) (h4 : v.toInt ≤ 500) : wt_RI σ' := wt_RI_fin h e 1 (q := (2, 0, 500)) rfl rfl h3 h4
theorem wt_Rf2 {σ : wt_St} (h : wt_RI σ) : 0 ≤ (wt_gf σ 108 4).toInt ∧ (wt_gf σ 108 4).toInt ≤ 500 := wt_R_gf h 2 (q := (4, 0, 500)) rfl
theorem wt_Rm2 {σ σ' : wt_St} {v : Int32} (h : wt_RI σ) (e : σ' = wt_sf σ 108 4 v) (h3 : 0 ≤ v.toInt) (h4 : v.toInt ≤ 500) : wt_RI σ' := wt_RI_fin h e 2 (q := (4, 0, 500)) rfl rfl h3 h4
theorem wt_Rf3 {σ : wt_St} (h : wt_RI σ) : 0 ≤ (wt_gf σ 108 5).toInt ∧ (wt_gf σ 108 5).toInt ≤ 3 := wt_R_gf h 3 (q := (5, 0, 3)) rfl
theorem wt_Rm3 {σ σ' : wt_St} {v : Int32} (h : wt_RI σ) (e : σ' = wt_sf σ 108 5 v) (h3 : 0 ≤ v.toInt) (h4 : v.toInt ≤ 3) : wt_RI σ' := wt_RI_fin h e 3 (q := (5, 0, 3)) rfl rfl h3 h4
theorem wt_Rf4 {σ : wt_St} (h : wt_RI σ) : 0 ≤ (wt_gf σ 108 7).toInt ∧ (wt_gf σ 108 7).toInt ≤ 60 := wt_R_gf h 4 (q := (7, 0, 60)) rfl
theorem wt_Rm4 {σ σ' : wt_St} {v : Int32} (h : wt_RI σ) (e : σ' = wt_sf σ 108 7 v) (h3 : 0 ≤ v.toInt) (h4 : v.toInt ≤ 60) : wt_RI σ' := wt_RI_fin h e 4 (q := (7, 0, 60)) rfl rfl h3 h4
theorem wt_Rf5 {σ : wt_St} (h : wt_RI σ) : 0 ≤ (wt_gf σ 108 27).toInt ∧ (wt_gf σ 108 27).toInt ≤ 60 := wt_R_gf h 5 (q := (27, 0, 60)) rfl
theorem wt_Rm5 {σ σ' : wt_St} {v : Int32} (h : wt_RI σ) (e : σ' = wt_sf σ 108 27 v) (h3 : 0 ≤ v.toInt) (h4 : v.toInt ≤ 60) : wt_RI σ' := wt_RI_fin h e 5 (q := (27, 0, 60)) rfl rfl h3 h4
theorem wt_Rf6 {σ : wt_St} (h : wt_RI σ) : 0 ≤ (wt_gf σ 108 28).toInt ∧ (wt_gf σ 108 28).toInt ≤ 60 := wt_R_gf h 6 (q := (28, 0, 60)) rfl
theorem wt_Rm6 {σ σ' : wt_St} {v : Int32} (h : wt_RI σ) (e : σ' = wt_sf σ 108 28 v) (h3 : 0 ≤ v.toInt) (h4 : v.toInt ≤ 60) : wt_RI σ' := wt_RI_fin h e 6 (q := (28, 0, 60)) rfl rfl h3 h4
theorem wt_Rf7 {σ : wt_St} (h : wt_RI σ) : 0 ≤ (wt_gf σ 108 39).toInt ∧ (wt_gf σ 108 39).toInt ≤ 8 := wt_R_gf h 7 (q := (39, 0, 8)) rfl
theorem wt_Rm7 {σ σ' : wt_St} {v : Int32} (h : wt_RI σ) (e : σ' = wt_sf σ 108 39 v) (h3 : 0 ≤ v.toInt) (h4 : v.toInt ≤ 8) : wt_RI σ' := wt_RI_fin h e 7 (q := (39, 0, 8)) rfl rfl h3 h4
theorem wt_Rf8 {σ : wt_St} (h : wt_RI σ) : 0 ≤ (wt_gf σ 108 40).toInt ∧ (wt_gf σ 108 40).toInt ≤ 10 := wt_R_gf h 8 (q := (40, 0, 10)) rfl
theorem wt_Rm8 {σ σ' : wt_St} {v : Int32} (h : wt_RI σ) (e : σ' = wt_sf σ 108 40 v) (h3 : 0 ≤ v.toInt) (h4 : v.toInt ≤ 10) : wt_RI σ' := wt_RI_fin h e 8 (q := (40, 0, 10)) rfl rfl h3 h4
theorem wt_Rf9 {σ : wt_St} (h : wt_RI σ) : 0 ≤ (wt_gf σ 108 41).toInt ∧ (wt_gf σ 108 41).toInt ≤ 3 := wt_R_gf h 9 (q := (41, 0, 3)) rfl
theorem wt_Rm9 {σ σ' : wt_St} {v : Int32} (h : wt_RI σ) (e : σ' = wt_sf σ 108 41 v) (h3 : 0 ≤ v.toInt) (h4 : v.toInt ≤ 3) : wt_RI σ' := wt_RI_fin h e 9 (q := (41, 0, 3)) rfl rfl h3 h4
theorem wt_Rf10 {σ : wt_St} (h : wt_RI σ) : 0 ≤ (wt_gf σ 108 54).toInt ∧ (wt_gf σ 108 54).toInt ≤ 108 := wt_R_gf h 10 (q := (54, 0, 108)) rfl
theorem wt_Rm10 {σ σ' : wt_St} {v : Int32} (h : wt_RI σ) (e : σ' = wt_sf σ 108 54 v) (h3 : 0 ≤ v.toInt) (h4 : v.toInt ≤ 108) : wt_RI σ' := wt_RI_fin h e 10 (q := (54, 0, 108)) rfl rfl h3 h4
