/-! reading: what both sides take off the tape -/
/-- a run of signs of one kind from k ends at j -/
def wt_run (β : Nat → Int32) (e : Nat) (P : Int → Prop) (k j : Nat) : Prop := k ≤ j ∧ (∀ i, k ≤ i → i < j → i < e ∧ P (β i).toInt) ∧ ¬ (j < e ∧ P (β j).toInt)
theorem wt_run_u {β : Nat → Int32} {e : Nat} {P : Int → Prop} {k j j' : Nat} (h : wt_run β e P k j) (h' : wt_run β e P k j') : j = j' := by
  obtain ⟨a1, a2, a3⟩ := h
  obtain ⟨b1, b2, b3⟩ := h'
  rcases Nat.lt_trichotomy j j' with c | c | c
  · exact absurd (b2 j a1 c) a3
  · exact c
  · exact absurd (a2 j' b1 c) b3
theorem wt_run_le {β : Nat → Int32} {e : Nat} {P : Int → Prop} {k j : Nat} (h : wt_run β e P k j) (hk : k ≤ e) : j ≤ e := by
  obtain ⟨a1, a2, a3⟩ := h
  by_cases c : j ≤ e
  · exact c
  · have := (a2 (j - 1) (by omega) (by omega)).1
    omega
def wt_bl (v : Int) : Prop := v = 32
def wt_sm (v : Int) : Prop := 97 ≤ v ∧ v ≤ 122
def wt_dg (v : Int) : Prop := 48 ≤ v ∧ v ≤ 57
/-- the class reads at k, of e bytes -/
def wt_tv (β : Nat → Int32) (e k : Nat) (s : wt_St) : Prop := (∀ j, j < 500 → wt_ga s 2 j = β j) ∧ (wt_gf s 1 3).toInt = (e : Int) ∧ (wt_gf s 1 4).toInt = (k : Int) ∧ k ≤ e ∧ e ≤ 500
theorem wt_tv_fr {β : Nat → Int32} {e k : Nat} {s s' : wt_St} {F : Nat → Nat → Prop} {A : Nat → Prop} (h : wt_tv β e k s) (f : wt_fr F A s s') (h2 : ¬ A 2) (h3 : ¬ F 1 3) (h4 : ¬ F 1 4) : wt_tv β e k s' := ⟨fun j hj => (f.2 2 h2 j).trans (h.1 j hj), by rw [f.1 1 3 h3]; exact h.2.1, by rw [f.1 1 4 h4]; exact h.2.2.1, h.2.2.2⟩
theorem wt_tv_adv {β : Nat → Int32} {e k k' : Nat} {s s' : wt_St} {v : Int32} (h : wt_tv β e k s) (ε : s' = wt_sf s 1 4 v) (hv : v.toInt = (k' : Int)) (hk : k' ≤ e) : wt_tv β e k' s' := ⟨fun j hj => ((wt_fr_sf ε).2 2 (fun h => h) j).trans (h.1 j hj), by rw [(wt_fr_sf ε).1 1 3 (by (try dsimp only); omega)]; exact h.2.1, (wt_ceq (wt_v_sf ε)).trans hv, hk, h.2.2.2.2⟩
theorem wt_ln2 : wt_ln 2 = 500 := by decide
theorem wt_ln3 : wt_ln 3 = 9 := by decide
theorem wh_lookT (n : Nat) (hn : 4294967297 < n) {β : Nat → Int32} {e k : Nat} {σ : wt_St} (h : wt_tv β e k σ) {x : Int32} {j : Nat} (hx : x.toInt = (j : Int)) (hj : j < 500) : wt_H (wp_ap_look n 2 x σ) (fun q => q = (β j, σ)) := (wh_look n hn hx (by rw [wt_ln2]; exact hj)).imp (fun q hq => by rw [hq, h.1 j hj])
theorem wh_small (n : Nat) {x : Int32} {σ : wt_St} : wt_H (wp_tp_isSmall n x σ) (fun q => q.2 = σ ∧ ((q.1 = 0 ∧ ¬ wt_sm x.toInt) ∨ (q.1 = 1 ∧ wt_sm x.toInt))) := by
  have k1 : (97 : Int32).toInt = 97 := by decide
  have k2 : (122 : Int32).toInt = 122 := by decide
  unfold wp_tp_isSmall wt_sm
  refine wt_H_if (fun c => ?_) (fun c => wt_H_if (fun d => ?_) (fun d => ?_))
  · have := wt_clt c
    exact wt_H_some ⟨rfl, Or.inl ⟨rfl, by omega⟩⟩
  · have := wt_clt d
    exact wt_H_some ⟨rfl, Or.inl ⟨rfl, by omega⟩⟩
  · have := wt_ncl c
    have := wt_ncl d
    exact wt_H_some ⟨rfl, Or.inr ⟨rfl, by omega⟩⟩
theorem wh_digit (n : Nat) {x : Int32} {σ : wt_St} : wt_H (wp_tp_isDigit n x σ) (fun q => q.2 = σ ∧ ((q.1 = 0 ∧ ¬ wt_dg x.toInt) ∨ (q.1 = 1 ∧ wt_dg x.toInt))) := by
  have k1 : (48 : Int32).toInt = 48 := by decide
  have k2 : (57 : Int32).toInt = 57 := by decide
  unfold wp_tp_isDigit wt_dg
  refine wt_H_if (fun c => ?_) (fun c => wt_H_if (fun d => ?_) (fun d => ?_))
  · have := wt_clt c
    exact wt_H_some ⟨rfl, Or.inl ⟨rfl, by omega⟩⟩
  · have := wt_clt d
    exact wt_H_some ⟨rfl, Or.inl ⟨rfl, by omega⟩⟩
  · have := wt_ncl c
    have := wt_ncl d
    exact wt_H_some ⟨rfl, Or.inr ⟨rfl, by omega⟩⟩
theorem wh_smallM (n : Nat) {x : Int32} {σ : wt_St} : wt_H (wp_md_isSmall n x σ) (fun q => q.2 = σ ∧ ((q.1 = 0 ∧ ¬ wt_sm x.toInt) ∨ (q.1 = 1 ∧ wt_sm x.toInt))) := wh_small n
theorem wh_digitM (n : Nat) {x : Int32} {σ : wt_St} : wt_H (wp_md_isDigit n x σ) (fun q => q.2 = σ ∧ ((q.1 = 0 ∧ ¬ wt_dg x.toInt) ∨ (q.1 = 1 ∧ wt_dg x.toInt))) := wh_digit n
set_option maxHeartbeats 4000000 in
theorem wh_skip (n : Nat) (hn : 4294967297 < n) {β : Nat → Int32} {e k : Nat} {σ : wt_St} (h : wt_tv β e k σ) : wt_H (wp_tp_skipBlanks n σ) (fun q => ∃ j, wt_run β e wt_bl k j ∧ wt_tv β e j q ∧ (wt_gf q 1 5).toInt = (j : Int) ∧ wt_fr (fun i k => i = 1 ∧ (k = 4 ∨ k = 5)) (fun _ => False) σ q) := by
  have k32 : (32 : Int32).toInt = 32 := by decide
  unfold wp_tp_skipBlanks
  refine wt_H_it (fun s : wt_St => ∃ j, k ≤ j ∧ (∀ i, k ≤ i → i < j → i < e ∧ wt_bl (β i).toInt) ∧ wt_tv β e j s ∧ wt_fr (fun i k => i = 1 ∧ (k = 4 ∨ k = 5)) (fun _ => False) σ s) (fun K s I hK => ?_) n σ ⟨k, Nat.le_refl _, fun i h1 h2 => absurd h1 (by omega), h, wt_fr.rf⟩
  obtain ⟨j, j1, j2, tv, fr⟩ := I
  have tv' := tv
  obtain ⟨t1, t2, t3, t4, t5⟩ := tv'
  have E : ¬ (j < e ∧ wt_bl (β j).toInt) → wt_H (wp_tp_skipBlanks_B40 n s) (fun q => ∃ j, wt_run β e wt_bl k j ∧ wt_tv β e j q ∧ (wt_gf q 1 5).toInt = (j : Int) ∧ wt_fr (fun i k => i = 1 ∧ (k = 4 ∨ k = 5)) (fun _ => False) σ q) := by
    intro hx
    unfold wp_tp_skipBlanks_B40
    obtain ⟨s1, ε1⟩ : ∃ o : wt_St, o = wt_sf s 1 5 (wt_gf s 1 4) := ⟨_, rfl⟩
    rw [← ε1]
    have f1 := wt_fr_sf ε1
    exact wt_H_some ⟨j, ⟨j1, j2, hx⟩, wt_tv_fr tv f1 (fun h => h) (by (try dsimp only); omega) (by (try dsimp only); omega), (wt_ceq (wt_v_sf ε1)).trans t3, wt_fr.tr fr f1 (fun i k h => by (try dsimp only at h); omega) (fun i h => h)⟩
  unfold wp_tp_skipBlanks_B0
  refine wt_H_if (fun c => E (by have := wt_cle c; omega)) (fun c => ?_)
  have c' := wt_ncle c
  refine wt_H_bh (wh_lookT n hn tv t3 (by omega)) (fun q hq => ?_)
  subst hq
  refine wt_H_if (fun c2 => ?_) (fun c2 => ?_)
  · have b : (β j).toInt = 32 := (wt_ceq c2).trans k32
    have ei := wt_i1 (c := wt_gf s 1 4) (by omega)
    obtain ⟨s1, ε1⟩ : ∃ o : wt_St, o = wt_sf s 1 4 ((wt_gf s 1 4) + (1 : Int32)) := ⟨_, rfl⟩
    show wt_H (K (wt_sf s 1 4 ((wt_gf s 1 4) + (1 : Int32)))) _
    rw [← ε1]
    refine hK _ ⟨j + 1, by omega, fun i h1 h2 => ?_, wt_tv_adv tv ε1 (by rw [ei, t3]; omega) (by omega), wt_fr.tr fr (wt_fr_sf ε1) (fun i k h => by (try dsimp only at h); omega) (fun i h => h)⟩
    by_cases hc : i = j
    · rw [hc]; exact ⟨by omega, b⟩
    · exact j2 i h1 (by omega)
  · exact E (fun z => c2 (wt_eqI (z.2.trans k32.symm)))
/-- a fault of the class -/
def wt_flt (s : wt_St) (f p : Nat) : Prop := (wt_gf s 1 6).toInt = (f : Int) ∧ (wt_gf s 1 7).toInt = (p : Int)
theorem wh_fail (n : Nat) {x : Int32} {f p : Nat} {σ : wt_St} (hx : x.toInt = (f : Int)) (hp : (wt_gf σ 1 5).toInt = (p : Int)) : wt_H (wp_tp_fail n x σ) (fun q => q.1 = 0 ∧ wt_flt q.2 f p ∧ wt_fr (fun i k => i = 1 ∧ (k = 6 ∨ k = 7)) (fun _ => False) σ q.2) := by
  unfold wp_tp_fail
  obtain ⟨s1, ε1⟩ : ∃ o : wt_St, o = wt_sf σ 1 6 x := ⟨_, rfl⟩
  rw [← ε1]
  obtain ⟨s2, ε2⟩ : ∃ o : wt_St, o = wt_sf s1 1 7 (wt_gf s1 1 5) := ⟨_, rfl⟩
  rw [← ε2]
  refine wt_H_some ⟨rfl, ⟨?_, ?_⟩, wt_fr.tr (wt_fr.tr wt_fr.rf (wt_fr_sf ε1) (fun i k h => by (try dsimp only at h); omega) (fun i h => h)) (wt_fr_sf ε2) (fun i k h => by (try dsimp only at h); omega) (fun i h => h)⟩
  · rw [(wt_fr_sf ε2).1 1 6 (by (try dsimp only); omega), wt_v_sf ε1]; exact hx
  · rw [wt_v_sf ε2, (wt_fr_sf ε1).1 1 5 (by (try dsimp only); omega)]; exact hp
set_option maxHeartbeats 4000000 in
theorem wh_takeWord (n : Nat) (hn : 4294967297 < n) {β : Nat → Int32} {e k : Nat} {σ : wt_St} (h : wt_tv β e k σ) : wt_H (wp_tp_takeWord n σ) (fun q => ∃ j j2, wt_run β e wt_bl k j ∧ wt_run β e wt_sm j j2 ∧ wt_tv β e j2 q.2 ∧ (wt_gf q.2 1 5).toInt = (j : Int) ∧ ((j2 = j ∧ q.1 = 0 ∧ wt_flt q.2 1 j ∧ wt_fr (fun i k => i = 1 ∧ 4 ≤ k) (fun i => i = 3) σ q.2) ∨ (j < j2 ∧ q.1 = 1 ∧ wt_fr (fun i k => i = 1 ∧ (k = 4 ∨ k = 5)) (fun i => i = 3) σ q.2 ∧ ∀ i, i < 9 → j + i < j2 → (wt_ga q.2 3 i).toInt = (β (j + i)).toInt - 97))) := by
  have k0 : (0 : Int32).toInt = 0 := by decide
  have k1 : (1 : Int32).toInt = 1 := by decide
  have k97 : (97 : Int32).toInt = 97 := by decide
  unfold wp_tp_takeWord
  refine wt_H_bh (wh_skip n hn h) (fun σ1 hσ => ?_)
  obtain ⟨j, hr, tv1, st1, fr1⟩ := hσ
  refine wt_H_it (fun s : Int32 × wt_St => ∃ j2, j ≤ j2 ∧ (∀ i, j ≤ i → i < j2 → i < e ∧ wt_sm (β i).toInt) ∧ wt_tv β e j2 s.2 ∧ (wt_gf s.2 1 5).toInt = (j : Int) ∧ s.1.toInt = (j2 : Int) - j ∧ wt_fr (fun i k => i = 1 ∧ (k = 4 ∨ k = 5)) (fun i => i = 3) σ s.2 ∧ ∀ i, i < 9 → j + i < j2 → (wt_ga s.2 3 i).toInt = (β (j + i)).toInt - 97) (fun K s I hK => ?_) n _ ⟨j, Nat.le_refl _, fun i h1 h2 => absurd h1 (by omega), tv1, st1, by show ((0 : Int32)).toInt = _; omega, wt_fr.tr wt_fr.rf fr1 (fun i k h => h) (fun i h => h.elim), fun i h1 h2 => absurd h2 (by omega)⟩
  obtain ⟨j2, i1, i2, tv, st, ic, fr, sp⟩ := I
  have tv' := tv
  obtain ⟨t1, t2, t3, t4, t5⟩ := tv'
  have E : ¬ (j2 < e ∧ wt_sm (β j2).toInt) → wt_H (wp_tp_takeWord_B72 n s.2) (fun q => ∃ j j2, wt_run β e wt_bl k j ∧ wt_run β e wt_sm j j2 ∧ wt_tv β e j2 q.2 ∧ (wt_gf q.2 1 5).toInt = (j : Int) ∧ ((j2 = j ∧ q.1 = 0 ∧ wt_flt q.2 1 j ∧ wt_fr (fun i k => i = 1 ∧ 4 ≤ k) (fun i => i = 3) σ q.2) ∨ (j < j2 ∧ q.1 = 1 ∧ wt_fr (fun i k => i = 1 ∧ (k = 4 ∨ k = 5)) (fun i => i = 3) σ q.2 ∧ ∀ i, i < 9 → j + i < j2 → (wt_ga q.2 3 i).toInt = (β (j + i)).toInt - 97))) := by
    intro hx
    unfold wp_tp_takeWord_B72
    refine wt_H_if (fun c => ?_) (fun c => ?_)
    · have c' := wt_clt c
      exact wt_H_some ⟨j, j2, hr, ⟨i1, i2, hx⟩, tv, st, Or.inr ⟨by omega, rfl, fr, sp⟩⟩
    · have c' := wt_ncl c
      refine wt_H_bh (wh_fail n (f := 1) (by omega) st) (fun q hq => ?_)
      obtain ⟨q0, qf, qr⟩ := hq
      rw [if_pos q0]
      refine wt_H_some ⟨j, j2, hr, ⟨i1, i2, hx⟩, wt_tv_fr tv qr (fun h => h) (by (try dsimp only); omega) (by (try dsimp only); omega), ?_, Or.inl ⟨by omega, rfl, qf, wt_fr.tr (wt_fr.tr wt_fr.rf fr (fun i k h => by (try dsimp only at h); omega) (fun i h => h)) qr (fun i k h => by (try dsimp only at h); omega) (fun i h => h.elim)⟩⟩
      show (wt_gf q.2 1 5).toInt = (j : Int)
      rw [qr.1 1 5 (by (try dsimp only); omega)]
      exact st
  unfold wp_tp_takeWord_B6
  refine wt_H_if (fun c => E (by have := wt_cle c; omega)) (fun c => ?_)
  have c' := wt_ncle c
  refine wt_H_bh (wh_lookT n hn tv t3 (by omega)) (fun q hq => ?_)
  subst hq
  refine wt_H_bh (wh_small n) (fun q7 h7 => ?_)
  obtain ⟨e7, h7⟩ := h7
  have e7' : q7.2 = s.2 := e7
  rw [e7']
  rcases h7 with ⟨z7, h7⟩ | ⟨z7, h7⟩
  · rw [if_pos z7]
    exact E (fun z => h7 z.2)
  · rw [if_neg (by rw [z7]; decide)]
    refine wt_H_bh (wh_lookT n hn tv t3 (by omega)) (fun q hq => ?_)
    subst hq
    have h7' : 97 ≤ (β j2).toInt ∧ (β j2).toInt ≤ 122 := h7
    have es := wt_subE (x := β j2) (y := (97 : Int32)) (by omega) (by omega)
    have ei := wt_i1 (c := s.1) (by omega)
    have P : ∀ s2 : wt_St, wt_fr (fun _ _ => False) (fun i => i = 3) s.2 s2 → (∀ i, i < 9 → j + i < j2 + 1 → (wt_ga s2 3 i).toInt = (β (j + i)).toInt - 97) → wt_H (K ((s.1 + (1 : Int32)), (wt_sf s2 1 4 ((wt_gf s2 1 4) + (1 : Int32))))) (fun q => ∃ j j2, wt_run β e wt_bl k j ∧ wt_run β e wt_sm j j2 ∧ wt_tv β e j2 q.2 ∧ (wt_gf q.2 1 5).toInt = (j : Int) ∧ ((j2 = j ∧ q.1 = 0 ∧ wt_flt q.2 1 j ∧ wt_fr (fun i k => i = 1 ∧ 4 ≤ k) (fun i => i = 3) σ q.2) ∨ (j < j2 ∧ q.1 = 1 ∧ wt_fr (fun i k => i = 1 ∧ (k = 4 ∨ k = 5)) (fun i => i = 3) σ q.2 ∧ ∀ i, i < 9 → j + i < j2 → (wt_ga q.2 3 i).toInt = (β (j + i)).toInt - 97))) := by
      intro s2 f2 sp2
      have tv2 := wt_tv_fr tv f2 (by (try dsimp only); omega) (fun h => h) (fun h => h)
      have ej := wt_i1 (c := wt_gf s2 1 4) (by rw [tv2.2.2.1]; omega)
      obtain ⟨s3, ε3⟩ : ∃ o : wt_St, o = wt_sf s2 1 4 ((wt_gf s2 1 4) + (1 : Int32)) := ⟨_, rfl⟩
      rw [← ε3]
      have f3 := wt_fr_sf ε3
      refine hK _ ⟨j2 + 1, by omega, fun i h1 h2 => ?_, wt_tv_adv tv2 ε3 (by rw [ej, tv2.2.2.1]; omega) (by omega), ?_, (show (s.1 + (1 : Int32)).toInt = ((j2 + 1 : Nat) : Int) - j by omega), wt_fr.tr (wt_fr.tr fr f2 (fun i k h => h.elim) (fun i h => h)) f3 (fun i k h => by (try dsimp only at h); omega) (fun i h => h.elim), fun i h1 h2 => ?_⟩
      · by_cases hc : i = j2
        · rw [hc]; exact ⟨by omega, h7⟩
        · exact i2 i h1 (by omega)
      · show (wt_gf s3 1 5).toInt = (j : Int)
        rw [f3.1 1 5 (by (try dsimp only); omega), f2.1 1 5 (fun h => h)]
        exact st
      · show (wt_ga s3 3 i).toInt = (β (j + i)).toInt - 97
        rw [f3.2 3 (fun h => h)]
        exact sp2 i h1 h2
    by_cases h9 : j2 - j < 9
    · refine wt_H_bh (wh_put n (k := j2 - j) (by omega) (by rw [wt_ln3]; exact h9)) (fun q hq => ?_)
      have hq : q = wt_sa s.2 3 (j2 - j) (β j2 - (97 : Int32)) := hq
      refine P q (wt_fr_sa hq) (fun i h1 h2 => ?_)
      by_cases hc : i = j2 - j
      · rw [hc, wt_v_sa hq, show j + (j2 - j) = j2 by omega]
        omega
      · rw [wt_w_sa hq i hc]
        exact sp i h1 (by omega)
    · refine wt_H_bh (wh_putx n (Or.inr (by rw [wt_ln3]; omega))) (fun q hq => ?_)
      subst hq
      exact P s.2 wt_fr.rf (fun i h1 h2 => sp i h1 (by omega))
/-- the number that the digits from k on tell -/
def wt_dv (β : Nat → Int32) (k : Nat) : Nat → Int
  | 0 => 0
  | m + 1 => 10 * wt_dv β k m + ((β (k + m)).toInt - 48)
theorem wt_dv_nn {β : Nat → Int32} {e k : Nat} : ∀ m, (∀ i, k ≤ i → i < k + m → i < e ∧ wt_dg (β i).toInt) → 0 ≤ wt_dv β k m := by
  intro m
  induction m with
  | zero => intro _; exact Int.le_refl _
  | succ m ih =>
    intro h
    have h1 := ih (fun i a b => h i a (by omega))
    have h2 : 48 ≤ (β (k + m)).toInt ∧ (β (k + m)).toInt ≤ 57 := (h (k + m) (by omega) (by omega)).2
    show 0 ≤ 10 * wt_dv β k m + ((β (k + m)).toInt - 48)
    omega
set_option maxHeartbeats 4000000 in
theorem wh_takeNumber (n : Nat) (hn : 4294967297 < n) {β : Nat → Int32} {e k : Nat} {σ : wt_St} {x1 x2 : Int32} (h : wt_tv β e k σ) (hlo : 0 ≤ x1.toInt) (hhi : x2.toInt ≤ 1000) : wt_H (wp_tp_takeNumber n x1 x2 σ) (fun q => ∃ j j2, wt_run β e wt_bl k j ∧ wt_run β e wt_dg j j2 ∧ wt_tv β e j2 q.2 ∧ ((j2 = j ∧ q.1 = -1 ∧ wt_flt q.2 1 j ∧ wt_fr (fun i k => i = 1 ∧ 4 ≤ k) (fun _ => False) σ q.2) ∨ (j < j2 ∧ (wt_dv β j (j2 - j) < x1.toInt ∨ x2.toInt < wt_dv β j (j2 - j)) ∧ q.1 = -1 ∧ wt_flt q.2 2 j ∧ wt_fr (fun i k => i = 1 ∧ 4 ≤ k) (fun _ => False) σ q.2) ∨ (j < j2 ∧ x1.toInt ≤ wt_dv β j (j2 - j) ∧ wt_dv β j (j2 - j) ≤ x2.toInt ∧ q.1.toInt = wt_dv β j (j2 - j) ∧ wt_fr (fun i k => i = 1 ∧ (k = 4 ∨ k = 5)) (fun _ => False) σ q.2))) := by
  have k0 : (0 : Int32).toInt = 0 := by decide
  have k1 : (1 : Int32).toInt = 1 := by decide
  have k2 : (2 : Int32).toInt = 2 := by decide
  have k10 : (10 : Int32).toInt = 10 := by decide
  have k48 : (48 : Int32).toInt = 48 := by decide
  have kM : (1000000 : Int32).toInt = 1000000 := by decide
  unfold wp_tp_takeNumber
  refine wt_H_bh (wh_skip n hn h) (fun σ1 hσ => ?_)
  obtain ⟨j, hr, tv1, st1, fr1⟩ := hσ
  refine wt_H_it (fun s : Int32 × wt_St => ∃ j2, j ≤ j2 ∧ (∀ i, j ≤ i → i < j2 → i < e ∧ wt_dg (β i).toInt) ∧ wt_tv β e j2 s.2 ∧ (wt_gf s.2 1 5).toInt = (j : Int) ∧ s.1.toInt = min (wt_dv β j (j2 - j)) 1000000 ∧ wt_fr (fun i k => i = 1 ∧ (k = 4 ∨ k = 5)) (fun _ => False) σ s.2) (fun K s I hK => ?_) n _ ⟨j, Nat.le_refl _, fun i h1 h2 => absurd h1 (by omega), tv1, st1, by rw [Nat.sub_self]; show ((0 : Int32)).toInt = min 0 1000000; omega, fr1⟩
  obtain ⟨j2, i1, i2, tv, st, ic, fr⟩ := I
  have tv' := tv
  obtain ⟨t1, t2, t3, t4, t5⟩ := tv'
  have nn := wt_dv_nn (β := β) (e := e) (k := j) (j2 - j) (fun i a b => i2 i a (by omega))
  have E : ¬ (j2 < e ∧ wt_dg (β j2).toInt) → wt_H (wp_tp_takeNumber_B72 n x1 x2 s.1 s.2) (fun q => ∃ j j2, wt_run β e wt_bl k j ∧ wt_run β e wt_dg j j2 ∧ wt_tv β e j2 q.2 ∧ ((j2 = j ∧ q.1 = -1 ∧ wt_flt q.2 1 j ∧ wt_fr (fun i k => i = 1 ∧ 4 ≤ k) (fun _ => False) σ q.2) ∨ (j < j2 ∧ (wt_dv β j (j2 - j) < x1.toInt ∨ x2.toInt < wt_dv β j (j2 - j)) ∧ q.1 = -1 ∧ wt_flt q.2 2 j ∧ wt_fr (fun i k => i = 1 ∧ 4 ≤ k) (fun _ => False) σ q.2) ∨ (j < j2 ∧ x1.toInt ≤ wt_dv β j (j2 - j) ∧ wt_dv β j (j2 - j) ≤ x2.toInt ∧ q.1.toInt = wt_dv β j (j2 - j) ∧ wt_fr (fun i k => i = 1 ∧ (k = 4 ∨ k = 5)) (fun _ => False) σ q.2))) := by
    intro hx
    have F : ∀ (f : Nat) (y : Int32), y.toInt = (f : Int) → wt_H (wp_tp_fail n y s.2) (fun q => q.1 = 0 ∧ wt_flt q.2 f j ∧ wt_tv β e j2 q.2 ∧ wt_fr (fun i k => i = 1 ∧ 4 ≤ k) (fun _ => False) σ q.2) := fun f y hy => (wh_fail n hy st).imp (fun q hq => ⟨hq.1, hq.2.1, wt_tv_fr tv hq.2.2 (fun h => h) (by (try dsimp only); omega) (by (try dsimp only); omega), wt_fr.tr (wt_fr.tr wt_fr.rf fr (fun i k h => by (try dsimp only at h); omega) (fun i h => h)) hq.2.2 (fun i k h => by (try dsimp only at h); omega) (fun i h => h)⟩)
    unfold wp_tp_takeNumber_B72
    refine wt_H_if (fun c => ?_) (fun c => ?_)
    · have c' := wt_ceq c
      refine wt_H_bh (F 1 (1 : Int32) (by omega)) (fun q hq => ?_)
      exact wt_H_some ⟨j, j2, hr, ⟨i1, i2, hx⟩, hq.2.2.1, Or.inl ⟨by omega, rfl, hq.2.1, hq.2.2.2⟩⟩
    · have c' := wt_nceq c
      refine wt_H_if (fun d => ?_) (fun d => ?_)
      · have d' := wt_clt d
        unfold wp_tp_takeNumber_B101
        refine wt_H_bh (F 2 (2 : Int32) (by omega)) (fun q hq => ?_)
        exact wt_H_some ⟨j, j2, hr, ⟨i1, i2, hx⟩, hq.2.2.1, Or.inr (Or.inl ⟨by omega, by omega, rfl, hq.2.1, hq.2.2.2⟩)⟩
      · have d' := wt_ncl d
        refine wt_H_if (fun g => ?_) (fun g => ?_)
        · have g' := wt_cle g
          exact wt_H_some ⟨j, j2, hr, ⟨i1, i2, hx⟩, tv, Or.inr (Or.inr ⟨by omega, by omega, by omega, (show s.1.toInt = _ by omega), fr⟩)⟩
        · have g' := wt_ncle g
          unfold wp_tp_takeNumber_B101
          refine wt_H_bh (F 2 (2 : Int32) (by omega)) (fun q hq => ?_)
          exact wt_H_some ⟨j, j2, hr, ⟨i1, i2, hx⟩, hq.2.2.1, Or.inr (Or.inl ⟨by omega, by omega, rfl, hq.2.1, hq.2.2.2⟩)⟩
  unfold wp_tp_takeNumber_B6
  refine wt_H_if (fun c => E (by have := wt_cle c; omega)) (fun c => ?_)
  have c' := wt_ncle c
  refine wt_H_bh (wh_lookT n hn tv t3 (by omega)) (fun q hq => ?_)
  subst hq
  refine wt_H_bh (wh_digit n) (fun q7 h7 => ?_)
  obtain ⟨e7, h7⟩ := h7
  have e7' : q7.2 = s.2 := e7
  rw [e7']
  rcases h7 with ⟨z7, h7⟩ | ⟨z7, h7⟩
  · rw [if_pos z7]
    exact E (fun z => h7 z.2)
  · rw [if_neg (by rw [z7]; decide)]
    refine wt_H_bh (wh_lookT n hn tv t3 (by omega)) (fun q hq => ?_)
    subst hq
    have h7' : 48 ≤ (β j2).toInt ∧ (β j2).toInt ≤ 57 := h7
    have em := wt_mulR (x := s.1) k10 (by omega) (by omega)
    have ea := wt_addE (x := s.1 * (10 : Int32)) (y := β j2) (by omega) (by omega)
    have es := wt_subE (x := (s.1 * (10 : Int32)) + β j2) (y := (48 : Int32)) (by omega) (by omega)
    have ej := wt_i1 (c := wt_gf s.2 1 4) (by omega)
    obtain ⟨s3, ε3⟩ : ∃ o : wt_St, o = wt_sf s.2 1 4 ((wt_gf s.2 1 4) + (1 : Int32)) := ⟨_, rfl⟩
    show wt_H (K (_, wt_sf s.2 1 4 ((wt_gf s.2 1 4) + (1 : Int32)))) _
    rw [← ε3]
    have f3 := wt_fr_sf ε3
    have edv : wt_dv β j (j2 + 1 - j) = 10 * wt_dv β j (j2 - j) + ((β j2).toInt - 48) := by
      rw [show j2 + 1 - j = (j2 - j) + 1 by omega]
      show 10 * wt_dv β j (j2 - j) + ((β (j + (j2 - j))).toInt - 48) = _
      rw [show j + (j2 - j) = j2 by omega]
    refine hK _ ⟨j2 + 1, by omega, fun i h1 h2 => ?_, wt_tv_adv tv ε3 (by rw [ej, t3]; omega) (by omega), ?_, ?_, wt_fr.tr fr f3 (fun i k h => by (try dsimp only at h); omega) (fun i h => h)⟩
    · by_cases hc : i = j2
      · rw [hc]; exact ⟨by omega, h7⟩
      · exact i2 i h1 (by omega)
    · show (wt_gf s3 1 5).toInt = (j : Int)
      rw [f3.1 1 5 (by (try dsimp only); omega)]
      exact st
    · rw [edv]
      show (if (1000000 : Int32) < (((s.1 * (10 : Int32)) + β j2) - (48 : Int32)) then (1000000 : Int32) else (((s.1 * (10 : Int32)) + β j2) - (48 : Int32))).toInt = _
      by_cases hc : (1000000 : Int32) < (((s.1 * (10 : Int32)) + β j2) - (48 : Int32))
      · have hc' := wt_clt hc
        rw [if_pos hc]
        omega
      · have hc' := wt_ncl hc
        rw [if_neg hc]
        omega
