/-! the reference reads at k, of e bytes -/
def wt_rv (β : Nat → Int32) (e k : Nat) (s : wt_St) : Prop := (∀ j, j < 500 → wt_ga s 109 j = β j) ∧ (wt_gf s 108 2).toInt = (e : Int) ∧ (wt_gf s 108 4).toInt = (k : Int) ∧ k ≤ e ∧ e ≤ 500
theorem wt_rv_fr {β : Nat → Int32} {e k : Nat} {s s' : wt_St} {F : Nat → Nat → Prop} {A : Nat → Prop} (h : wt_rv β e k s) (f : wt_fr F A s s') (h2 : ¬ A 109) (h3 : ¬ F 108 2) (h4 : ¬ F 108 4) : wt_rv β e k s' := ⟨fun j hj => (f.2 109 h2 j).trans (h.1 j hj), by rw [f.1 108 2 h3]; exact h.2.1, by rw [f.1 108 4 h4]; exact h.2.2.1, h.2.2.2⟩
theorem wt_rv_adv {β : Nat → Int32} {e k k' : Nat} {s s' : wt_St} {v : Int32} (h : wt_rv β e k s) (ε : s' = wt_sf s 108 4 v) (hv : v.toInt = (k' : Int)) (hk : k' ≤ e) : wt_rv β e k' s' := ⟨fun j hj => ((wt_fr_sf ε).2 109 (fun h => h) j).trans (h.1 j hj), by rw [(wt_fr_sf ε).1 108 2 (by (try dsimp only); omega)]; exact h.2.1, (wt_ceq (wt_v_sf ε)).trans hv, hk, h.2.2.2.2⟩
theorem wh_byteAt (n : Nat) {β : Nat → Int32} {e k : Nat} {σ : wt_St} (h : wt_rv β e k σ) {x : Int32} {j : Nat} (hx : x.toInt = (j : Int)) : wt_H (wp_md_byteAt n x σ) (fun q => (e ≤ j ∧ q = ((-1 : Int32), σ)) ∨ (j < e ∧ q = (β j, σ))) := by
  obtain ⟨t1, t2, t3, t4, t5⟩ := h
  unfold wp_md_byteAt
  refine wt_H_if (fun c => ?_) (fun c => ?_)
  · have c' := wt_clt c
    refine wt_H_gd (fun _ => wt_H_some (Or.inr ⟨by omega, ?_⟩))
    rw [wt_tnN hx, t1 j (by omega)]
  · have c' := wt_ncl c
    exact wt_H_some (Or.inl ⟨by omega, rfl⟩)
set_option maxHeartbeats 4000000 in
theorem wh_blanks (n : Nat) {β : Nat → Int32} {e k : Nat} {σ : wt_St} (h : wt_rv β e k σ) : wt_H (wp_md_blanks n σ) (fun q => ∃ j, wt_run β e wt_bl k j ∧ wt_rv β e j q ∧ wt_fr (fun i k => i = 108 ∧ k = 4) (fun _ => False) σ q) := by
  have k32 : (32 : Int32).toInt = 32 := by decide
  unfold wp_md_blanks
  refine wt_H_it (fun s : wt_St => ∃ j, k ≤ j ∧ (∀ i, k ≤ i → i < j → i < e ∧ wt_bl (β i).toInt) ∧ wt_rv β e j s ∧ wt_fr (fun i k => i = 108 ∧ k = 4) (fun _ => False) σ s) (fun K s I hK => ?_) n σ ⟨k, Nat.le_refl _, fun i h1 h2 => absurd h1 (by omega), h, wt_fr.rf⟩
  obtain ⟨j, j1, j2, tv, fr⟩ := I
  have tv' := tv
  obtain ⟨t1, t2, t3, t4, t5⟩ := tv'
  unfold wp_md_blanks_B0
  refine wt_H_bh (wh_byteAt n tv t3) (fun q hq => ?_)
  rcases hq with ⟨hq1, hq⟩ | ⟨hq1, hq⟩
  · subst hq
    rw [if_neg (show ¬ ((-1 : Int32), s).1 = (32 : Int32) from (by decide : ¬ (-1 : Int32) = (32 : Int32)))]
    exact wt_H_some ⟨j, ⟨j1, j2, fun z => by omega⟩, tv, fr⟩
  · subst hq
    refine wt_H_if (fun c2 => ?_) (fun c2 => ?_)
    · have b : (β j).toInt = 32 := (wt_ceq c2).trans k32
      have ei := wt_i1 (c := wt_gf s 108 4) (by omega)
      obtain ⟨s1, ε1⟩ : ∃ o : wt_St, o = wt_sf s 108 4 ((wt_gf s 108 4) + (1 : Int32)) := ⟨_, rfl⟩
      show wt_H (K (wt_sf s 108 4 ((wt_gf s 108 4) + (1 : Int32)))) _
      rw [← ε1]
      refine hK _ ⟨j + 1, by omega, fun i h1 h2 => ?_, wt_rv_adv tv ε1 (by rw [ei, t3]; omega) (by omega), wt_fr.tr fr (wt_fr_sf ε1) (fun i k h => by (try dsimp only at h); omega) (fun i h => h)⟩
      by_cases hc : i = j
      · rw [hc]; exact ⟨by omega, b⟩
      · exact j2 i h1 (by omega)
    · exact wt_H_some ⟨j, ⟨j1, j2, fun z => c2 (wt_eqI (z.2.trans k32.symm))⟩, tv, fr⟩
set_option maxHeartbeats 4000000 in
theorem wh_lettersHere (n : Nat) {β : Nat → Int32} {e k : Nat} {σ : wt_St} (h : wt_rv β e k σ) : wt_H (wp_md_lettersHere n σ) (fun q => ∃ j j2, wt_run β e wt_bl k j ∧ wt_run β e wt_sm j j2 ∧ wt_rv β e j q.2 ∧ q.1.toInt = (j2 : Int) - j ∧ wt_fr (fun i k => i = 108 ∧ k = 4) (fun _ => False) σ q.2) := by
  have k0 : (0 : Int32).toInt = 0 := by decide
  unfold wp_md_lettersHere
  refine wt_H_bh (wh_blanks n h) (fun σ1 hσ => ?_)
  obtain ⟨j, hr, tv1, fr1⟩ := hσ
  have tv1' := tv1
  obtain ⟨t1, t2, t3, t4, t5⟩ := tv1'
  refine wt_H_it (fun s : Int32 × wt_St => s.2 = σ1 ∧ ∃ j2, j ≤ j2 ∧ (∀ i, j ≤ i → i < j2 → i < e ∧ wt_sm (β i).toInt) ∧ s.1.toInt = (j2 : Int) - j) (fun K s I hK => ?_) n _ ⟨rfl, j, Nat.le_refl _, fun i h1 h2 => absurd h1 (by omega), by show ((0 : Int32)).toInt = _; omega⟩
  obtain ⟨es, j2, i1, i2, ic⟩ := I
  have hj2 : j2 ≤ e := by
    by_cases c : j2 ≤ e
    · exact c
    · have := (i2 (j2 - 1) (by omega) (by omega)).1
      omega
  unfold wp_md_lettersHere_B6
  rw [es]
  have ea := wt_addE (x := wt_gf σ1 108 4) (y := s.1) (by omega) (by omega)
  refine wt_H_bh (wh_byteAt n (j := j2) tv1 (by omega)) (fun q hq => ?_)
  have E : ∀ q7 : Int32 × wt_St, q7.2 = σ1 → ¬ (j2 < e ∧ wt_sm (β j2).toInt) → wt_H (some (s.1, q7.2)) (fun q => ∃ j j2, wt_run β e wt_bl k j ∧ wt_run β e wt_sm j j2 ∧ wt_rv β e j q.2 ∧ q.1.toInt = (j2 : Int) - j ∧ wt_fr (fun i k => i = 108 ∧ k = 4) (fun _ => False) σ q.2) := by
    intro q7 e7 hx
    rw [e7]
    exact wt_H_some ⟨j, j2, hr, ⟨i1, i2, hx⟩, tv1, ic, fr1⟩
  rcases hq with ⟨hq1, hq⟩ | ⟨hq1, hq⟩
  · subst hq
    refine wt_H_bh (wh_smallM n) (fun q7 h7 => ?_)
    obtain ⟨e7, h7⟩ := h7
    rcases h7 with ⟨z7, h7⟩ | ⟨z7, h7⟩
    · rw [if_pos z7]
      exact E q7 e7 (fun z => by omega)
    · have : wt_sm (-1) := by rw [← wt_lm1]; exact h7
      unfold wt_sm at this
      omega
  · subst hq
    refine wt_H_bh (wh_smallM n) (fun q7 h7 => ?_)
    obtain ⟨e7, h7⟩ := h7
    rcases h7 with ⟨z7, h7⟩ | ⟨z7, h7⟩
    · rw [if_pos z7]
      exact E q7 e7 (fun z => h7 z.2)
    · rw [if_neg (by rw [z7]; decide)]
      have ei := wt_i1 (c := s.1) (by omega)
      refine hK _ ⟨e7, j2 + 1, by omega, fun i h1 h2 => ?_, (show (s.1 + (1 : Int32)).toInt = ((j2 + 1 : Nat) : Int) - j by omega)⟩
      by_cases hc : i = j2
      · rw [hc]; exact ⟨hq1, h7⟩
      · exact i2 i h1 (by omega)
/-- a fault of the reference -/
def wt_frt (s : wt_St) (f p : Nat) : Prop := (wt_gf s 108 5).toInt = (f : Int) ∧ (wt_gf s 108 6).toInt = (p : Int)
theorem wh_wrong (n : Nat) {x y : Int32} {f p : Nat} {σ : wt_St} (h0 : wt_gf σ 108 5 = 0) (hx : x.toInt = (f : Int)) (hy : y.toInt = (p : Int)) : wt_H (wp_md_wrong n x y σ) (fun q => wt_frt q f p ∧ wt_fr (fun i k => i = 108 ∧ (k = 5 ∨ k = 6)) (fun _ => False) σ q) := by
  unfold wp_md_wrong
  rw [if_pos h0]
  obtain ⟨s1, ε1⟩ : ∃ o : wt_St, o = wt_sf σ 108 5 x := ⟨_, rfl⟩
  rw [← ε1]
  obtain ⟨s2, ε2⟩ : ∃ o : wt_St, o = wt_sf s1 108 6 y := ⟨_, rfl⟩
  rw [← ε2]
  refine wt_H_some ⟨⟨?_, ?_⟩, wt_fr.tr (wt_fr.tr wt_fr.rf (wt_fr_sf ε1) (fun i k h => by (try dsimp only at h); omega) (fun i h => h)) (wt_fr_sf ε2) (fun i k h => by (try dsimp only at h); omega) (fun i h => h)⟩
  · rw [(wt_fr_sf ε2).1 108 5 (by (try dsimp only); omega), wt_v_sf ε1]; exact hx
  · rw [wt_v_sf ε2]; exact hy
theorem wh_wrongN (n : Nat) {x y : Int32} {σ : wt_St} (h0 : ¬ wt_gf σ 108 5 = 0) : wt_H (wp_md_wrong n x y σ) (fun q => q = σ) := by
  unfold wp_md_wrong
  rw [if_neg h0]
  exact wt_H_some rfl
theorem wh_in (n : Nat) {x y z : Int32} {σ : wt_St} : wt_H (wp_md_in n x y z σ) (fun q => q.2 = σ ∧ ((q.1 = 0 ∧ (x.toInt < y.toInt ∨ z.toInt < x.toInt)) ∨ (q.1 = 1 ∧ y.toInt ≤ x.toInt ∧ x.toInt ≤ z.toInt))) := by
  unfold wp_md_in
  refine wt_H_if (fun c => ?_) (fun c => wt_H_if (fun d => ?_) (fun d => ?_))
  · have := wt_clt c
    exact wt_H_some ⟨rfl, Or.inl ⟨rfl, by omega⟩⟩
  · have := wt_clt d
    exact wt_H_some ⟨rfl, Or.inl ⟨rfl, by omega⟩⟩
  · have := wt_ncl c
    have := wt_ncl d
    exact wt_H_some ⟨rfl, Or.inr ⟨rfl, by omega, by omega⟩⟩
theorem wt_frt_nz {s : wt_St} {f p : Nat} (h : wt_frt s f p) (hf : 0 < f) : ¬ wt_gf s 108 5 = 0 := fun z => by
  have k0 : (0 : Int32).toInt = 0 := by decide
  have := h.1
  rw [z] at this
  omega
set_option maxHeartbeats 4000000 in
theorem wh_number (n : Nat) {β : Nat → Int32} {e k : Nat} {σ : wt_St} {x1 x2 : Int32} (h : wt_rv β e k σ) (h0 : wt_gf σ 108 5 = 0) (hlo : 0 ≤ x1.toInt) (hhi : x2.toInt ≤ 1000) : wt_H (wp_md_number n x1 x2 σ) (fun q => ∃ j j2, wt_run β e wt_bl k j ∧ wt_run β e wt_dg j j2 ∧ wt_rv β e j2 q.2 ∧ ((j2 = j ∧ wt_frt q.2 1 j ∧ wt_fr (fun i k => i = 108 ∧ (k = 4 ∨ k = 5 ∨ k = 6)) (fun _ => False) σ q.2) ∨ (j < j2 ∧ (wt_dv β j (j2 - j) < x1.toInt ∨ x2.toInt < wt_dv β j (j2 - j)) ∧ wt_frt q.2 2 j ∧ wt_fr (fun i k => i = 108 ∧ (k = 4 ∨ k = 5 ∨ k = 6)) (fun _ => False) σ q.2) ∨ (j < j2 ∧ x1.toInt ≤ wt_dv β j (j2 - j) ∧ wt_dv β j (j2 - j) ≤ x2.toInt ∧ q.1.toInt = wt_dv β j (j2 - j) ∧ wt_fr (fun i k => i = 108 ∧ k = 4) (fun _ => False) σ q.2))) := by
  have k0 : (0 : Int32).toInt = 0 := by decide
  have k1 : (1 : Int32).toInt = 1 := by decide
  have k2 : (2 : Int32).toInt = 2 := by decide
  have k10 : (10 : Int32).toInt = 10 := by decide
  have k48 : (48 : Int32).toInt = 48 := by decide
  have kM : (100000 : Int32).toInt = 100000 := by decide
  unfold wp_md_number
  rw [if_pos h0]
  refine wt_H_bh (wh_blanks n h) (fun σ1 hσ => ?_)
  obtain ⟨j, hr, tv1, fr1⟩ := hσ
  have h01 : wt_gf σ1 108 5 = 0 := (fr1.1 108 5 (by (try dsimp only); omega)).trans h0
  have t3 := tv1.2.2.1
  -- the loop: from the place j, no fault of another kind than the first
  have LOOP : ∀ s0 : wt_St, wt_rv β e j s0 → (wt_gf s0 108 5 = 0 ∧ wt_fr (fun i k => i = 108 ∧ k = 4) (fun _ => False) σ s0 ∧ (j < e ∧ wt_dg (β j).toInt)) ∨ (wt_frt s0 1 j ∧ wt_fr (fun i k => i = 108 ∧ (k = 4 ∨ k = 5 ∨ k = 6)) (fun _ => False) σ s0 ∧ ¬ (j < e ∧ wt_dg (β j).toInt)) → wt_H (wt_it (wp_md_number_B44 n x1 x2 (wt_gf σ1 108 4)) n ((0 : Int32), s0)) (fun q => ∃ j j2, wt_run β e wt_bl k j ∧ wt_run β e wt_dg j j2 ∧ wt_rv β e j2 q.2 ∧ ((j2 = j ∧ wt_frt q.2 1 j ∧ wt_fr (fun i k => i = 108 ∧ (k = 4 ∨ k = 5 ∨ k = 6)) (fun _ => False) σ q.2) ∨ (j < j2 ∧ (wt_dv β j (j2 - j) < x1.toInt ∨ x2.toInt < wt_dv β j (j2 - j)) ∧ wt_frt q.2 2 j ∧ wt_fr (fun i k => i = 108 ∧ (k = 4 ∨ k = 5 ∨ k = 6)) (fun _ => False) σ q.2) ∨ (j < j2 ∧ x1.toInt ≤ wt_dv β j (j2 - j) ∧ wt_dv β j (j2 - j) ≤ x2.toInt ∧ q.1.toInt = wt_dv β j (j2 - j) ∧ wt_fr (fun i k => i = 108 ∧ k = 4) (fun _ => False) σ q.2))) := by
    intro s0 rv0 hs0
    refine wt_H_it (fun s : Int32 × wt_St => ∃ j2, j ≤ j2 ∧ (∀ i, j ≤ i → i < j2 → i < e ∧ wt_dg (β i).toInt) ∧ wt_rv β e j2 s.2 ∧ s.1.toInt = min (wt_dv β j (j2 - j)) 100000 ∧ ((wt_gf s.2 108 5 = 0 ∧ wt_fr (fun i k => i = 108 ∧ k = 4) (fun _ => False) σ s.2 ∧ (j < e ∧ wt_dg (β j).toInt)) ∨ (j2 = j ∧ wt_frt s.2 1 j ∧ wt_fr (fun i k => i = 108 ∧ (k = 4 ∨ k = 5 ∨ k = 6)) (fun _ => False) σ s.2 ∧ ¬ (j < e ∧ wt_dg (β j).toInt)))) (fun K s I hK => ?_) n _ ⟨j, Nat.le_refl _, fun i h1 h2 => absurd h1 (by omega), rv0, by rw [Nat.sub_self]; show ((0 : Int32)).toInt = min 0 100000; omega, ?_⟩
    · obtain ⟨j2, i1, i2, rv, ic, hf⟩ := I
      have rv' := rv
      obtain ⟨r1, r2, r3, r4, r5⟩ := rv'
      have nn := wt_dv_nn (β := β) (e := e) (k := j) (j2 - j) (fun i a b => i2 i a (by omega))
      unfold wp_md_number_B44
      refine wt_H_bh (wh_byteAt n rv r3) (fun q hq => ?_)
      have E : ¬ (j2 < e ∧ wt_dg (β j2).toInt) → wt_H ((wp_md_in n s.1 x1 x2 s.2).bind fun q9 => if q9.1 = 0 then (wp_md_wrong n (2 : Int32) (wt_gf σ1 108 4) q9.2).bind fun q12 => wp_md_number_B122 n s.1 q12 else wp_md_number_B122 n s.1 q9.2) (fun q => ∃ j j2, wt_run β e wt_bl k j ∧ wt_run β e wt_dg j j2 ∧ wt_rv β e j2 q.2 ∧ ((j2 = j ∧ wt_frt q.2 1 j ∧ wt_fr (fun i k => i = 108 ∧ (k = 4 ∨ k = 5 ∨ k = 6)) (fun _ => False) σ q.2) ∨ (j < j2 ∧ (wt_dv β j (j2 - j) < x1.toInt ∨ x2.toInt < wt_dv β j (j2 - j)) ∧ wt_frt q.2 2 j ∧ wt_fr (fun i k => i = 108 ∧ (k = 4 ∨ k = 5 ∨ k = 6)) (fun _ => False) σ q.2) ∨ (j < j2 ∧ x1.toInt ≤ wt_dv β j (j2 - j) ∧ wt_dv β j (j2 - j) ≤ x2.toInt ∧ q.1.toInt = wt_dv β j (j2 - j) ∧ wt_fr (fun i k => i = 108 ∧ k = 4) (fun _ => False) σ q.2))) := by
        intro hx
        refine wt_H_bh (wh_in n) (fun q9 h9 => ?_)
        obtain ⟨e9, h9⟩ := h9
        rw [e9]
        rcases hf with ⟨f0, ff, fd⟩ | ⟨fj, ff, fr, fd⟩
        · have hlt : j < j2 := by
            by_cases c : j = j2
            · exact absurd (c ▸ fd) hx
            · omega
          rcases h9 with ⟨z9, h9⟩ | ⟨z9, h9⟩
          · rw [if_pos z9]
            refine wt_H_bh (wh_wrong n f0 (f := 2) (p := j) (by omega) t3) (fun q12 h12 => ?_)
            unfold wp_md_number_B122
            rw [if_neg (wt_frt_nz h12.1 (by omega))]
            exact wt_H_some ⟨j, j2, hr, ⟨i1, i2, hx⟩, wt_rv_fr rv h12.2 (fun h => h) (by (try dsimp only); omega) (by (try dsimp only); omega), Or.inr (Or.inl ⟨hlt, by omega, h12.1, wt_fr.tr (wt_fr.tr wt_fr.rf ff (fun i k h => by (try dsimp only at h); omega) (fun i h => h)) h12.2 (fun i k h => by (try dsimp only at h); omega) (fun i h => h)⟩)⟩
          · rw [if_neg (by rw [z9]; decide)]
            unfold wp_md_number_B122
            rw [if_pos f0]
            exact wt_H_some ⟨j, j2, hr, ⟨i1, i2, hx⟩, rv, Or.inr (Or.inr ⟨hlt, by omega, by omega, (show s.1.toInt = _ by omega), ff⟩)⟩
        · have nz := wt_frt_nz ff (by omega)
          have R : wt_H (wp_md_number_B122 n s.1 s.2) (fun q => ∃ j j2, wt_run β e wt_bl k j ∧ wt_run β e wt_dg j j2 ∧ wt_rv β e j2 q.2 ∧ ((j2 = j ∧ wt_frt q.2 1 j ∧ wt_fr (fun i k => i = 108 ∧ (k = 4 ∨ k = 5 ∨ k = 6)) (fun _ => False) σ q.2) ∨ (j < j2 ∧ (wt_dv β j (j2 - j) < x1.toInt ∨ x2.toInt < wt_dv β j (j2 - j)) ∧ wt_frt q.2 2 j ∧ wt_fr (fun i k => i = 108 ∧ (k = 4 ∨ k = 5 ∨ k = 6)) (fun _ => False) σ q.2) ∨ (j < j2 ∧ x1.toInt ≤ wt_dv β j (j2 - j) ∧ wt_dv β j (j2 - j) ≤ x2.toInt ∧ q.1.toInt = wt_dv β j (j2 - j) ∧ wt_fr (fun i k => i = 108 ∧ k = 4) (fun _ => False) σ q.2))) := by
            unfold wp_md_number_B122
            rw [if_neg nz]
            exact wt_H_some ⟨j, j2, hr, ⟨i1, i2, hx⟩, rv, Or.inl ⟨fj, ff, fr⟩⟩
          rcases h9 with ⟨z9, h9⟩ | ⟨z9, h9⟩
          · rw [if_pos z9]
            refine wt_H_bh (wh_wrongN n nz) (fun q12 h12 => ?_)
            rw [h12]
            exact R
          · rw [if_neg (by rw [z9]; decide)]
            exact R
      rcases hq with ⟨hq1, hq⟩ | ⟨hq1, hq⟩
      · subst hq
        refine wt_H_bh (wh_digitM n) (fun q7 h7 => ?_)
        obtain ⟨e7, h7⟩ := h7
        rcases h7 with ⟨z7, h7⟩ | ⟨z7, h7⟩
        · have e7' : q7.2 = s.2 := e7
          rw [if_pos z7, e7']
          exact E (fun z => by omega)
        · have : wt_dg (-1) := by rw [← wt_lm1]; exact h7
          unfold wt_dg at this
          omega
      · subst hq
        refine wt_H_bh (wh_digitM n) (fun q7 h7 => ?_)
        obtain ⟨e7, h7⟩ := h7
        have e7' : q7.2 = s.2 := e7
        rw [e7']
        rcases h7 with ⟨z7, h7⟩ | ⟨z7, h7⟩
        · rw [if_pos z7]
          exact E (fun z => h7 z.2)
        · rw [if_neg (by rw [z7]; decide)]
          have h7' : 48 ≤ (β j2).toInt ∧ (β j2).toInt ≤ 57 := h7
          refine wt_H_bh (wh_byteAt n rv r3) (fun q hq => ?_)
          have hq2 : q = (β j2, s.2) := by
            rcases hq with ⟨a, -⟩ | ⟨-, a⟩
            · omega
            · exact a
          subst hq2
          have hf2 : wt_gf s.2 108 5 = 0 ∧ wt_fr (fun i k => i = 108 ∧ k = 4) (fun _ => False) σ s.2 ∧ (j < e ∧ wt_dg (β j).toInt) := by
            rcases hf with hf | ⟨fj, -, -, fd⟩
            · exact hf
            · exact absurd ⟨fj ▸ hq1, fj ▸ h7⟩ fd
          have em := wt_mulL (y := s.1) k10 (by omega) (by omega)
          have ea := wt_addE (x := (10 : Int32) * s.1) (y := β j2) (by omega) (by omega)
          have es := wt_subE (x := ((10 : Int32) * s.1) + β j2) (y := (48 : Int32)) (by omega) (by omega)
          have ej := wt_i1 (c := wt_gf s.2 108 4) (by omega)
          have edv : wt_dv β j (j2 + 1 - j) = 10 * wt_dv β j (j2 - j) + ((β j2).toInt - 48) := by
            rw [show j2 + 1 - j = (j2 - j) + 1 by omega]
            show 10 * wt_dv β j (j2 - j) + ((β (j + (j2 - j))).toInt - 48) = _
            rw [show j + (j2 - j) = j2 by omega]
          have G : ∀ y : Int32, y.toInt = min (wt_dv β j (j2 + 1 - j)) 100000 → wt_H (wp_md_number_B91 n x1 x2 (wt_gf σ1 108 4) K y s.2) (fun q => ∃ j j2, wt_run β e wt_bl k j ∧ wt_run β e wt_dg j j2 ∧ wt_rv β e j2 q.2 ∧ ((j2 = j ∧ wt_frt q.2 1 j ∧ wt_fr (fun i k => i = 108 ∧ (k = 4 ∨ k = 5 ∨ k = 6)) (fun _ => False) σ q.2) ∨ (j < j2 ∧ (wt_dv β j (j2 - j) < x1.toInt ∨ x2.toInt < wt_dv β j (j2 - j)) ∧ wt_frt q.2 2 j ∧ wt_fr (fun i k => i = 108 ∧ (k = 4 ∨ k = 5 ∨ k = 6)) (fun _ => False) σ q.2) ∨ (j < j2 ∧ x1.toInt ≤ wt_dv β j (j2 - j) ∧ wt_dv β j (j2 - j) ≤ x2.toInt ∧ q.1.toInt = wt_dv β j (j2 - j) ∧ wt_fr (fun i k => i = 108 ∧ k = 4) (fun _ => False) σ q.2))) := by
            intro y hy
            unfold wp_md_number_B91
            obtain ⟨s3, ε3⟩ : ∃ o : wt_St, o = wt_sf s.2 108 4 ((wt_gf s.2 108 4) + (1 : Int32)) := ⟨_, rfl⟩
            rw [← ε3]
            have f3 := wt_fr_sf ε3
            refine hK _ ⟨j2 + 1, by omega, fun i h1 h2 => ?_, wt_rv_adv rv ε3 (by rw [ej, r3]; omega) (by omega), hy, Or.inl ⟨?_, wt_fr.tr hf2.2.1 f3 (fun i k h => by (try dsimp only at h); omega) (fun i h => h), hf2.2.2⟩⟩
            · by_cases hc : i = j2
              · rw [hc]; exact ⟨hq1, h7⟩
              · exact i2 i h1 (by omega)
            · show wt_gf s3 108 5 = 0
              rw [f3.1 108 5 (by (try dsimp only); omega)]
              exact hf2.1
          refine wt_H_if (fun c => ?_) (fun c => ?_)
          · have c' : ((((10 : Int32) * s.1) + β j2) - (48 : Int32)).toInt ≤ (100000 : Int32).toInt := wt_cle c
            exact G _ (by show ((((10 : Int32) * s.1) + β j2) - (48 : Int32)).toInt = _; omega)
          · have c' : (100000 : Int32).toInt < ((((10 : Int32) * s.1) + β j2) - (48 : Int32)).toInt := wt_ncle c
            exact G _ (by omega)
    · rcases hs0 with ⟨a, b, c⟩ | ⟨a, b, c⟩
      · exact Or.inl ⟨a, b, c⟩
      · exact Or.inr ⟨rfl, a, b, c⟩
  refine wt_H_bh (wh_byteAt n tv1 t3) (fun q hq => ?_)
  have W : ∀ q4 : Int32 × wt_St, q4.2 = σ1 → ¬ (j < e ∧ wt_dg (β j).toInt) → wt_H ((wp_md_wrong n (1 : Int32) (wt_gf q4.2 108 4) q4.2).bind fun q15 => wt_it (wp_md_number_B44 n x1 x2 (wt_gf σ1 108 4)) n ((0 : Int32), q15)) (fun q => ∃ j j2, wt_run β e wt_bl k j ∧ wt_run β e wt_dg j j2 ∧ wt_rv β e j2 q.2 ∧ ((j2 = j ∧ wt_frt q.2 1 j ∧ wt_fr (fun i k => i = 108 ∧ (k = 4 ∨ k = 5 ∨ k = 6)) (fun _ => False) σ q.2) ∨ (j < j2 ∧ (wt_dv β j (j2 - j) < x1.toInt ∨ x2.toInt < wt_dv β j (j2 - j)) ∧ wt_frt q.2 2 j ∧ wt_fr (fun i k => i = 108 ∧ (k = 4 ∨ k = 5 ∨ k = 6)) (fun _ => False) σ q.2) ∨ (j < j2 ∧ x1.toInt ≤ wt_dv β j (j2 - j) ∧ wt_dv β j (j2 - j) ≤ x2.toInt ∧ q.1.toInt = wt_dv β j (j2 - j) ∧ wt_fr (fun i k => i = 108 ∧ k = 4) (fun _ => False) σ q.2))) := by
    intro q4 e4 hx
    rw [e4]
    refine wt_H_bh (wh_wrong n h01 (f := 1) (p := j) (by omega) t3) (fun q15 h15 => ?_)
    exact LOOP q15 (wt_rv_fr tv1 h15.2 (fun h => h) (by (try dsimp only); omega) (by (try dsimp only); omega)) (Or.inr ⟨h15.1, wt_fr.tr (wt_fr.tr wt_fr.rf fr1 (fun i k h => by (try dsimp only at h); omega) (fun i h => h)) h15.2 (fun i k h => by (try dsimp only at h); omega) (fun i h => h), hx⟩)
  rcases hq with ⟨hq1, hq⟩ | ⟨hq1, hq⟩
  · subst hq
    refine wt_H_bh (wh_digitM n) (fun q7 h7 => ?_)
    obtain ⟨e7, h7⟩ := h7
    rcases h7 with ⟨z7, h7⟩ | ⟨z7, h7⟩
    · rw [if_pos z7]
      exact W q7 e7 (fun z => by omega)
    · have : wt_dg (-1) := by rw [← wt_lm1]; exact h7
      unfold wt_dg at this
      omega
  · subst hq
    refine wt_H_bh (wh_digitM n) (fun q7 h7 => ?_)
    obtain ⟨e7, h7⟩ := h7
    rcases h7 with ⟨z7, h7⟩ | ⟨z7, h7⟩
    · rw [if_pos z7]
      exact W q7 e7 (fun z => h7 z.2)
    · have e7' : q7.2 = σ1 := e7
      rw [if_neg (by rw [z7]; decide), e7']
      exact LOOP σ1 tv1 (Or.inl ⟨h01, fr1, hq1, h7⟩)
