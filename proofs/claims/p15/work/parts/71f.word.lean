/-! letters, signs, names of clauses: both sides -/
theorem wt_sm_b {β : Nat → Int32} {e j j2 : Nat} (h : wt_run β e wt_sm j j2) {i : Nat} (h1 : j ≤ i) (h2 : i < j2) : 97 ≤ (β i).toInt ∧ (β i).toInt ≤ 122 := (h.2.1 i h1 h2).2
set_option maxHeartbeats 4000000 in
theorem wh_takeLetter (n : Nat) (hn : 4294967297 < n) {β : Nat → Int32} {e k : Nat} {σ : wt_St} (h : wt_tv β e k σ) : wt_H (wp_tp_takeLetter n σ) (fun q => ∃ j j2, wt_run β e wt_bl k j ∧ wt_run β e wt_sm j j2 ∧ wt_tv β e j2 q.2 ∧ ((j2 = j ∧ q.1 = -1 ∧ wt_flt q.2 1 j) ∨ (j + 1 < j2 ∧ q.1 = -1 ∧ wt_flt q.2 2 j) ∨ (j2 = j + 1 ∧ q.1.toInt = (β j).toInt - 97 ∧ wt_fr (fun i k => i = 1 ∧ (k = 4 ∨ k = 5)) (fun i => i = 3) σ q.2))) := by
  have k1 : (1 : Int32).toInt = 1 := by decide
  have k2 : (2 : Int32).toInt = 2 := by decide
  have k0 : (0 : Int32).toInt = 0 := by decide
  unfold wp_tp_takeLetter
  refine wt_H_bh (wh_takeWord n hn h) (fun q1 h1 => ?_)
  obtain ⟨j, j2, r1, r2, tv, st, hc⟩ := h1
  rcases hc with ⟨ej, z1, fl, fr⟩ | ⟨lt, z1, fr, sp⟩
  · rw [if_pos z1]
    exact wt_H_some ⟨j, j2, r1, r2, tv, Or.inl ⟨ej, rfl, fl⟩⟩
  · rw [if_neg (by rw [z1]; decide)]
    have tb := tv.2.2.2
    have es := wt_subE (x := wt_gf q1.2 1 4) (y := wt_gf q1.2 1 5) (by rw [tv.2.2.1, st]; omega) (by rw [tv.2.2.1, st]; omega)
    rw [tv.2.2.1, st] at es
    unfold wp_tp_wordLength
    show wt_H (if ((wt_gf q1.2 1 4) - (wt_gf q1.2 1 5)) ≤ (1 : Int32) then (wp_ap_look n 3 (0 : Int32) q1.2).bind fun q5 => some (q5.1, q5.2) else (wp_tp_fail n (2 : Int32) q1.2).bind fun q6 => some ((-1 : Int32), q6.2)) _
    refine wt_H_if (fun c => ?_) (fun c => ?_)
    · have c' := wt_cle c
      refine wt_H_bh (wh_look n hn (k := 0) (by omega) (by decide)) (fun q5 h5 => ?_)
      subst h5
      refine wt_H_some ⟨j, j2, r1, r2, tv, Or.inr (Or.inr ⟨by omega, ?_, fr⟩)⟩
      exact sp 0 (by omega) (by omega)
    · have c' := wt_ncle c
      refine wt_H_bh (wh_fail n (f := 2) (by omega) st) (fun q6 h6 => ?_)
      exact wt_H_some ⟨j, j2, r1, r2, wt_tv_fr tv h6.2.2 (fun h => h) (by (try dsimp only); omega) (by (try dsimp only); omega), Or.inr (Or.inl ⟨by omega, rfl, h6.2.1⟩)⟩
set_option maxHeartbeats 4000000 in
theorem wh_takeSign (n : Nat) (hn : 4294967297 < n) {β : Nat → Int32} {e k : Nat} {σ : wt_St} (x : Int32) (h : wt_tv β e k σ) : wt_H (wp_tp_takeSign n x σ) (fun q => ∃ j, wt_run β e wt_bl k j ∧ (wt_gf q.2 1 5).toInt = (j : Int) ∧ wt_fr (fun i k => i = 1 ∧ (k = 4 ∨ k = 5)) (fun _ => False) σ q.2 ∧ ((q.1 = 1 ∧ j < e ∧ β j = x ∧ wt_tv β e (j + 1) q.2) ∨ (q.1 = 0 ∧ ¬ (j < e ∧ β j = x) ∧ wt_tv β e j q.2))) := by
  unfold wp_tp_takeSign
  refine wt_H_bh (wh_skip n hn h) (fun s hs => ?_)
  obtain ⟨j, r1, tv, st, fr⟩ := hs
  have tv' := tv
  obtain ⟨t1, t2, t3, t4, t5⟩ := tv'
  refine wt_H_if (fun c => ?_) (fun c => ?_)
  · have c' := wt_cle c
    exact wt_H_some ⟨j, r1, st, fr, Or.inr ⟨rfl, fun z => by omega, tv⟩⟩
  · have c' := wt_ncle c
    refine wt_H_bh (wh_lookT n hn tv t3 (by omega)) (fun q hq => ?_)
    subst hq
    refine wt_H_if (fun c2 => ?_) (fun c2 => ?_)
    · have ei := wt_i1 (c := wt_gf s 1 4) (by omega)
      obtain ⟨s1, ε1⟩ : ∃ o : wt_St, o = wt_sf s 1 4 ((wt_gf s 1 4) + (1 : Int32)) := ⟨_, rfl⟩
      show wt_H (some ((1 : Int32), wt_sf s 1 4 ((wt_gf s 1 4) + (1 : Int32)))) _
      rw [← ε1]
      have f1 := wt_fr_sf ε1
      exact wt_H_some ⟨j, r1, by show (wt_gf s1 1 5).toInt = _; rw [f1.1 1 5 (by (try dsimp only); omega)]; exact st, wt_fr.tr fr f1 (fun i k h => by (try dsimp only at h); omega) (fun i h => h), Or.inl ⟨rfl, by omega, c2, wt_tv_adv tv ε1 (by rw [ei, t3]; omega) (by omega)⟩⟩
    · exact wt_H_some ⟨j, r1, st, fr, Or.inr ⟨rfl, fun z => c2 z.2, tv⟩⟩
theorem wh_needSign (n : Nat) (hn : 4294967297 < n) {β : Nat → Int32} {e k : Nat} {σ : wt_St} (x : Int32) (h : wt_tv β e k σ) : wt_H (wp_tp_needSign n x σ) (fun q => ∃ j, wt_run β e wt_bl k j ∧ ((q.1 = 1 ∧ j < e ∧ β j = x ∧ wt_tv β e (j + 1) q.2 ∧ wt_fr (fun i k => i = 1 ∧ (k = 4 ∨ k = 5)) (fun _ => False) σ q.2) ∨ (q.1 = 0 ∧ ¬ (j < e ∧ β j = x) ∧ wt_flt q.2 1 j))) := by
  unfold wp_tp_needSign
  refine wt_H_bh (wh_takeSign n hn x h) (fun q hq => ?_)
  obtain ⟨j, r1, st, fr, hc⟩ := hq
  rcases hc with ⟨z1, lt, eq, tv⟩ | ⟨z1, ne, tv⟩
  · rw [if_neg (by rw [z1]; decide)]
    exact wt_H_some ⟨j, r1, Or.inl ⟨rfl, lt, eq, tv, fr⟩⟩
  · rw [if_pos z1]
    refine wt_H_bh (wh_fail n (x := (1 : Int32)) (f := 1) (by decide) st) (fun q6 h6 => ?_)
    rw [if_pos h6.1]
    exact wt_H_some ⟨j, r1, Or.inr ⟨rfl, ne, h6.2.1⟩⟩
set_option maxHeartbeats 4000000 in
theorem wh_closes (n : Nat) {β : Nat → Int32} {e k : Nat} {σ : wt_St} {x : Int32} (h : wt_rv β e k σ) (h0 : wt_gf σ 108 5 = 0) (hx : 0 ≤ x.toInt) : wt_H (wp_md_closes n x σ) (fun q => ∃ j, wt_run β e wt_bl k j ∧ ((j < e ∧ β j = x ∧ wt_rv β e (j + 1) q ∧ wt_fr (fun i k => i = 108 ∧ k = 4) (fun _ => False) σ q) ∨ (¬ (j < e ∧ β j = x) ∧ wt_frt q 1 j))) := by
  unfold wp_md_closes
  rw [if_pos h0]
  refine wt_H_bh (wh_blanks n h) (fun s hs => ?_)
  obtain ⟨j, r1, rv, fr⟩ := hs
  have h01 : wt_gf s 108 5 = 0 := (fr.1 108 5 (by (try dsimp only); omega)).trans h0
  have rv' := rv
  obtain ⟨t1, t2, t3, t4, t5⟩ := rv'
  refine wt_H_bh (wh_byteAt n rv t3) (fun q hq => ?_)
  rcases hq with ⟨hq1, hq⟩ | ⟨hq1, hq⟩
  · subst hq
    rw [if_neg (show ¬ ((-1 : Int32), s).1 = x from fun z => by have := wt_ceq z; rw [wt_lm1] at this; omega)]
    refine wt_H_bh (wh_wrong n (x := (1 : Int32)) h01 (f := 1) (p := j) (by decide) t3) (fun q5 h5 => ?_)
    exact wt_H_some ⟨j, r1, Or.inr ⟨fun z => by omega, h5.1⟩⟩
  · subst hq
    refine wt_H_if (fun c => ?_) (fun c => ?_)
    · have ei := wt_i1 (c := wt_gf s 108 4) (by omega)
      obtain ⟨s1, ε1⟩ : ∃ o : wt_St, o = wt_sf s 108 4 ((wt_gf s 108 4) + (1 : Int32)) := ⟨_, rfl⟩
      show wt_H (some (wt_sf s 108 4 ((wt_gf s 108 4) + (1 : Int32)))) _
      rw [← ε1]
      exact wt_H_some ⟨j, r1, Or.inl ⟨hq1, c, wt_rv_adv rv ε1 (by rw [ei, t3]; omega) (by omega), wt_fr.tr fr (wt_fr_sf ε1) (fun i k h => by (try dsimp only at h); omega) (fun i h => h)⟩⟩
    · refine wt_H_bh (wh_wrong n (x := (1 : Int32)) h01 (f := 1) (p := j) (by decide) t3) (fun q5 h5 => ?_)
      exact wt_H_some ⟨j, r1, Or.inr ⟨fun z => c z.2, h5.1⟩⟩
theorem wh_closesN (n : Nat) {x : Int32} {σ : wt_St} (h0 : ¬ wt_gf σ 108 5 = 0) : wt_H (wp_md_closes n x σ) (fun q => q = σ) := by
  unfold wp_md_closes
  rw [if_neg h0]
  exact wt_H_some rfl
theorem wh_numberN (n : Nat) {x1 x2 : Int32} {σ : wt_St} (h0 : ¬ wt_gf σ 108 5 = 0) : wt_H (wp_md_number n x1 x2 σ) (fun q => q = ((0 : Int32), σ)) := by
  unfold wp_md_number
  rw [if_neg h0]
  exact wt_H_some rfl
theorem wh_letterHereN (n : Nat) {σ : wt_St} (h0 : ¬ wt_gf σ 108 5 = 0) : wt_H (wp_md_letterHere n σ) (fun q => q = ((0 : Int32), σ)) := by
  unfold wp_md_letterHere
  rw [if_neg h0]
  exact wt_H_some rfl
set_option maxHeartbeats 4000000 in
theorem wh_letterHere (n : Nat) {β : Nat → Int32} {e k : Nat} {σ : wt_St} (h : wt_rv β e k σ) (h0 : wt_gf σ 108 5 = 0) : wt_H (wp_md_letterHere n σ) (fun q => ∃ j j2, wt_run β e wt_bl k j ∧ wt_run β e wt_sm j j2 ∧ ((j2 = j ∧ wt_frt q.2 1 j ∧ q.1 = 0) ∨ (j + 1 < j2 ∧ wt_frt q.2 2 j ∧ q.1 = 0) ∨ (j2 = j + 1 ∧ wt_rv β e j2 q.2 ∧ q.1.toInt = (β j).toInt - 97 ∧ wt_fr (fun i k => i = 108 ∧ k = 4) (fun _ => False) σ q.2))) := by
  have k0 : (0 : Int32).toInt = 0 := by decide
  have k1 : (1 : Int32).toInt = 1 := by decide
  have k97 : (97 : Int32).toInt = 97 := by decide
  unfold wp_md_letterHere
  rw [if_pos h0]
  refine wt_H_bh (wh_lettersHere n h) (fun a ha => ?_)
  obtain ⟨j, j2, r1, r2, rv, ea, fr⟩ := ha
  have h01 : wt_gf a.2 108 5 = 0 := (fr.1 108 5 (by (try dsimp only); omega)).trans h0
  have rv' := rv
  obtain ⟨t1, t2, t3, t4, t5⟩ := rv'
  have hj2 := wt_run_le r2 t4
  have hj := r2.1
  have W : ∀ (f : Nat) (y v : Int32), y.toInt = (f : Int) → 0 < f → wt_H ((wp_md_wrong n y (wt_gf a.2 108 4) a.2).bind fun q8 => wp_md_letterHere_B56 n a.1 v q8) (fun q => wt_frt q.2 f j ∧ q.1 = 0) := by
    intro f y v hy hf
    refine wt_H_bh (wh_wrong n h01 hy t3) (fun q hq => ?_)
    unfold wp_md_letterHere_B56
    obtain ⟨s1, ε1⟩ : ∃ o : wt_St, o = wt_sf q 108 4 ((wt_gf q 108 4) + a.1) := ⟨_, rfl⟩
    rw [← ε1]
    have f1 := wt_fr_sf ε1
    have hf1 : wt_frt s1 f j := ⟨by rw [f1.1 108 5 (by (try dsimp only); omega)]; exact hq.1.1, by rw [f1.1 108 6 (by (try dsimp only); omega)]; exact hq.1.2⟩
    rw [if_neg (wt_frt_nz hf1 hf)]
    exact wt_H_some ⟨hf1, rfl⟩
  have B : ∀ q3 : Int32 × wt_St, q3.2 = a.2 → (j < e → q3.1 = β j) → wt_H (if a.1 = 0 then (wp_md_wrong n (1 : Int32) (wt_gf q3.2 108 4) q3.2).bind fun q8 => wp_md_letterHere_B56 n a.1 (q3.1 - (97 : Int32)) q8 else if a.1 ≤ (1 : Int32) then wp_md_letterHere_B56 n a.1 (q3.1 - (97 : Int32)) q3.2 else (wp_md_wrong n (2 : Int32) (wt_gf q3.2 108 4) q3.2).bind fun q7 => wp_md_letterHere_B56 n a.1 (q3.1 - (97 : Int32)) q7) (fun q => ∃ j j2, wt_run β e wt_bl k j ∧ wt_run β e wt_sm j j2 ∧ ((j2 = j ∧ wt_frt q.2 1 j ∧ q.1 = 0) ∨ (j + 1 < j2 ∧ wt_frt q.2 2 j ∧ q.1 = 0) ∨ (j2 = j + 1 ∧ wt_rv β e j2 q.2 ∧ q.1.toInt = (β j).toInt - 97 ∧ wt_fr (fun i k => i = 108 ∧ k = 4) (fun _ => False) σ q.2))) := by
    intro q3 e3 v3
    rw [e3]
    refine wt_H_if (fun c => ?_) (fun c => ?_)
    · have c' := wt_ceq c
      exact (W 1 (1 : Int32) _ (by decide) (by omega)).imp (fun q hq => ⟨j, j2, r1, r2, Or.inl ⟨by omega, hq⟩⟩)
    · have c' := wt_nceq c
      refine wt_H_if (fun d => ?_) (fun d => ?_)
      · have d' := wt_cle d
        have e1 : a.1.toInt = 1 := by omega
        have hb := wt_sm_b r2 (Nat.le_refl j) (by omega)
        rw [v3 (by omega)]
        have es := wt_subE (x := β j) (y := (97 : Int32)) (by omega) (by omega)
        unfold wp_md_letterHere_B56
        have ei := wt_addE (x := wt_gf a.2 108 4) (y := a.1) (by omega) (by omega)
        obtain ⟨s1, ε1⟩ : ∃ o : wt_St, o = wt_sf a.2 108 4 ((wt_gf a.2 108 4) + a.1) := ⟨_, rfl⟩
        rw [← ε1]
        have f1 := wt_fr_sf ε1
        rw [if_pos ((f1.1 108 5 (by (try dsimp only); omega)).trans h01)]
        exact wt_H_some ⟨j, j2, r1, r2, Or.inr (Or.inr ⟨by omega, wt_rv_adv rv ε1 (by rw [ei, t3]; omega) hj2, (by omega : (β j - (97 : Int32)).toInt = (β j).toInt - 97), wt_fr.tr fr f1 (fun i k h => by (try dsimp only at h); omega) (fun i h => h)⟩)⟩
      · have d' := wt_ncle d
        exact (W 2 (2 : Int32) _ (by decide) (by omega)).imp (fun q hq => ⟨j, j2, r1, r2, Or.inr (Or.inl ⟨by omega, hq⟩)⟩)
  refine wt_H_bh (wh_byteAt n rv t3) (fun q hq => ?_)
  rcases hq with ⟨hq1, hq⟩ | ⟨hq1, hq⟩
  · exact B q (by rw [hq]) (fun z => by omega)
  · exact B q (by rw [hq]) (fun _ => by rw [hq])
/-- the word from j to j2 is spelled so -/
def wt_is (β : Nat → Int32) (j j2 : Nat) (bs : List Int32) : Prop := j2 = j + bs.length ∧ ∀ i, i < bs.length → β (j + i) = wt_ch bs (nI i)
set_option maxHeartbeats 4000000 in
theorem wh_wordIs (n : Nat) (hn : 4294967297 < n) {β : Nat → Int32} {e j j2 : Nat} {σ : wt_St} (bs : List Int32) (hb : bs.length < 100) (h : wt_tv β e j2 σ) (hj : j ≤ j2) (st : (wt_gf σ 1 5).toInt = (j : Int)) : wt_H (wp_tp_wordIs n bs σ) (fun q => (wt_is β j j2 bs ∧ q = ((1 : Int32), σ)) ∨ (¬ wt_is β j j2 bs ∧ q = ((0 : Int32), σ))) := by
  have k0 : (0 : Int32).toInt = 0 := by decide
  have h' := h
  obtain ⟨t1, t2, t3, t4, t5⟩ := h'
  have hl := nI_toInt (n := bs.length) (by omega)
  have es := wt_subE (x := wt_gf σ 1 4) (y := wt_gf σ 1 5) (by omega) (by omega)
  unfold wp_tp_wordIs wp_tp_wordLength
  show wt_H (if ((wt_gf σ 1 4) - (wt_gf σ 1 5)) = (nI bs.length) then wt_it (wp_tp_wordIs_B15 n bs) n ((0 : Int32), σ) else some ((0 : Int32), σ)) _
  refine wt_H_if (fun c => ?_) (fun c => wt_H_some (Or.inr ⟨fun z => c (wt_eqI (by rw [es, hl, t3, st, z.1]; omega)), rfl⟩))
  have c' := wt_ceq c
  rw [es, hl, t3, st] at c'
  refine wt_H_it (fun s : Int32 × wt_St => s.2 = σ ∧ ∃ i : Nat, i ≤ bs.length ∧ s.1.toInt = (i : Int) ∧ ∀ i', i' < i → β (j + i') = wt_ch bs (nI i')) (fun K s I hK => ?_) n _ ⟨rfl, 0, Nat.zero_le _, k0, fun i' h => absurd h (by omega)⟩
  obtain ⟨e2, i, i1, i2, i3⟩ := I
  unfold wp_tp_wordIs_B15
  rw [e2]
  refine wt_H_if (fun d => ?_) (fun d => ?_)
  · have d' := wt_cle d
    exact wt_H_some (Or.inl ⟨⟨by omega, fun i' h => i3 i' (by omega)⟩, rfl⟩)
  · have d' := wt_ncle d
    have ea := wt_addE (x := wt_gf σ 1 5) (y := s.1) (by omega) (by omega)
    refine wt_H_bh (wh_lookT n hn h (j := j + i) (by omega) (by omega)) (fun q hq => ?_)
    subst hq
    refine wt_H_gd (fun _ => ?_)
    have e1 : s.1 = nI i := wt_eqI (by rw [nI_toInt (by omega)]; exact i2)
    have ei := wt_i1 (c := s.1) (by omega)
    refine wt_H_if (fun f => ?_) (fun f => ?_)
    · refine hK _ ⟨rfl, i + 1, by omega, (show (s.1 + (1 : Int32)).toInt = ((i + 1 : Nat) : Int) by omega), fun i' h => ?_⟩
      by_cases hc : i' = i
      · rw [hc, ← e1]; exact f
      · exact i3 i' (by omega)
    · refine wt_H_some (Or.inr ⟨fun z => f ?_, rfl⟩)
      have := z.2 i (by omega)
      rw [← e1] at this
      exact this
/-- the number that a word is in the reference -/
def wt_b27 (β : Nat → Int32) (j : Nat) : Nat → Int
  | 0 => 0
  | m + 1 => 27 * wt_b27 β j m + ((β (j + m)).toInt - 96)
def wt_p27 : Nat → Int
  | 0 => 1
  | m + 1 => 27 * wt_p27 m
theorem wt_b27_bd {β : Nat → Int32} {j : Nat} : ∀ m, (∀ i, i < m → 97 ≤ (β (j + i)).toInt ∧ (β (j + i)).toInt ≤ 122) → 0 ≤ wt_b27 β j m ∧ wt_b27 β j m + 1 ≤ wt_p27 m := by
  intro m
  induction m with
  | zero => intro _; exact ⟨Int.le_refl _, Int.le_refl _⟩
  | succ m ih =>
    intro h
    have h1 := ih (fun i hi => h i (by omega))
    have h2 := h m (by omega)
    show 0 ≤ 27 * wt_b27 β j m + ((β (j + m)).toInt - 96) ∧ 27 * wt_b27 β j m + ((β (j + m)).toInt - 96) + 1 ≤ 27 * wt_p27 m
    omega
theorem wt_p27_le {m : Nat} (h : m ≤ 5) : wt_p27 m ≤ 14348907 := by
  have : m = 0 ∨ m = 1 ∨ m = 2 ∨ m = 3 ∨ m = 4 ∨ m = 5 := by omega
  rcases this with h | h | h | h | h | h <;> subst h <;> decide
theorem wt_b27_inj {β γ : Nat → Int32} {j g : Nat} : ∀ m m', (∀ i, i < m → 97 ≤ (β (j + i)).toInt ∧ (β (j + i)).toInt ≤ 122) → (∀ i, i < m' → 97 ≤ (γ (g + i)).toInt ∧ (γ (g + i)).toInt ≤ 122) → wt_b27 β j m = wt_b27 γ g m' → m = m' ∧ ∀ i, i < m → β (j + i) = γ (g + i) := by
  intro m
  induction m with
  | zero =>
    intro m' h h' he
    cases m' with
    | zero => exact ⟨rfl, fun i hi => absurd hi (by omega)⟩
    | succ m' =>
      exfalso
      have h1 := (wt_b27_bd m' (fun i hi => h' i (by omega))).1
      have h2 := h' m' (by omega)
      have he' : (0 : Int) = 27 * wt_b27 γ g m' + ((γ (g + m')).toInt - 96) := he
      omega
  | succ m ih =>
    intro m' h h' he
    cases m' with
    | zero =>
      exfalso
      have h1 := (wt_b27_bd m (fun i hi => h i (by omega))).1
      have h2 := h m (by omega)
      have he' : 27 * wt_b27 β j m + ((β (j + m)).toInt - 96) = 0 := he
      omega
    | succ m' =>
      have h2 := h m (by omega)
      have h3 := h' m' (by omega)
      have he' : 27 * wt_b27 β j m + ((β (j + m)).toInt - 96) = 27 * wt_b27 γ g m' + ((γ (g + m')).toInt - 96) := he
      have r := ih m' (fun i hi => h i (by omega)) (fun i hi => h' i (by omega)) (by omega)
      refine ⟨by omega, fun i hi => ?_⟩
      by_cases hc : i = m
      · rw [hc, wt_eqI (by omega : (β (j + m)).toInt = (γ (g + m')).toInt), r.1]
      · exact r.2 i (by omega)
set_option maxHeartbeats 4000000 in
theorem wh_isWord (n : Nat) {β : Nat → Int32} {e k : Nat} {σ : wt_St} {w : Int32} (bs : List Int32) (hb : bs.length < 7) (hbs : ∀ i, i < bs.length → 97 ≤ (wt_ch bs (nI i)).toInt ∧ (wt_ch bs (nI i)).toInt ≤ 122) (hw : wt_b27 (fun i => wt_ch bs (nI i)) 0 bs.length = w.toInt) (h : wt_rv β e k σ) (h0 : wt_gf σ 108 5 = 0) : wt_H (wp_md_isWord n w σ) (fun q => ∃ j j2, wt_run β e wt_bl k j ∧ wt_run β e wt_sm j j2 ∧ wt_rv β e j q.2 ∧ wt_fr (fun i k => i = 108 ∧ k = 4) (fun _ => False) σ q.2 ∧ ((wt_is β j j2 bs ∧ q.1 = 1) ∨ (¬ wt_is β j j2 bs ∧ q.1 = 0))) := by
  have k0 : (0 : Int32).toInt = 0 := by decide
  have k1 : (1 : Int32).toInt = 1 := by decide
  have k7 : (7 : Int32).toInt = 7 := by decide
  have k27 : (27 : Int32).toInt = 27 := by decide
  have k97 : (97 : Int32).toInt = 97 := by decide
  unfold wp_md_isWord
  refine wt_H_bh (wh_lettersHere n h) (fun a ha => ?_)
  obtain ⟨j, j2, r1, r2, rv, ea, fr⟩ := ha
  have h01 : wt_gf a.2 108 5 = 0 := (fr.1 108 5 (by (try dsimp only); omega)).trans h0
  have rv' := rv
  obtain ⟨t1, t2, t3, t4, t5⟩ := rv'
  have hj2 := wt_run_le r2 t4
  have hj := r2.1
  have hin : ∀ m, m ≤ j2 - j → ∀ i, i < m → 97 ≤ (β (j + i)).toInt ∧ (β (j + i)).toInt ≤ 122 := fun m hm i hi => wt_sm_b r2 (by omega) (by omega)
  refine wt_H_it (fun s : Int32 × Int32 × wt_St => s.2.2 = a.2 ∧ ∃ m : Nat, s.2.1.toInt = (m : Int) ∧ m ≤ j2 - j ∧ m ≤ 7 ∧ (j2 - j < 7 → s.1.toInt = wt_b27 β j m)) (fun K s I hK => ?_) n _ ⟨rfl, 0, k0, Nat.zero_le _, by omega, fun _ => k0⟩
  obtain ⟨es, m, i1, i2, i3, i4⟩ := I
  have E : m = j2 - j ∨ m = 7 → wt_H (wp_md_isWord_B51 n w a.1 s.1 s.2.2) (fun q => ∃ j j2, wt_run β e wt_bl k j ∧ wt_run β e wt_sm j j2 ∧ wt_rv β e j q.2 ∧ wt_fr (fun i k => i = 108 ∧ k = 4) (fun _ => False) σ q.2 ∧ ((wt_is β j j2 bs ∧ q.1 = 1) ∨ (¬ wt_is β j j2 bs ∧ q.1 = 0))) := by
    intro hm
    unfold wp_md_isWord_B51
    rw [es, if_pos h01]
    refine wt_H_if (fun c => ?_) (fun c => ?_)
    · have c' := wt_cle c
      exact wt_H_some ⟨j, j2, r1, r2, rv, fr, Or.inr ⟨fun z => by have := z.1; omega, rfl⟩⟩
    · have c' := wt_ncle c
      have hl : j2 - j < 7 := by omega
      have hmm : m = j2 - j := by omega
      have v := i4 hl
      refine wt_H_if (fun d => ?_) (fun d => ?_)
      · have d' := wt_ceq d
        have r := wt_b27_inj (γ := fun i => wt_ch bs (nI i)) (g := 0) m bs.length (hin m i2) (fun i hi => by rw [Nat.zero_add]; exact hbs i hi) (by omega)
        refine wt_H_some ⟨j, j2, r1, r2, rv, fr, Or.inl ⟨⟨by omega, fun i hi => ?_⟩, rfl⟩⟩
        have := r.2 i (by omega)
        rw [Nat.zero_add] at this
        exact this
      · refine wt_H_some ⟨j, j2, r1, r2, rv, fr, Or.inr ⟨fun z => d (wt_eqI ?_), rfl⟩⟩
        rw [v, ← hw, hmm, show j2 - j = bs.length by have := z.1; omega]
        have q : ∀ p, p ≤ bs.length → wt_b27 β j p = wt_b27 (fun i => wt_ch bs (nI i)) 0 p := by
          intro p
          induction p with
          | zero => intro _; rfl
          | succ p ih =>
            intro hp
            show 27 * wt_b27 β j p + ((β (j + p)).toInt - 96) = 27 * wt_b27 (fun i => wt_ch bs (nI i)) 0 p + ((wt_ch bs (nI (0 + p))).toInt - 96)
            rw [ih (by omega), z.2 p (by omega), Nat.zero_add]
        exact q _ (Nat.le_refl _)
  unfold wp_md_isWord_B10
  refine wt_H_if (fun c => E (Or.inl (by have := wt_cle c; omega))) (fun c => ?_)
  have c' := wt_ncle c
  refine wt_H_if (fun d => E (Or.inr (by have := wt_cle d; omega))) (fun d => ?_)
  have d' := wt_ncle d
  rw [es]
  have e4 := wt_addE (x := wt_gf a.2 108 4) (y := s.2.1) (by omega) (by omega)
  refine wt_H_bh (wh_byteAt n rv (j := j + m) (by omega)) (fun q hq => ?_)
  have hq2 : q = (β (j + m), a.2) := by
    rcases hq with ⟨z, -⟩ | ⟨-, z⟩
    · omega
    · exact z
  subst hq2
  have ei := wt_i1 (c := s.2.1) (by omega)
  refine hK _ ⟨rfl, m + 1, (show (s.2.1 + (1 : Int32)).toInt = ((m + 1 : Nat) : Int) by omega), by omega, by omega, fun hl => ?_⟩
  have v := i4 hl
  have bd := wt_b27_bd m (hin m i2)
  have p5 := wt_p27_le (m := m) (by omega)
  have hb2 := hin (m + 1) (by omega) m (by omega)
  have em := wt_mulL (y := s.1) k27 (by omega) (by omega)
  have e1 := wt_addE (x := (27 : Int32) * s.1) (y := β (j + m)) (by omega) (by omega)
  have e2 := wt_subE (x := ((27 : Int32) * s.1) + β (j + m)) (y := (97 : Int32)) (by omega) (by omega)
  have e3 := wt_addE (x := (((27 : Int32) * s.1) + β (j + m)) - (97 : Int32)) (y := (1 : Int32)) (by omega) (by omega)
  show ((((((27 : Int32) * s.1) + β (j + m)) - (97 : Int32)) + (1 : Int32))).toInt = 27 * wt_b27 β j m + ((β (j + m)).toInt - 96)
  omega
