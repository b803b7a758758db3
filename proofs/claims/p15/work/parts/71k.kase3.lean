set_option maxHeartbeats 4000000 in
theorem wh_become4 (n : Nat) {σ : wt_St} : wt_H (wp_ld_become n 4 12 σ) (fun q => wt_fr (fun i k => i = 4 ∧ k = 7) (fun i => 5 ≤ i ∧ i < 12) σ q ∧ (∀ l, l < 26 → wt_ga q 5 l = wt_ga σ 13 l ∧ wt_ga q 7 l = wt_ga σ 15 l ∧ wt_ga q 9 l = wt_ga σ 17 l ∧ wt_ga q 10 l = wt_ga σ 18 l) ∧ (∀ k, k < 312 → wt_ga q 6 k = wt_ga σ 14 k ∧ wt_ga q 8 k = wt_ga σ 16 k) ∧ (∀ m, m < 4 → wt_ga q 11 m = wt_ga σ 19 m) ∧ wt_gf q 4 7 = wt_gf σ 12 7) := by
  unfold wp_ld_become
  refine wt_H_bh (wh_copyRow n (a := 13) (b := 5) (by decide) (by decide)) (fun q1 h1 => ?_)
  refine wt_H_bh (wh_copyRow n (a := 14) (b := 6) (by decide) (by decide)) (fun q2 h2 => ?_)
  refine wt_H_bh (wh_copyRow n (a := 15) (b := 7) (by decide) (by decide)) (fun q3 h3 => ?_)
  refine wt_H_bh (wh_copyRow n (a := 16) (b := 8) (by decide) (by decide)) (fun q4 h4 => ?_)
  refine wt_H_bh (wh_copyRow n (a := 17) (b := 9) (by decide) (by decide)) (fun q5 h5 => ?_)
  refine wt_H_bh (wh_copyRow n (a := 18) (b := 10) (by decide) (by decide)) (fun q6 h6 => ?_)
  refine wt_H_bh (wh_copyRow n (a := 19) (b := 11) (by decide) (by decide)) (fun q7 h7 => ?_)
  obtain ⟨q8, ε⟩ : ∃ o : wt_St, o = wt_sf q7 4 7 (wt_gf q7 12 7) := ⟨_, rfl⟩
  rw [← ε]
  have f8 := wt_fr_sf ε
  have W : ∀ {a : Nat} {s s' : wt_St}, wt_fr (fun _ _ => False) (fun i => i = a) s s' → 5 ≤ a → a < 12 → wt_fr (fun i k => i = 4 ∧ k = 7) (fun i => 5 ≤ i ∧ i < 12) s s' := fun f h1 h2 => wt_frw f (fun i k h => h.elim) (fun i h => by omega)
  have T : ∀ {s s' s'' : wt_St}, wt_fr (fun i k => i = 4 ∧ k = 7) (fun i => 5 ≤ i ∧ i < 12) s s' → wt_fr (fun i k => i = 4 ∧ k = 7) (fun i => 5 ≤ i ∧ i < 12) s' s'' → wt_fr (fun i k => i = 4 ∧ k = 7) (fun i => 5 ≤ i ∧ i < 12) s s'' := fun f g => wt_fr.tr f g (fun i k h => h) (fun i h => h)
  have d1 := W h1.1 (by omega) (by omega)
  have d2 := T d1 (W h2.1 (by omega) (by omega))
  have d3 := T d2 (W h3.1 (by omega) (by omega))
  have d4 := T d3 (W h4.1 (by omega) (by omega))
  have d5 := T d4 (W h5.1 (by omega) (by omega))
  have d6 := T d5 (W h6.1 (by omega) (by omega))
  have d7 := T d6 (W h7.1 (by omega) (by omega))
  refine wt_H_some ⟨T d7 (wt_frw f8 (fun i k h => h) (fun i h => h.elim)), fun l hl => ⟨?_, ?_, ?_, ?_⟩, fun k hk => ⟨?_, ?_⟩, fun m hm => ?_, ?_⟩
  · rw [f8.2 5 (fun h => h), h7.1.2 5 (by decide), h6.1.2 5 (by decide), h5.1.2 5 (by decide), h4.1.2 5 (by decide), h3.1.2 5 (by decide), h2.1.2 5 (by decide)]
    exact h1.2 l hl
  · rw [f8.2 7 (fun h => h), h7.1.2 7 (by decide), h6.1.2 7 (by decide), h5.1.2 7 (by decide), h4.1.2 7 (by decide), h3.2 l hl, d2.2 15 (by decide)]
  · rw [f8.2 9 (fun h => h), h7.1.2 9 (by decide), h6.1.2 9 (by decide), h5.2 l hl, d4.2 17 (by decide)]
  · rw [f8.2 10 (fun h => h), h7.1.2 10 (by decide), h6.2 l hl, d5.2 18 (by decide)]
  · rw [f8.2 6 (fun h => h), h7.1.2 6 (by decide), h6.1.2 6 (by decide), h5.1.2 6 (by decide), h4.1.2 6 (by decide), h3.1.2 6 (by decide), h2.2 k hk, d1.2 14 (by decide)]
  · rw [f8.2 8 (fun h => h), h7.1.2 8 (by decide), h6.1.2 8 (by decide), h5.1.2 8 (by decide), h4.2 k hk, d3.2 16 (by decide)]
  · rw [f8.2 11 (fun h => h), h7.2 m hm, d6.2 19 (by decide)]
  · rw [wt_v_sf ε, d7.1 12 7 (by decide)]
set_option maxHeartbeats 4000000 in
theorem wh_lay39 (n : Nat) {σ : wt_St} : wt_H (wp_st_lay n 39 4 σ) (fun q => wt_fr (fun _ _ => False) (fun i => i = 40 ∨ i = 41 ∨ i = 43) σ q ∧ (∀ k, k < 312 → wt_ga q 40 k = wt_ga σ 6 k ∧ wt_ga q 41 k = -1) ∧ (∀ g, g < 4 → wt_ga q 43 g = -1)) := by
  unfold wp_st_lay wp_st_clearPages
  refine wt_H_bh (wh_copyRow n (a := 6) (b := 40) (by decide) (by decide)) (fun q1 h1 => ?_)
  refine wt_H_bh (P := fun q => wt_fr (fun _ _ => False) (fun i => i = 41 ∨ i = 43) q1 q ∧ (∀ k, k < 312 → wt_ga q 41 k = -1) ∧ (∀ g, g < 4 → wt_ga q 43 g = -1)) ?_ (fun q2 h2 => ?_)
  · refine wt_H_bh (wh_fillRow n (a := 41)) (fun q2 h2 => ?_)
    refine wt_H_bh (wh_fillRow n (a := 43)) (fun q3 h3 => ?_)
    refine wt_H_some ⟨wt_fr.tr (wt_frw h2.1 (fun i k h => h) (fun i h => Or.inl h)) h3.1 (fun i k h => h) (fun i h => Or.inr h), fun k hk => ?_, fun g hg => h3.2 g hg⟩
    rw [h3.1.2 41 (by decide)]
    exact h2.2 k hk
  · refine wt_H_some ⟨wt_fr.tr (wt_frw h1.1 (fun i k h => h) (fun i h => Or.inl h)) h2.1 (fun i k h => h) (fun i h => Or.inr h), fun k hk => ⟨?_, h2.2.1 k hk⟩, h2.2.2⟩
    rw [h2.1.2 40 (by decide)]
    exact h1.2 k hk
set_option maxHeartbeats 4000000 in
theorem wr_sum (n : Nat) (hn : 4294967297 < n) {s z : wt_St} (h : ∀ l, l < 26 → wt_ga s 5 l = wt_ga z 111 l) : wt_HH (wp_sk_piecesOfAll n s) (wp_md_allPieces n z) (fun q y => q.1 = y.1 ∧ q.2 = s ∧ y.2 = z) := by
  have k0 : (0 : Int32).toInt = 0 := by decide
  have k26 : (26 : Int32).toInt = 26 := by decide
  unfold wp_sk_piecesOfAll wp_md_allPieces
  refine wt_HH_it (fun (t : Int32 × Int32 × wt_St) (u : Int32 × Int32 × wt_St) => t.1 = u.1 ∧ t.2.1 = u.2.1 ∧ t.2.2 = s ∧ u.2.2 = z ∧ 0 ≤ t.2.1.toInt) (fun K K' t u I hK => ?_) n n _ _ ⟨rfl, rfl, rfl, rfl, by show 0 ≤ ((0 : Int32)).toInt; omega⟩
  obtain ⟨e1, e2, e3, e4, i0⟩ := I
  unfold wp_sk_piecesOfAll_B4 wp_md_allPieces_B4
  rw [← e2, e3, e4, ← e1]
  refine wt_HH_il (fun c => ?_) (fun c => ?_)
  · rw [if_pos c]
    exact wt_HH_some ⟨rfl, rfl, rfl⟩
  · rw [if_neg c]
    have c' := wt_ncle c
    have ei := wt_i1 (c := t.2.1) (by omega)
    have et := wt_tnI i0
    refine wt_HH_gr (fun _ => ?_)
    refine wt_HH_l (wq_sk_pieces n hn t.2.1 s).h (fun q hq => ?_)
    obtain ⟨q1, q2⟩ := hq
    rw [q1, q2, wt_lk_in (k := Int32.toNatClampNeg t.2.1) (by omega) (by show Int32.toNatClampNeg t.2.1 < 26; omega), h _ (by omega)]
    exact hK _ _ ⟨rfl, rfl, rfl, rfl, by show 0 ≤ (t.2.1 + (1 : Int32)).toInt; omega⟩
/-- what stands alike when a case has been taken -/
def wt_KC (q y : wt_St) : Prop := wt_pr q y 5 40 111 121 ∧ wt_pr q y 7 8 113 123 ∧ (∀ l, l < 26 → wt_ga q 9 l = wt_ga y 115 l) ∧ (∀ l, l < 26 → wt_ga q 10 l = wt_ga y 117 l) ∧ (∀ m, m < 4 → wt_ga q 11 m = wt_ga y 119 m) ∧ wt_gf q 4 7 = wt_gf y 108 25 ∧ (∀ k, k < 312 → wt_ga q 41 k = -1) ∧ (∀ k, k < 338 → wt_ga y 124 k = -1) ∧ (∀ g, g < 4 → wt_ga q 43 g = -1) ∧ (∀ g, g < 4 → wt_ga y 275 g = -1) ∧ wt_gf q 0 14 = 0 ∧ wt_gf y 108 41 = 0
set_option maxHeartbeats 4000000 in
/-- the end of kase: the tables are taken over -/
theorem wr_kaseEnd (n : Nat) (hn : 4294967297 < n) {s z : wt_St} (hp : wt_gf s 1 7 = wt_gf z 108 6) (h5 : wt_gf z 108 5 = 0) {c : Int32} (lr : wt_lr c s z) : wt_HH ((wp_ld_become n 4 12 s).bind fun q6 => (wp_st_lay n 39 4 q6).bind fun q7 => (wp_sk_piecesOfAll n (wt_sf q7 0 14 (0 : Int32))).bind fun q8 => some ((0 : Nat), q8.1, q8.2)) (wp_md_kase_B70 n z) (fun q y => q.1 = 0 ∧ q.2.1 = y.1 ∧ wt_gf y.2 108 0 = wt_gf z 108 0 ∧ wt_gf q.2.2 1 7 = wt_gf y.2 108 3 ∧ wt_KC q.2.2 y.2) := by
  have k0 : (0 : Int32).toInt = 0 := by decide
  have k4 : (4 : Int32).toInt = 4 := by decide
  obtain ⟨c1, c2, c3, c4, c5, c6, -, -⟩ := lr
  refine wt_HH_l (wh_become4 n) (fun q6 h6 => ?_)
  obtain ⟨f6, a6, b6, m6, v6⟩ := h6
  refine wt_HH_l (wh_lay39 n) (fun q7 h7 => ?_)
  obtain ⟨f7, a7, b7⟩ := h7
  obtain ⟨s8, ε8⟩ : ∃ o : wt_St, o = wt_sf q7 0 14 (0 : Int32) := ⟨_, rfl⟩
  rw [← ε8]
  have f8 := wt_fr_sf ε8
  unfold wp_md_kase_B70
  obtain ⟨z1, ε1⟩ : ∃ o : wt_St, o = wt_sf z 108 3 (wt_gf z 108 6) := ⟨_, rfl⟩
  rw [← ε1]
  have g1 := wt_fr_sf ε1
  rw [if_pos ((g1.1 108 5 (by (try dsimp only); omega)).trans h5)]
  refine wt_HH_r (wh_takesCase n) (fun z2 h2 => ?_)
  obtain ⟨g2, l2, m2, k2, v2⟩ := h2
  have e5 : ∀ l, l < 26 → wt_ga s8 5 l = wt_ga s 13 l := fun l hl => by rw [f8.2 5 (fun h => h), f7.2 5 (by decide)]; exact (a6 l hl).1
  have e111 : ∀ l, l < 26 → wt_ga z2 111 l = wt_ga z 110 l := fun l hl => by rw [(l2 l hl).1, g1.2 110 (fun h => h)]
  refine wt_HH_itr (fun y : Int32 × wt_St => 0 ≤ y.1.toInt ∧ wt_fr (fun _ _ => False) (fun i => i = 275) z2 y.2 ∧ ∀ g : Nat, (g : Int) < y.1.toInt → wt_ga y.2 275 g = -1) (fun K y I hK => ?_) n _ ⟨by show 0 ≤ ((0 : Int32)).toInt; omega, wt_fr.rf, fun l hl => absurd (show (l : Int) < ((0 : Int32)).toInt from hl) (by omega)⟩
  obtain ⟨i1, g3, i2⟩ := I
  unfold wp_md_kase_B99
  refine wt_HH_ir (fun d => ?_) (fun d => ?_)
  · have d' := wt_cle d
    obtain ⟨z4, ε4⟩ : ∃ o : wt_St, o = wt_sf y.2 108 41 (0 : Int32) := ⟨_, rfl⟩
    rw [← ε4]
    have g4 := wt_fr_sf ε4
    have tot : ∀ i, i ≠ 275 → i ≠ 111 → i ≠ 113 → i ≠ 115 → i ≠ 117 → i ≠ 119 → i ≠ 121 → i ≠ 123 → i ≠ 124 → ∀ j, wt_ga z4 i j = wt_ga z i j := fun i h1 h2 h3 h4 h5 h6 h7 h8 h9 j => by rw [g4.2 i (fun h => h), g3.2 i h1, g2.2 i (by (try dsimp only); omega), g1.2 i (fun h => h)]
    refine wt_HH_b (wr_sum n hn (s := s8) (z := z4) (fun l hl => ?_)) (fun a b hab => ?_)
    · rw [e5 l hl, g4.2 111 (fun h => h), g3.2 111 (by decide), e111 l hl]
      exact (c1 l hl).1
    · obtain ⟨ab1, ab2, ab3⟩ := hab
      refine wt_HH_some ⟨rfl, ab1, ?_, ?_, ?_⟩
      · show wt_gf b.2 108 0 = wt_gf z 108 0
        rw [ab3, g4.1 108 0 (by (try dsimp only); omega), g3.1 108 0 (fun h => h), g2.1 108 0 (by (try dsimp only); omega), g1.1 108 0 (by (try dsimp only); omega)]
      · show wt_gf a.2 1 7 = wt_gf b.2 108 3
        rw [ab2, ab3, f8.1 1 7 (by (try dsimp only); omega), f7.1 1 7 (fun h => h), f6.1 1 7 (by (try dsimp only); omega), g4.1 108 3 (by (try dsimp only); omega), g3.1 108 3 (fun h => h), g2.1 108 3 (by (try dsimp only); omega), wt_v_sf ε1]
        exact hp
      · show wt_KC a.2 b.2
        rw [ab2, ab3]
        refine ⟨fun l hl => ?_, fun l hl => ?_, fun l hl => ?_, fun l hl => ?_, fun m hm => ?_, ?_, fun k hk => ?_, fun k hk => ?_, fun g hg => ?_, fun g hg => ?_, wt_v_sf ε8, wt_v_sf ε4⟩
        · obtain ⟨p1, p2, p3, p4⟩ := c1 l hl
          rw [e5 l hl, g4.2 111 (fun h => h), g3.2 111 (by decide), e111 l hl]
          refine ⟨p1, p2, p3, fun i hi => ?_⟩
          rw [f8.2 40 (fun h => h), (a7 _ (by omega)).1, (b6 _ (by omega)).1, g4.2 121 (fun h => h), g3.2 121 (by decide), (k2 _ (by omega)).1, g1.2 120 (fun h => h)]
          exact p4 i hi
        · obtain ⟨p1, p2, p3, p4⟩ := c2 l hl
          rw [f8.2 7 (fun h => h), f7.2 7 (by decide), (a6 l hl).2.1, g4.2 113 (fun h => h), g3.2 113 (by decide), (l2 l hl).2.1, g1.2 112 (fun h => h)]
          refine ⟨p1, p2, p3, fun i hi => ?_⟩
          rw [f8.2 8 (fun h => h), f7.2 8 (by decide), (b6 _ (by omega)).2, g4.2 123 (fun h => h), g3.2 123 (by decide), (k2 _ (by omega)).2.1, g1.2 122 (fun h => h)]
          exact p4 i hi
        · rw [f8.2 9 (fun h => h), f7.2 9 (by decide), (a6 l hl).2.2.1, g4.2 115 (fun h => h), g3.2 115 (by decide), (l2 l hl).2.2.1, g1.2 114 (fun h => h)]
          exact c3 l hl
        · rw [f8.2 10 (fun h => h), f7.2 10 (by decide), (a6 l hl).2.2.2, g4.2 117 (fun h => h), g3.2 117 (by decide), (l2 l hl).2.2.2, g1.2 116 (fun h => h)]
          exact c4 l hl
        · rw [f8.2 11 (fun h => h), f7.2 11 (by decide), m6 m hm, g4.2 119 (fun h => h), g3.2 119 (by decide), m2 m hm, g1.2 118 (fun h => h)]
          exact c5 m hm
        · rw [f8.1 4 7 (by (try dsimp only); omega), f7.1 4 7 (fun h => h), v6, g4.1 108 25 (by (try dsimp only); omega), g3.1 108 25 (fun h => h), v2, g1.1 108 24 (by (try dsimp only); omega)]
          exact c6
        · rw [f8.2 41 (fun h => h)]
          exact (a7 k hk).2
        · rw [g4.2 124 (fun h => h), g3.2 124 (by decide)]
          exact (k2 k hk).2.2
        · rw [f8.2 43 (fun h => h)]
          exact b7 g hg
        · rw [g4.2 275 (fun h => h)]
          exact i2 g (by omega)
  · have d' := wt_ncle d
    have ei := wt_i1 (c := y.1) (by omega)
    have et := wt_tnI i1
    refine wt_HH_gr (fun _ => ?_)
    obtain ⟨z4, ε4⟩ : ∃ o : wt_St, o = wt_sa y.2 275 (Int32.toNatClampNeg y.1) (-1 : Int32) := ⟨_, rfl⟩
    rw [← ε4]
    refine hK _ ⟨by show 0 ≤ (y.1 + (1 : Int32)).toInt; omega, wt_fr.tr g3 (wt_fr_sa ε4) (fun i k h => h) (fun i h => h), fun g hg => ?_⟩
    have hg' : (g : Int) < (y.1 + (1 : Int32)).toInt := hg
    show wt_ga z4 275 g = -1
    by_cases hc : g = Int32.toNatClampNeg y.1
    · rw [hc, wt_v_sa ε4]
    · rw [wt_w_sa ε4 g hc]; exact i2 g (by omega)
/-! what a call leaves that is refused -/
theorem wh_refuse0 (n : Nat) {σ : wt_St} : wt_H (wp_ap_refuse n (0 : Int32) σ) (fun q => q = (0, 0, σ)) := by
  unfold wp_ap_refuse
  rw [if_pos rfl]
  exact wt_H_some rfl
theorem wh_refuse1 (n : Nat) {σ : wt_St} : wt_H (wp_ap_refuse n (1 : Int32) σ) (fun q => q = (1, 0, σ)) := by
  unfold wp_ap_refuse
  rw [if_neg (by decide)]
  exact wt_H_some rfl
theorem wh_bad0 (n : Nat) {x : Int32} {σ : wt_St} (h : wt_gf σ 108 0 = 0) : wt_H (wp_md_bad n (0 : Int32) x σ) (fun q => q = ((0 : Int32), σ)) := by
  unfold wp_md_bad wp_md_bad_B16
  rw [if_pos rfl, if_pos h]
  exact wt_H_some rfl
theorem wh_bad1 (n : Nat) {x : Int32} {σ : wt_St} (h : wt_gf σ 108 0 = 0) (hx : ¬ x = 0) : wt_H (wp_md_bad n (1 : Int32) x σ) (fun q => q = ((1 : Int32), wt_sf σ 108 0 x)) := by
  unfold wp_md_bad wp_md_bad_B16
  rw [if_neg (by decide), if_pos h, if_neg (by rw [wt_v_sf rfl]; exact hx)]
  exact wt_H_some rfl
theorem wh_badN (n : Nat) {y x : Int32} {σ : wt_St} (h : ¬ wt_gf σ 108 0 = 0) : wt_H (wp_md_bad n y x σ) (fun q => q = ((1 : Int32), σ)) := by
  unfold wp_md_bad wp_md_bad_B16
  refine wt_H_if (fun _ => ?_) (fun _ => ?_)
  · rw [if_neg h]; exact wt_H_some rfl
  · rw [if_neg h, if_neg h]; exact wt_H_some rfl
/-- the bytes on both tapes, and how many -/
def wt_TB (s z : wt_St) : Prop := (∀ j, j < 500 → wt_ga s 2 j = wt_ga z 109 j) ∧ wt_gf s 1 2 = wt_gf z 108 1
set_option maxHeartbeats 4000000 in
theorem wh_begin (n : Nat) {β : Nat → Int32} {x1 : Int32} {s : wt_St} (hx0 : 0 ≤ x1.toInt) (hx1 : x1.toInt ≤ 500) (hβ : ∀ j, j < 500 → wt_ga s 2 j = β j) : wt_H (wp_tp_begin n x1 s) (fun q => wt_tv β (Int32.toNatClampNeg x1) 0 q ∧ wt_gf q 1 7 = -1 ∧ wt_gf q 1 6 = 0 ∧ wt_gf q 1 2 = 0 ∧ wt_fr (fun i k => i = 1 ∧ 2 ≤ k) (fun _ => False) s q) := by
  have k0 : (0 : Int32).toInt = 0 := by decide
  have en := wt_tnI hx0
  unfold wp_tp_begin
  obtain ⟨s1, δ1⟩ : ∃ o : wt_St, o = wt_sf s 1 2 (0 : Int32) := ⟨_, rfl⟩
  rw [← δ1]
  obtain ⟨s2, δ2⟩ : ∃ o : wt_St, o = wt_sf s1 1 3 x1 := ⟨_, rfl⟩
  rw [← δ2]
  obtain ⟨s3, δ3⟩ : ∃ o : wt_St, o = wt_sf s2 1 4 (0 : Int32) := ⟨_, rfl⟩
  rw [← δ3]
  obtain ⟨s4, δ4⟩ : ∃ o : wt_St, o = wt_sf s3 1 5 (0 : Int32) := ⟨_, rfl⟩
  rw [← δ4]
  obtain ⟨s5, δ5⟩ : ∃ o : wt_St, o = wt_sf s4 1 6 (0 : Int32) := ⟨_, rfl⟩
  rw [← δ5]
  obtain ⟨s6, δ6⟩ : ∃ o : wt_St, o = wt_sf s5 1 7 (-1 : Int32) := ⟨_, rfl⟩
  rw [← δ6]
  have p1 := wt_fr_sf δ1
  have p2 := wt_fr_sf δ2
  have p3 := wt_fr_sf δ3
  have p4 := wt_fr_sf δ4
  have p5 := wt_fr_sf δ5
  have p6 := wt_fr_sf δ6
  have T : wt_fr (fun i k => i = 1 ∧ 2 ≤ k) (fun _ => False) s s6 := wt_fr.tr (wt_fr.tr (wt_fr.tr (wt_fr.tr (wt_fr.tr (wt_frw p1 (fun i k h => by (try dsimp only at h); omega) (fun i h => h)) p2 (fun i k h => by (try dsimp only at h); omega) (fun i h => h)) p3 (fun i k h => by (try dsimp only at h); omega) (fun i h => h)) p4 (fun i k h => by (try dsimp only at h); omega) (fun i h => h)) p5 (fun i k h => by (try dsimp only at h); omega) (fun i h => h)) p6 (fun i k h => by (try dsimp only at h); omega) (fun i h => h)
  refine wt_H_some ⟨⟨fun j hj => (T.2 2 (fun h => h) j).trans (hβ j hj), ?_, ?_, Nat.zero_le _, by omega⟩, wt_v_sf δ6, ?_, ?_, T⟩
  · rw [p6.1 1 3 (by (try dsimp only); omega), p5.1 1 3 (by (try dsimp only); omega), p4.1 1 3 (by (try dsimp only); omega), p3.1 1 3 (by (try dsimp only); omega), wt_v_sf δ2]; omega
  · rw [p6.1 1 4 (by (try dsimp only); omega), p5.1 1 4 (by (try dsimp only); omega), p4.1 1 4 (by (try dsimp only); omega), wt_v_sf δ3]; exact k0
  · rw [p6.1 1 6 (by (try dsimp only); omega), wt_v_sf δ5]
  · rw [p6.1 1 2 (by (try dsimp only); omega), p5.1 1 2 (by (try dsimp only); omega), p4.1 1 2 (by (try dsimp only); omega), p3.1 1 2 (by (try dsimp only); omega), p2.1 1 2 (by (try dsimp only); omega), wt_v_sf δ1]
set_option maxHeartbeats 4000000 in
theorem wh_starts (n : Nat) {β : Nat → Int32} {x1 : Int32} {z0 : wt_St} (hx0 : 0 ≤ x1.toInt) (hx1 : x1.toInt ≤ 500) (hβ : ∀ j, j < 500 → wt_ga z0 109 j = β j) : wt_H (wp_md_starts n x1 z0) (fun q => ∃ j, wt_run β (Int32.toNatClampNeg x1) wt_bl 0 j ∧ wt_rv β (Int32.toNatClampNeg x1) j q ∧ wt_gf q 108 5 = 0 ∧ wt_gf q 108 6 = -1 ∧ wt_gf q 108 7 = 0 ∧ wt_fr (fun i k => i = 108 ∧ (k = 1 ∨ k = 2 ∨ (4 ≤ k ∧ k < 8))) (fun _ => False) z0 q) := by
  have k0 : (0 : Int32).toInt = 0 := by decide
  have en := wt_tnI hx0
  unfold wp_md_starts
  obtain ⟨z1, ε1⟩ : ∃ o : wt_St, o = wt_sf z0 108 1 (0 : Int32) := ⟨_, rfl⟩
  rw [← ε1]
  obtain ⟨z2, ε2⟩ : ∃ o : wt_St, o = wt_sf z1 108 2 x1 := ⟨_, rfl⟩
  rw [← ε2]
  obtain ⟨z3, ε3⟩ : ∃ o : wt_St, o = wt_sf z2 108 4 (0 : Int32) := ⟨_, rfl⟩
  rw [← ε3]
  obtain ⟨z4, ε4⟩ : ∃ o : wt_St, o = wt_sf z3 108 5 (0 : Int32) := ⟨_, rfl⟩
  rw [← ε4]
  obtain ⟨z5, ε5⟩ : ∃ o : wt_St, o = wt_sf z4 108 6 (-1 : Int32) := ⟨_, rfl⟩
  rw [← ε5]
  obtain ⟨z6, ε6⟩ : ∃ o : wt_St, o = wt_sf z5 108 7 (0 : Int32) := ⟨_, rfl⟩
  rw [← ε6]
  have r1 := wt_fr_sf ε1
  have r2 := wt_fr_sf ε2
  have r3 := wt_fr_sf ε3
  have r4 := wt_fr_sf ε4
  have r5 := wt_fr_sf ε5
  have r6 := wt_fr_sf ε6
  have T : wt_fr (fun i k => i = 108 ∧ (k = 1 ∨ k = 2 ∨ (4 ≤ k ∧ k < 8))) (fun _ => False) z0 z6 := wt_fr.tr (wt_fr.tr (wt_fr.tr (wt_fr.tr (wt_fr.tr (wt_frw r1 (fun i k h => by (try dsimp only at h); omega) (fun i h => h)) r2 (fun i k h => by (try dsimp only at h); omega) (fun i h => h)) r3 (fun i k h => by (try dsimp only at h); omega) (fun i h => h)) r4 (fun i k h => by (try dsimp only at h); omega) (fun i h => h)) r5 (fun i k h => by (try dsimp only at h); omega) (fun i h => h)) r6 (fun i k h => by (try dsimp only at h); omega) (fun i h => h)
  have rv : wt_rv β (Int32.toNatClampNeg x1) 0 z6 := by
    refine ⟨fun j hj => (T.2 109 (fun h => h) j).trans (hβ j hj), ?_, ?_, Nat.zero_le _, by omega⟩
    · rw [r6.1 108 2 (by (try dsimp only); omega), r5.1 108 2 (by (try dsimp only); omega), r4.1 108 2 (by (try dsimp only); omega), r3.1 108 2 (by (try dsimp only); omega), wt_v_sf ε2]; omega
    · rw [r6.1 108 4 (by (try dsimp only); omega), r5.1 108 4 (by (try dsimp only); omega), r4.1 108 4 (by (try dsimp only); omega), wt_v_sf ε3]; exact k0
  refine wt_H_bh (wh_blanks n rv) (fun z7 hz7 => ?_)
  obtain ⟨j, rj, rv7, g7⟩ := hz7
  refine wt_H_some ⟨j, rj, rv7, ?_, ?_, ?_, wt_fr.tr T g7 (fun i k h => by (try dsimp only at h); omega) (fun i h => h)⟩
  · rw [g7.1 108 5 (by (try dsimp only); omega), r6.1 108 5 (by (try dsimp only); omega), r5.1 108 5 (by (try dsimp only); omega), wt_v_sf ε4]
  · rw [g7.1 108 6 (by (try dsimp only); omega), r6.1 108 6 (by (try dsimp only); omega), wt_v_sf ε5]
  · rw [g7.1 108 7 (by (try dsimp only); omega), wt_v_sf ε6]
