/-! a tongue that is read: its words and groups, on both sides -/
def wt_tt (t a b c L W : Nat) (s z : wt_St) : Prop := ∀ w, w < W → wt_ga s (t + 2) w = wt_ga z a w ∧ wt_ga s (t + 3) w = wt_ga z b w ∧ wt_ga s (t + 4) w = wt_ga z c w ∧ (1 ≤ (wt_ga s (t + 2) w).toInt ∧ (wt_ga s (t + 2) w).toInt ≤ 9) ∧ (0 ≤ (wt_ga s (t + 3) w).toInt ∧ (wt_ga s (t + 3) w).toInt ≤ 3) ∧ ∀ k : Nat, (k : Int) < (wt_ga s (t + 2) w).toInt → wt_ga s (t + 1) (9 * w + k) = wt_ga z (L + w) k ∧ 0 ≤ (wt_ga s (t + 1) (9 * w + k)).toInt ∧ (wt_ga s (t + 1) (9 * w + k)).toInt ≤ 25
def wt_gs (t W G : Nat) (s : wt_St) : Prop := (∀ g, g < G → ∃ f m : Nat, (wt_ga s (t + 5) g).toInt = (f : Int) ∧ (wt_ga s (t + 6) g).toInt = (m : Int) ∧ 1 ≤ m ∧ m ≤ 5 ∧ f + m ≤ W ∧ ∀ w, w < W → ((wt_ga s (t + 4) w).toInt = (g : Int) ↔ f ≤ w ∧ w < f + m)) ∧ ∀ w, w < W → 0 ≤ (wt_ga s (t + 4) w).toInt ∧ (wt_ga s (t + 4) w).toInt < (G : Int)
theorem wt_tt_eq {t a b c L W : Nat} {s s' z z' : wt_St} (h : wt_tt t a b c L W s z) (h1 : ∀ i, i = t + 2 ∨ i = t + 3 ∨ i = t + 4 → ∀ w, w < W → wt_ga s' i w = wt_ga s i w) (h1' : ∀ j, j < 9 * W → wt_ga s' (t + 1) j = wt_ga s (t + 1) j) (h2 : ∀ i, i = a ∨ i = b ∨ i = c → ∀ w, w < W → wt_ga z' i w = wt_ga z i w) (h3 : ∀ w, w < W → ∀ k, wt_ga z' (L + w) k = wt_ga z (L + w) k) : wt_tt t a b c L W s' z' := fun w hw => by
  rw [h1 (t + 2) (by omega) w hw, h1 (t + 3) (by omega) w hw, h1 (t + 4) (by omega) w hw, h2 a (by omega) w hw, h2 b (by omega) w hw, h2 c (by omega) w hw]
  obtain ⟨e1, e2, e3, e4, e5, e6⟩ := h w hw
  refine ⟨e1, e2, e3, e4, e5, fun k hk => ?_⟩
  rw [h1' (9 * w + k) (by omega), h3 w hw]
  exact e6 k hk
theorem wt_tt_fr {t a b c L W : Nat} {s s' z z' : wt_St} {F F' : Nat → Nat → Prop} {A A' : Nat → Prop} (h : wt_tt t a b c L W s z) (f : wt_fr F A s s') (g : wt_fr F' A' z z') (h1 : ∀ i, t < i → i < t + 5 → ¬ A i) (h2 : ∀ i, i = a ∨ i = b ∨ i = c ∨ (L ≤ i ∧ i < L + W) → ¬ A' i) : wt_tt t a b c L W s' z' := wt_tt_eq h (fun i hi w _ => f.2 i (h1 i (by omega) (by omega)) w) (fun j _ => f.2 (t + 1) (h1 _ (by omega) (by omega)) j) (fun i hi w _ => g.2 i (h2 i (by omega)) w) (fun w hw k => g.2 (L + w) (h2 _ (by omega)) k)
theorem wt_gs_eq {t W G : Nat} {s s' : wt_St} (h : wt_gs t W G s) (h4 : ∀ w, w < W → wt_ga s' (t + 4) w = wt_ga s (t + 4) w) (h5 : ∀ i, i = t + 5 ∨ i = t + 6 → ∀ g, g < G → wt_ga s' i g = wt_ga s i g) : wt_gs t W G s' := by
  refine ⟨fun g hg => ?_, fun w hw => by rw [h4 w hw]; exact h.2 w hw⟩
  obtain ⟨f, m, a1, a2, a3, a4, a5, a6⟩ := h.1 g hg
  refine ⟨f, m, by rw [h5 _ (Or.inl rfl) g hg]; exact a1, by rw [h5 _ (Or.inr rfl) g hg]; exact a2, a3, a4, a5, fun w hw => ?_⟩
  rw [h4 w hw]
  exact a6 w hw
theorem wt_gs_fr {t W G : Nat} {s s' : wt_St} {F : Nat → Nat → Prop} {A : Nat → Prop} (h : wt_gs t W G s) (f : wt_fr F A s s') (h1 : ∀ i, t + 3 < i → i < t + 7 → ¬ A i) : wt_gs t W G s' := wt_gs_eq h (fun w _ => f.2 _ (h1 _ (by omega) (by omega)) w) (fun i hi g _ => f.2 i (h1 i (by omega) (by omega)) g)
/-- F words stand in G whole groups, k more in the one that is read -/
def wt_gr (F k G : Nat) (s z : wt_St) : Prop := ((wt_gf s 27 6).toInt = ((F + k : Nat) : Int) ∧ (wt_gf z 108 27).toInt = ((F + k : Nat) : Int) ∧ F + k ≤ 60) ∧ ((wt_gf s 27 7).toInt = (G : Int) ∧ (wt_gf z 108 29).toInt = ((G + min k 1 : Nat) : Int) ∧ G + min k 1 ≤ 20) ∧ wt_tt 27 125 127 129 132 (F + k) s z ∧ wt_gs 27 F G s ∧ (∀ w, F ≤ w → w < F + k → (wt_ga s 31 w).toInt = (G : Int)) ∧ wt_gf s 1 7 = wt_gf z 108 6
theorem wt_gr_fr {F k G : Nat} {s s' z z' : wt_St} {Fc Fm : Nat → Nat → Prop} {Ac Am : Nat → Prop} (h : wt_gr F k G s z) (f : wt_fr Fc Ac s s') (g : wt_fr Fm Am z z') (c1 : ∀ i, 27 < i → i < 34 → ¬ Ac i) (c2 : ∀ k, ¬ Fc 27 k) (c3 : ¬ Fc 1 7) (m1 : ∀ i, i = 125 ∨ i = 127 ∨ i = 129 ∨ (132 ≤ i ∧ i < 192) → ¬ Am i) (m2 : ¬ Fm 108 27) (m3 : ¬ Fm 108 29) (m4 : ¬ Fm 108 6) : wt_gr F k G s' z' := by
  obtain ⟨a, b, c, d, e, p⟩ := h
  refine ⟨?_, ?_, wt_tt_fr c f g (fun i h1 h2 => c1 i (by omega) (by omega)) (fun i hi => m1 i (by omega)), wt_gs_fr d f (fun i h1 h2 => c1 i (by omega) (by omega)), fun w h1 h2 => ?_, ?_⟩
  · rw [f.1 27 6 (c2 6), g.1 108 27 m2]; exact a
  · rw [f.1 27 7 (c2 7), g.1 108 29 m3]; exact b
  · rw [f.2 31 (c1 31 (by omega) (by omega))]; exact e w h1 h2
  · rw [f.1 1 7 c3, g.1 108 6 m4]; exact p
/-- one more word is read, but for its mark -/
def wt_gw (F k G m : Nat) (s z : wt_St) : Prop := wt_gr F k G s z ∧ F + k < 60 ∧ (wt_ga z 125 (F + k)).toInt = (m : Int) ∧ 1 ≤ m ∧ m ≤ 9 ∧ ∀ i, i < m → wt_ga s 28 (9 * (F + k) + i) = wt_ga z (132 + (F + k)) i ∧ 0 ≤ (wt_ga s 28 (9 * (F + k) + i)).toInt ∧ (wt_ga s 28 (9 * (F + k) + i)).toInt ≤ 25
theorem wt_gw_fr {F k G m : Nat} {s s' z z' : wt_St} {Fc Fm : Nat → Nat → Prop} {Ac Am : Nat → Prop} (h : wt_gw F k G m s z) (f : wt_fr Fc Ac s s') (g : wt_fr Fm Am z z') (c1 : ∀ i, 27 < i → i < 34 → ¬ Ac i) (c2 : ∀ k, ¬ Fc 27 k) (c3 : ¬ Fc 1 7) (m1 : ∀ i, i = 125 ∨ i = 127 ∨ i = 129 ∨ (132 ≤ i ∧ i < 192) → ¬ Am i) (m2 : ¬ Fm 108 27) (m3 : ¬ Fm 108 29) (m4 : ¬ Fm 108 6) : wt_gw F k G m s' z' := by
  obtain ⟨a, b, c, d, e, p⟩ := h
  refine ⟨wt_gr_fr a f g c1 c2 c3 m1 m2 m3 m4, b, by rw [g.2 125 (m1 _ (by omega))]; exact c, d, e, fun i hi => ?_⟩
  rw [f.2 28 (c1 28 (by omega) (by omega)), g.2 (132 + (F + k)) (m1 _ (by omega))]
  exact p i hi
theorem wt_gr_lxc {F k G : Nat} : wt_lxc (wt_gr F k G) := fun s s' z z' h f g => wt_gr_fr h f g (fun i h1 h2 => by (try dsimp only); omega) (fun k => by (try dsimp only); omega) (by (try dsimp only); omega) (fun i _ h => h) (by (try dsimp only); omega) (by (try dsimp only); omega) (by (try dsimp only); omega)
theorem wt_gw_lxc {F k G m : Nat} : wt_lxc (wt_gw F k G m) := fun s s' z z' h f g => wt_gw_fr h f g (fun i h1 h2 => by (try dsimp only); omega) (fun k => by (try dsimp only); omega) (by (try dsimp only); omega) (fun i _ h => h) (by (try dsimp only); omega) (by (try dsimp only); omega) (by (try dsimp only); omega)
theorem wt_frt_fr {s s' : wt_St} {f p : Nat} {F : Nat → Nat → Prop} {A : Nat → Prop} (h : wt_frt s f p) (g : wt_fr F A s s') (h5 : ¬ F 108 5) (h6 : ¬ F 108 6) : wt_frt s' f p := ⟨by rw [g.1 108 5 h5]; exact h.1, by rw [g.1 108 6 h6]; exact h.2⟩
set_option maxHeartbeats 4000000 in
/-- the word is put down -/
theorem wr_wordEnd (n : Nat) (hn : 4294967297 < n) {β : Nat → Int32} {e p F k G m : Nat} {x xl v : Int32} {s z : wt_St} (hx : x.toInt = (k : Int)) (hk : k < 5) (hG : G < 20) (hl : xl.toInt = (m : Int)) (hv0 : 0 ≤ v.toInt) (hv3 : v.toInt ≤ 3) (tv : wt_tv β e p s) (rv : wt_rv β e p z) (h0 : wt_gf z 108 5 = 0) (gw : wt_gw F k G m s z) (hv : wt_ga z 127 (F + k) = v) : wt_HH (wp_tg_fillWord_B128 n 27 xl v s) (wp_md_reads_B213 n x z) (fun q y => (q.1 = 0 ∧ wt_ft q.2 y) ∨ (q.1 = 1 ∧ wt_ok (wt_gr F (k + 1) G) β e q.2 y ∧ k < 5 ∧ G < 20)) := by
  have k0 : (0 : Int32).toInt = 0 := by decide
  have k1 : (1 : Int32).toInt = 1 := by decide
  obtain ⟨⟨⟨a1, a2, a3⟩, ⟨b1, b2, b3⟩, c, d, ew, pl⟩, g1, g2, g3, g4, g5⟩ := gw
  have eW : Int32.toNatClampNeg (wt_gf s 27 6) = F + k := wt_tnN a1
  unfold wp_tg_fillWord_B128
  rw [if_neg (fun h => by have := wt_ceq h; rw [wt_lm1] at this; omega)]
  refine wt_HH_l (wh_put n (k := F + k) a1 (by rw [show wt_ln (27 + 2) = 60 from by decide]; exact g1)) (fun s1 ε1 => ?_)
  have f1 := wt_fr_sa ε1
  refine wt_HH_l (wh_put n (k := F + k) (by rw [f1.1 27 6 (fun h => h)]; exact a1) (by rw [show wt_ln (27 + 3) = 60 from by decide]; exact g1)) (fun s2 ε2 => ?_)
  have f2 := wt_fr_sa ε2
  refine wt_HH_l (wh_put n (k := F + k) (by rw [f2.1 27 6 (fun h => h), f1.1 27 6 (fun h => h)]; exact a1) (by rw [show wt_ln (27 + 4) = 60 from by decide]; exact g1)) (fun s3 ε3 => ?_)
  have f3 := wt_fr_sa ε3
  have e27 : wt_gf s2 27 7 = wt_gf s 27 7 := (f2.1 27 7 (fun h => h)).trans (f1.1 27 7 (fun h => h))
  have e36 : wt_gf s3 27 6 = wt_gf s 27 6 := (f3.1 27 6 (fun h => h)).trans ((f2.1 27 6 (fun h => h)).trans (f1.1 27 6 (fun h => h)))
  rw [e36]
  obtain ⟨s4, ε4⟩ : ∃ o : wt_St, o = wt_sf s3 27 6 ((wt_gf s 27 6) + (1 : Int32)) := ⟨_, rfl⟩
  rw [← ε4]
  have f4 := wt_fr_sf ε4
  have es1 := wt_i1 (c := wt_gf s 27 6) (by omega)
  have T : wt_fr (fun i k => i = 27 ∧ k = 6) (fun i => 28 < i ∧ i < 32) s s4 := (((wt_fr.rf.sa ε1 (by first | decide | ((try dsimp only); omega))).sa ε2 (by first | decide | ((try dsimp only); omega))).sa ε3 (by first | decide | ((try dsimp only); omega))).sf ε4 ⟨rfl, rfl⟩
  have v29 : wt_ga s4 29 (F + k) = xl := by rw [f4.2 29 (fun h => h), f3.2 29 (by decide), f2.2 29 (by decide)]; exact wt_v_sa ε1
  have v30 : wt_ga s4 30 (F + k) = v := by rw [f4.2 30 (fun h => h), f3.2 30 (by decide)]; exact wt_v_sa ε2
  have v31 : wt_ga s4 31 (F + k) = wt_gf s 27 7 := by rw [f4.2 31 (fun h => h), ← e27]; exact wt_v_sa ε3
  have o29 : ∀ w, w ≠ F + k → wt_ga s4 29 w = wt_ga s 29 w := fun w hw => by rw [f4.2 29 (fun h => h), f3.2 29 (by decide), f2.2 29 (by decide)]; exact wt_w_sa ε1 w hw
  have o30 : ∀ w, w ≠ F + k → wt_ga s4 30 w = wt_ga s 30 w := fun w hw => by rw [f4.2 30 (fun h => h), f3.2 30 (by decide), ← f1.2 30 (by decide)]; exact wt_w_sa ε2 w hw
  have o31 : ∀ w, w ≠ F + k → wt_ga s4 31 w = wt_ga s 31 w := fun w hw => by rw [f4.2 31 (fun h => h), ← f1.2 31 (by decide), ← f2.2 31 (by decide)]; exact wt_w_sa ε3 w hw
  -- the reference
  have B : ∀ zb : wt_St, wt_fr (fun i k => i = 108 ∧ k = 29) (fun _ => False) z zb → (wt_gf zb 108 29).toInt = ((G + 1 : Nat) : Int) → wt_HH (some ((1 : Int32), s4)) (wp_md_reads_B227 n zb) (fun q y => (q.1 = 0 ∧ wt_ft q.2 y) ∨ (q.1 = 1 ∧ wt_ok (wt_gr F (k + 1) G) β e q.2 y ∧ k < 5 ∧ G < 20)) := by
    intro zb fb hb
    unfold wp_md_reads_B227
    have w27 : wt_gf zb 108 27 = wt_gf z 108 27 := fb.1 108 27 (by (try dsimp only); omega)
    refine wt_HH_gr (fun _ => ?_)
    have et : Int32.toNatClampNeg (wt_gf zb 108 27) = F + k := wt_tnN (by rw [w27]; exact a2)
    rw [et]
    obtain ⟨y1, δ1⟩ : ∃ o : wt_St, o = wt_sa zb 129 (F + k) ((wt_gf zb 108 29) - (1 : Int32)) := ⟨_, rfl⟩
    rw [← δ1]
    have p1 := wt_fr_sa δ1
    have w271 : wt_gf y1 108 27 = wt_gf z 108 27 := (p1.1 108 27 (fun h => h)).trans w27
    rw [w271]
    obtain ⟨y2, δ2⟩ : ∃ o : wt_St, o = wt_sf y1 108 27 ((wt_gf z 108 27) + (1 : Int32)) := ⟨_, rfl⟩
    rw [← δ2]
    have p2 := wt_fr_sf δ2
    have U : wt_fr (fun i k => i = 108 ∧ (k = 29 ∨ k = 27)) (fun i => i = 129) z y2 := ((wt_frw fb (fun i k h => by (try dsimp only at h); omega) (fun i h => h.elim)).sa δ1 (by decide)).sf δ2 (by first | decide | ((try dsimp only); omega))
    have eg := wt_subE (x := wt_gf zb 108 29) (y := (1 : Int32)) (by omega) (by omega)
    have ez1 := wt_i1 (c := wt_gf z 108 27) (by omega)
    have v129 : (wt_ga y2 129 (F + k)) = (wt_gf zb 108 29) - (1 : Int32) := by rw [p2.2 129 (fun h => h)]; exact wt_v_sa δ1
    have o129 : ∀ w, w ≠ F + k → wt_ga y2 129 w = wt_ga z 129 w := fun w hw => by rw [p2.2 129 (fun h => h), ← fb.2 129 (fun h => h)]; exact wt_w_sa δ1 w hw
    refine wt_HH_some (Or.inr ⟨rfl, ⟨p, wt_tv_fr tv T (by decide) (by decide) (by decide), wt_rv_fr rv U (by decide) (by decide) (by decide), (U.1 108 5 (by decide)).trans h0, ⟨⟨?_, ?_, by omega⟩, ⟨?_, ?_, by omega⟩, ?_, ?_, ?_, ?_⟩⟩, hk, hG⟩)
    · rw [wt_v_sf ε4]; omega
    · rw [wt_v_sf δ2]; omega
    · rw [T.1 27 7 (by decide)]; exact b1
    · rw [p2.1 108 29 (by decide), p1.1 108 29 (fun h => h)]; omega
    · intro w hw
      show wt_ga s4 29 w = wt_ga y2 125 w ∧ wt_ga s4 30 w = wt_ga y2 127 w ∧ wt_ga s4 31 w = wt_ga y2 129 w ∧ (1 ≤ (wt_ga s4 29 w).toInt ∧ (wt_ga s4 29 w).toInt ≤ 9) ∧ (0 ≤ (wt_ga s4 30 w).toInt ∧ (wt_ga s4 30 w).toInt ≤ 3) ∧ ∀ i : Nat, (i : Int) < (wt_ga s4 29 w).toInt → wt_ga s4 28 (9 * w + i) = wt_ga y2 (132 + w) i ∧ 0 ≤ (wt_ga s4 28 (9 * w + i)).toInt ∧ (wt_ga s4 28 (9 * w + i)).toInt ≤ 25
      by_cases hc : w = F + k
      · rw [hc, v29, v30, v31, v129, U.2 125 (by decide), U.2 127 (by decide), hv]
        refine ⟨wt_eqI (by omega), rfl, wt_eqI (by omega), by omega, by omega, fun i hi => ?_⟩
        rw [T.2 28 (by decide), U.2 (132 + (F + k)) (by (try dsimp only); omega)]
        exact g5 i (by omega)
      · rw [o29 w hc, o30 w hc, o31 w hc, o129 w hc, U.2 125 (by decide), U.2 127 (by decide)]
        obtain ⟨r1, r2, r3, r4, r5, r6⟩ := c w (by omega)
        refine ⟨r1, r2, r3, r4, r5, fun i hi => ?_⟩
        rw [T.2 28 (by decide), U.2 (132 + w) (by (try dsimp only); omega)]
        exact r6 i hi
    · exact wt_gs_eq d (fun w hw => o31 w (by omega)) (fun i hi g _ => T.2 i (by (try dsimp only); omega) g)
    · intro w h1 h2
      by_cases hc : w = F + k
      · rw [hc, v31]; exact b1
      · rw [o31 w hc]; exact ew w h1 (by omega)
    · rw [T.1 1 7 (by decide), U.1 108 6 (by decide)]; exact pl
  unfold wp_md_reads_B213
  refine wt_HH_ir (fun h => ?_) (fun h => ?_)
  · have h' := wt_ceq h
    have e1 := wt_i1 (c := wt_gf z 108 29) (by omega)
    refine B _ (wt_frw (wt_fr_sf rfl) (fun i k h => h) (fun i h => h)) ?_
    rw [wt_v_sf rfl]
    omega
  · have h' := wt_nceq h
    exact B z wt_fr.rf (by omega)
