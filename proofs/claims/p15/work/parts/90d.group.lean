/-! a group, and all groups, on both sides -/
noncomputable def wt_gL (n : Nat) (K : Int32 × wt_St → Option (Int32 × wt_St)) (s : Int32 × wt_St) : Option (Int32 × wt_St) :=
  if (wt_gf s.2 108 5) = 0 then
    (wp_md_byteAt n (wt_gf s.2 108 4) s.2).bind fun q30 =>
    if q30.1 = (44 : Int32) then
      (wp_md_reads n s.1 (wt_sf q30.2 108 4 ((wt_gf q30.2 108 4) + (1 : Int32)))).bind fun q32 =>
      (wp_md_blanks n q32).bind fun q33 =>
      K ((s.1 + (1 : Int32)), q33)
    else some (s.1, q30.2)
  else some s
theorem wt_gL_fac (n m : Nat) (K47 : wt_St → Option (Int32 × wt_St)) (s : Int32 × wt_St) : wt_it (wp_md_tongue_B76 n K47) m s = (wt_it (wt_gL n) m s).bind (fun a => wp_md_tongue_B121 n K47 a.2) := by
  refine wt_it_fac (fun K s => ?_) m s
  unfold wp_md_tongue_B76 wt_gL
  by_cases h1 : (wt_gf s.2 108 5) = 0
  · rw [if_pos h1, if_pos h1]
    cases wp_md_byteAt n (wt_gf s.2 108 4) s.2 with
    | none => rfl
    | some a =>
      show (if a.1 = (44 : Int32) then _ else _) = (if a.1 = (44 : Int32) then _ else _ : Option (Int32 × wt_St)).bind _
      by_cases h2 : a.1 = (44 : Int32)
      · rw [if_pos h2, if_pos h2]
        cases wp_md_reads n s.1 (wt_sf a.2 108 4 ((wt_gf a.2 108 4) + (1 : Int32))) with
        | none => rfl
        | some b =>
          show ((wp_md_blanks n b).bind fun q33 => (K ((s.1 + (1 : Int32)), q33)).bind _) = ((wp_md_blanks n b).bind fun q33 => K ((s.1 + (1 : Int32)), q33)).bind _
          cases wp_md_blanks n b with
          | none => rfl
          | some c => rfl
      · rw [if_neg h2, if_neg h2]
        rfl
  · rw [if_neg h1, if_neg h1]
    rfl
noncomputable def wt_gB (n m : Nat) (x : Int32) (z : wt_St) : Option wt_St :=
  (wp_md_reads n x z).bind fun q25 => (wp_md_blanks n q25).bind fun q26 => (wt_it (wt_gL n) m ((x + (1 : Int32)), q26)).bind fun a => wp_md_closes n (59 : Int32) a.2
noncomputable def wt_tL (n : Nat) (K : wt_St → Option wt_St) (s : wt_St) : Option wt_St :=
  if (wt_gf s 108 5) = 0 then
    if (wt_gf s 108 2) ≤ (wt_gf s 108 4) then some s
    else (wt_gB n n (0 : Int32) s).bind fun q28 => (wp_md_blanks n q28).bind fun q29 => K q29
  else some s
theorem wt_tL_fac (n m : Nat) (s : wt_St) : wt_it (wp_md_tongue_B47 n) m s = (wt_it (wt_tL n) m s).bind (wp_md_tongue_B134 n) := by
  refine wt_it_fac (fun K s => ?_) m s
  unfold wp_md_tongue_B47 wt_tL
  by_cases h1 : (wt_gf s 108 5) = 0
  · rw [if_pos h1, if_pos h1]
    by_cases h2 : (wt_gf s 108 2) ≤ (wt_gf s 108 4)
    · rw [if_pos h2, if_pos h2]
      rfl
    · rw [if_neg h2, if_neg h2]
      unfold wt_gB
      cases wp_md_reads n (0 : Int32) s with
      | none => rfl
      | some a =>
        show ((wp_md_blanks n a).bind fun q26 => wt_it (wp_md_tongue_B76 n (fun a => (K a).bind (wp_md_tongue_B134 n))) n ((1 : Int32), q26)) = ((((wp_md_blanks n a).bind fun q26 => (wt_it (wt_gL n) n (((0 : Int32) + (1 : Int32)), q26)).bind fun c => wp_md_closes n (59 : Int32) c.2).bind fun q28 => (wp_md_blanks n q28).bind fun q29 => K q29).bind (wp_md_tongue_B134 n))
        cases wp_md_blanks n a with
        | none => rfl
        | some b =>
          show wt_it (wp_md_tongue_B76 n (fun a => (K a).bind (wp_md_tongue_B134 n))) n ((1 : Int32), b) = ((((wt_it (wt_gL n) n (((0 : Int32) + (1 : Int32)), b)).bind fun c => wp_md_closes n (59 : Int32) c.2).bind fun q28 => (wp_md_blanks n q28).bind fun q29 => K q29).bind (wp_md_tongue_B134 n))
          rw [wt_gL_fac, show ((0 : Int32) + (1 : Int32)) = (1 : Int32) from by decide]
          cases wt_it (wt_gL n) n ((1 : Int32), b) with
          | none => rfl
          | some c =>
            show wp_md_tongue_B121 n (fun a => (K a).bind (wp_md_tongue_B134 n)) c.2 = (((wp_md_closes n (59 : Int32) c.2).bind fun q28 => (wp_md_blanks n q28).bind fun q29 => K q29).bind (wp_md_tongue_B134 n))
            unfold wp_md_tongue_B121
            cases wp_md_closes n (59 : Int32) c.2 with
            | none => rfl
            | some d =>
              show ((wp_md_blanks n d).bind fun q29 => (K q29).bind (wp_md_tongue_B134 n)) = (((wp_md_blanks n d).bind fun q29 => K q29).bind (wp_md_tongue_B134 n))
              cases wp_md_blanks n d with
              | none => rfl
              | some f => rfl
  · rw [if_neg h1, if_neg h1]
    rfl
theorem wt_gL_f (n m : Nat) (s : Int32 × wt_St) (h : ¬ wt_gf s.2 108 5 = 0) : wt_H (wt_it (wt_gL n) m s) (fun y => y = s) := by
  cases m with
  | zero => exact wt_H_none
  | succ m =>
    show wt_H (wt_gL n (wt_it (wt_gL n) m) s) _
    unfold wt_gL
    rw [if_neg h]
    exact wt_H_some rfl
theorem wt_tL_f (n m : Nat) (s : wt_St) (h : ¬ wt_gf s 108 5 = 0) : wt_H (wt_it (wt_tL n) m s) (fun y => y = s) := by
  cases m with
  | zero => exact wt_H_none
  | succ m =>
    show wt_H (wt_tL n (wt_it (wt_tL n) m) s) _
    unfold wt_tL
    rw [if_neg h]
    exact wt_H_some rfl
theorem wh_blanksF (n : Nat) {b : wt_St} : wt_H (wp_md_blanks n b) (fun w => wt_fr (fun i k => i = 108 ∧ k = 4) (fun _ => False) b w) := by
  unfold wp_md_blanks
  refine wt_H_it (fun w : wt_St => wt_fr (fun i k => i = 108 ∧ k = 4) (fun _ => False) b w) (fun K2 w hw hK2 => ?_) n b wt_fr.rf
  unfold wp_md_blanks_B0
  have BA : wt_H (wp_md_byteAt n (wt_gf w 108 4) w) (fun q => q.2 = w) := by
    unfold wp_md_byteAt
    exact wt_H_if (fun _ => wt_H_gd (fun _ => wt_H_some rfl)) (fun _ => wt_H_some rfl)
  refine wt_H_bh BA (fun q hq => ?_)
  rw [hq]
  exact wt_H_if (fun _ => hK2 _ (wt_fr.tr hw (wt_fr_sf rfl) (fun i k h => h) (fun i h => h))) (fun _ => wt_H_some hw)
/-- the left program's end is only laid anew -/
theorem wt_HH_lt {β : Type} {x : Option (Int32 × wt_St)} {y : Option β} {P Q : Int32 × wt_St → β → Prop} (h : wt_HH x y P) (k : ∀ a b, P a b → Q a b) : wt_HH (x.bind fun q8 => some (q8.1, q8.2)) y Q := by
  cases x with
  | none => exact wt_HH_nl
  | some a =>
    intro u v e e'
    cases e
    exact k _ _ (h a v rfl e')
set_option maxRecDepth 100000 in
set_option maxHeartbeats 8000000 in
theorem wr_groupLoop (n : Nat) (hn : 4294967297 < n) {β : Nat → Int32} {e F G : Nat} {x2 : Int32} (h2 : x2.toInt = (F : Int)) : ∀ (m m' k p : Nat) (x : Int32) (s z : wt_St), x.toInt = (k : Int) → k ≤ 5 → (1 ≤ k → G < 20) → wt_tv β e p s → wt_rv β e p z → wt_gf z 108 5 = 0 → wt_gr F k G s z → wt_HH (wt_it (wp_tg_fillGroup_B7 n 27 x2) m (x, s)) (wt_gB n m' x z) (fun q y => (q.1 = 0 ∧ wt_ft q.2 y) ∨ (q.1 = 1 ∧ (∃ W, wt_ok (wt_gr W 0 (G + 1)) β e q.2 y) ∧ G < 20)) := by
  have k0 : (0 : Int32).toInt = 0 := by decide
  have k1 : (1 : Int32).toInt = 1 := by decide
  have k5 : (5 : Int32).toInt = 5 := by decide
  intro m
  induction m with
  | zero => intro m' k p x s z _ _ _ _ _ _ _; exact wt_HH_nl
  | succ m ih =>
    intro m' k p x s z hx hk hg tv rv h0 gr
    show wt_HH (wp_tg_fillGroup_B7 n 27 x2 (wt_it (wp_tg_fillGroup_B7 n 27 x2) m) (x, s)) _ _
    unfold wp_tg_fillGroup_B7 wt_gB
    dsimp only
    rw [if_neg (fun h => by have := wt_clt h; omega)]
    refine wt_HH_b (wr_fillWord n hn hx hk hg tv rv h0 gr) (fun a b hab => ?_)
    rcases hab with ⟨a1, f, pp, hf, fl, fm⟩ | ⟨a1, ⟨p2, tv2, rv2, h02, gr2⟩, lk5, G20⟩
    · rw [if_pos a1]
      refine wt_HH_r (wh_blanksF n) (fun w hw => ?_)
      have fw := wt_frt_fr fm hw (by (try dsimp only); omega) (by (try dsimp only); omega)
      refine wt_HH_r (wt_gL_f n m' _ (wt_frt_nz fw hf)) (fun y hy => ?_)
      subst hy
      exact wt_HH_of (P := fun q => q = ((0 : Int32), a.2)) (wt_H_some rfl) (wh_closesN n (wt_frt_nz fw hf)) (fun q y hq hy => Or.inl ⟨by rw [hq], f, pp, hf, by rw [hq]; exact fl, by rw [hy]; exact fw⟩)
    · rw [if_neg (by rw [a1]; decide)]
      refine wt_HH_r (wh_blanks n rv2) (fun w hw => ?_)
      obtain ⟨j, r, rvw, frw⟩ := hw
      refine wt_HH_l (wh_takeSign n hn (44 : Int32) tv2) (fun q4 h4 => ?_)
      obtain ⟨j', r', st4, fr4, hc⟩ := h4
      have ej : j' = j := wt_run_u r' r
      rw [ej] at hc
      have h0w : wt_gf w 108 5 = 0 := (frw.1 108 5 (by (try dsimp only); omega)).trans h02
      have grw : wt_gr F (k + 1) G q4.2 w := wt_gr_lxc _ _ _ _ gr2 (wt_frw fr4 (fun i k h => h) (fun i h => h.elim)) frw
      have e1 := wt_i1 (c := x) (by omega)
      cases m' with
      | zero => exact wt_HH_nr
      | succ m' =>
        show wt_HH _ ((wt_gL n (wt_it (wt_gL n) m') ((x + (1 : Int32)), w)).bind fun a => wp_md_closes n (59 : Int32) a.2) _
        unfold wt_gL
        dsimp only
        rw [if_pos h0w, Option.bind_assoc]
        refine wt_HH_r (wh_byteAt n rvw (j := j) rvw.2.2.1) (fun y30 h30 => ?_)
        rcases hc with ⟨z1, lt, eq, tv4⟩ | ⟨z1, ne, tv4⟩
        · rw [if_neg (by rw [z1]; decide)]
          rcases h30 with ⟨ge, -⟩ | ⟨-, hq⟩
          · omega
          · subst hq
            dsimp only
            rw [if_pos eq]
            have e4 := wt_i1 (c := wt_gf w 108 4) (by rw [rvw.2.2.1]; have := rvw.2.2.2; omega)
            obtain ⟨z5, ε⟩ : ∃ o : wt_St, o = wt_sf w 108 4 ((wt_gf w 108 4) + (1 : Int32)) := ⟨_, rfl⟩
            rw [← ε]
            have p5 := wt_fr_sf ε
            have R := ih m' (k + 1) (j + 1) (x + (1 : Int32)) q4.2 z5 (by omega) (by omega) (fun _ => G20) tv4 (wt_rv_adv rvw ε (by rw [e4, rvw.2.2.1]; omega) (by omega)) ((p5.1 108 5 (by (try dsimp only); omega)).trans h0w) (wt_gr_lxc _ _ _ _ grw wt_fr.rf p5)
            unfold wt_gB at R
            simp only [Option.bind_assoc]
            exact R
        · rw [if_pos z1]
          have NS : y30.2 = w ∧ ¬ y30.1 = (44 : Int32) := by
            rcases h30 with ⟨ge, hq⟩ | ⟨hlt, hq⟩
            · rw [hq]; exact ⟨rfl, fun h => absurd (show (-1 : Int32) = _ from h) (by decide)⟩
            · rw [hq]; exact ⟨rfl, fun h => ne ⟨hlt, h⟩⟩
          rw [if_neg NS.2, NS.1]
          show wt_HH _ (wp_md_closes n (59 : Int32) w) _
          obtain ⟨⟨A1, A2, A3⟩, ⟨B1, B2, B3⟩, C, D, EW, PL⟩ := grw
          refine wt_HH_l (wh_put n (k := G) B1 (by rw [show wt_ln (27 + 5) = 20 from by decide]; exact G20)) (fun s6 ε6 => ?_)
          have f6 := wt_fr_sa ε6
          have e66 : wt_gf s6 27 6 = wt_gf q4.2 27 6 := f6.1 27 6 (fun h => h)
          have e67 : wt_gf s6 27 7 = wt_gf q4.2 27 7 := f6.1 27 7 (fun h => h)
          rw [e66, e67]
          refine wt_HH_l (wh_put n (k := G) B1 (by rw [show wt_ln (27 + 6) = 20 from by decide]; exact G20)) (fun s7 ε7 => ?_)
          have f7 := wt_fr_sa ε7
          have e77 : wt_gf s7 27 7 = wt_gf q4.2 27 7 := (f7.1 27 7 (fun h => h)).trans e67
          rw [e77]
          obtain ⟨s8, ε8⟩ : ∃ o : wt_St, o = wt_sf s7 27 7 ((wt_gf q4.2 27 7) + (1 : Int32)) := ⟨_, rfl⟩
          rw [← ε8]
          have f8 := wt_fr_sf ε8
          have T : wt_fr (fun i k => i = 27 ∧ k = 7) (fun i => i = 32 ∨ i = 33) q4.2 s8 := ((wt_fr.rf.sa ε6 (by first | decide | ((try dsimp only); omega))).sa ε7 (by first | decide | ((try dsimp only); omega))).sf ε8 ⟨rfl, rfl⟩
          have es := wt_subE (x := wt_gf q4.2 27 6) (y := x2) (by omega) (by omega)
          have eg := wt_i1 (c := wt_gf q4.2 27 7) (by omega)
          have v32 : wt_ga s8 32 G = x2 := by rw [f8.2 32 (fun h => h), f7.2 32 (by decide)]; exact wt_v_sa ε6
          have v33 : wt_ga s8 33 G = (wt_gf q4.2 27 6) - x2 := by rw [f8.2 33 (fun h => h)]; exact wt_v_sa ε7
          have o32 : ∀ g, g ≠ G → wt_ga s8 32 g = wt_ga q4.2 32 g := fun g hg' => by rw [f8.2 32 (fun h => h), f7.2 32 (by decide)]; exact wt_w_sa ε6 g hg'
          have o33 : ∀ g, g ≠ G → wt_ga s8 33 g = wt_ga q4.2 33 g := fun g hg' => by rw [f8.2 33 (fun h => h), ← f6.2 33 (by decide)]; exact wt_w_sa ε7 g hg'
          have GR : wt_gr (F + (k + 1)) 0 (G + 1) s8 w := by
            refine ⟨⟨?_, A2, A3⟩, ⟨?_, ?_, by omega⟩, wt_tt_fr C T wt_fr.rf (fun i h1 h2 => by (try dsimp only); omega) (F' := fun _ _ => False) (A' := fun _ => False) (fun i _ h => h), ⟨fun g hg' => ?_, fun v hv => ?_⟩, fun v h1 h2 => absurd h2 (by omega), ?_⟩
            · rw [T.1 27 6 (by decide)]; exact A1
            · rw [wt_v_sf ε8]; omega
            · omega
            · show ∃ f m : Nat, (wt_ga s8 32 g).toInt = (f : Int) ∧ (wt_ga s8 33 g).toInt = (m : Int) ∧ 1 ≤ m ∧ m ≤ 5 ∧ f + m ≤ F + (k + 1) ∧ ∀ v, v < F + (k + 1) → ((wt_ga s8 31 v).toInt = (g : Int) ↔ f ≤ v ∧ v < f + m)
              by_cases hc' : g = G
              · rw [hc', v32, v33]
                refine ⟨F, k + 1, h2, by omega, by omega, by omega, by omega, fun v hv => ?_⟩
                rw [T.2 31 (by decide)]
                constructor
                · intro hq
                  by_cases hF : v < F
                  · have h9 : 0 ≤ (wt_ga q4.2 31 v).toInt ∧ (wt_ga q4.2 31 v).toInt < (G : Int) := D.2 v hF
                    omega
                  · omega
                · intro hq
                  exact EW v hq.1 (by omega)
              · rw [o32 g hc', o33 g hc']
                obtain ⟨f, mm, d1, d2, d3, d4, d5, d6⟩ := D.1 g (by omega)
                refine ⟨f, mm, d1, d2, d3, d4, by omega, fun v hv => ?_⟩
                rw [T.2 31 (by decide)]
                by_cases hF : v < F
                · exact d6 v hF
                · have h9 := EW v (by omega) hv
                  constructor
                  · intro hq; omega
                  · intro hq; omega
            · show 0 ≤ (wt_ga s8 31 v).toInt ∧ (wt_ga s8 31 v).toInt < ((G + 1 : Nat) : Int)
              rw [T.2 31 (by decide)]
              by_cases hF : v < F
              · have h9 : 0 ≤ (wt_ga q4.2 31 v).toInt ∧ (wt_ga q4.2 31 v).toInt < (G : Int) := D.2 v hF
                omega
              · have h9 := EW v (by omega) (by omega)
                omega
            · rw [T.1 1 7 (by decide)]; exact PL
          refine wt_HH_lt (wr_need n hn (R := wt_gr (F + (k + 1)) 0 (G + 1)) wt_gr_lxc (x := (59 : Int32)) (by decide) ⟨j, wt_tv_fr tv4 T (by decide) (by decide) (by decide), rvw, h0w, GR⟩) ?_
          intro q y hq
          exact hq.elim (fun h => Or.inl h) (fun h => Or.inr ⟨h.1, ⟨_, h.2⟩, G20⟩)
