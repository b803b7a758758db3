/-! cast and exchange on both sides -/
theorem wu_go_KV {z y : wt_St} {l : Nat} {c : Int} (h : wu_KV z y) (hl : l < 26) : wt_go y c l = wt_go z c l := by
  unfold wt_go
  rw [h.1]
  refine wt_sum_congr _ (fun k hk => ?_)
  have hk' : (k : Int) < (wt_ga z 111 l).toInt := by
    rcases wt_tn (wt_ga z 111 l) with q | q
    · exfalso
      have := wt_tnle (b := 0) (x := wt_ga z 111 l) (by omega)
      omega
    · omega
  obtain ⟨a, b⟩ := h.2 l k hl hk'
  show wt_gf1 y c (13 * l + k) = wt_gf1 z c (13 * l + k)
  unfold wt_gf1
  rw [a, b]
def wu_plus (l b : Nat) (c P : Int) : Int := if l = b ∧ c ≤ P then 1 else 0
set_option maxHeartbeats 2000000 in
theorem wh_withOneV (n : Nat) (hn : 4294967297 < n) {x1 x2 : Int32} {l : Nat} {z : wt_St} (r : wt_RI z) (m : wt_M12 z) (hx : x1.toInt = (l : Int)) (hl : l < 26) (p2 : 0 ≤ x2.toInt) (p3 : x2.toInt ≤ 400) : wt_H (wp_md_withOne n x1 x2 z) (fun q => (0 ≤ q.1.toInt ∧ q.1.toInt ≤ 400) ∧ (q.1.toInt = 0 ∨ ∀ l' : Nat, l' < 26 → (wt_ga z 287 l').toInt ≤ wt_go z q.1.toInt l' + wu_plus l' l q.1.toInt x2.toInt) ∧ (q.1.toInt = 400 ∨ ¬ ∀ l' : Nat, l' < 26 → (wt_ga z 287 l').toInt ≤ wt_go z (q.1.toInt + 1) l' + wu_plus l' l (q.1.toInt + 1) x2.toInt)) := by
  have ex := wt_tnN hx
  have g : 0 ≤ (wt_ga z 111 l).toInt ∧ (wt_ga z 111 l).toInt ≤ 13 := wt_Ra1 r 111 (show 111 ≤ 111 by omega) (show 111 < 112 by omega) l
  have ml := m l
  have et := wt_tnI g.1
  unfold wp_md_withOne
  rw [ex]
  refine wt_H_gd (fun _ => ?_)
  refine wt_H_bh (wh_cell n (l := l) (i := Int32.toNatClampNeg (wt_ga z 111 l)) hx et.symm hl (by omega)) (fun q2 h2 => ?_)
  obtain ⟨e2, c2⟩ := h2
  rw [e2, wt_tnN c2]
  refine wt_H_gd (fun _ => wt_H_gd (fun _ => wt_H_gd (fun _ => wt_H_gd (fun _ => ?_))))
  obtain ⟨s1, ε1⟩ : ∃ o : wt_St, o = wt_sa z 121 (13 * l + Int32.toNatClampNeg (wt_ga z 111 l)) x2 := ⟨_, rfl⟩
  rw [← ε1]
  have r1 := wt_Rn3 r ε1 (by decide) (by decide) p2 p3
  obtain ⟨s2, ε2⟩ : ∃ o : wt_St, o = wt_sa s1 124 (13 * l + Int32.toNatClampNeg (wt_ga z 111 l)) (-1 : Int32) := ⟨_, rfl⟩
  rw [← ε2]
  have r2 := wt_RI_no r1 ε2 124 125 (by decide +kernel) (by decide) (by decide)
  have f1 := wt_fr_sa ε1
  have f2 := wt_fr_sa ε2
  have e111 : ∀ j, wt_ga s2 111 j = wt_ga z 111 j := fun j => (f2.2 111 (by decide) j).trans (f1.2 111 (by decide) j)
  rw [e111]
  have ei := wt_i1 (c := wt_ga z 111 l) (by omega)
  obtain ⟨s3, ε3⟩ : ∃ o : wt_St, o = wt_sa s2 111 l ((wt_ga z 111 l) + (1 : Int32)) := ⟨_, rfl⟩
  rw [← ε3]
  have f3 := wt_fr_sa ε3
  have r3 := wt_Rn1 r2 ε3 (by decide) (by decide) (show 0 ≤ ((wt_ga z 111 l) + (1 : Int32)).toInt by omega) (show ((wt_ga z 111 l) + (1 : Int32)).toInt ≤ 13 by omega)
  have c121 : ∀ c, c ≠ 13 * l + Int32.toNatClampNeg (wt_ga z 111 l) → wt_ga s3 121 c = wt_ga z 121 c := fun c hc => by rw [f3.2 121 (by decide), f2.2 121 (by decide), wt_w_sa ε1 c hc]
  have c124 : ∀ c, c ≠ 13 * l + Int32.toNatClampNeg (wt_ga z 111 l) → wt_ga s3 124 c = wt_ga z 124 c := fun c hc => by rw [f3.2 124 (by decide), wt_w_sa ε2 c hc, f1.2 124 (by decide)]
  have v121 : wt_ga s3 121 (13 * l + Int32.toNatClampNeg (wt_ga z 111 l)) = x2 := by rw [f3.2 121 (by decide), f2.2 121 (by decide), wt_v_sa ε1]
  have v124 : wt_ga s3 124 (13 * l + Int32.toNatClampNeg (wt_ga z 111 l)) = (-1 : Int32) := by rw [f3.2 124 (by decide), wt_v_sa ε2]
  have e287 : ∀ j, wt_ga s3 287 j = wt_ga z 287 j := fun j => by rw [f3.2 287 (by decide), f2.2 287 (by decide), f1.2 287 (by decide)]
  have GO : ∀ (c : Int) (l' : Nat), wt_go s3 c l' = wt_go z c l' + wu_plus l' l c x2.toInt := fun c l' => by
    unfold wt_go wu_plus
    by_cases h : l' = l
    · rw [h, wt_v_sa ε3, show Int32.toNatClampNeg ((wt_ga z 111 l) + (1 : Int32)) = Int32.toNatClampNeg (wt_ga z 111 l) + 1 by have := wt_tnI (x := (wt_ga z 111 l) + (1 : Int32)) (by omega); omega]
      show wt_sum (fun j => wt_gf1 s3 c (13 * l + j)) (Int32.toNatClampNeg (wt_ga z 111 l)) + wt_gf1 s3 c (13 * l + Int32.toNatClampNeg (wt_ga z 111 l)) = _
      rw [wt_sum_congr (f := fun j => wt_gf1 s3 c (13 * l + j)) (g := fun j => wt_gf1 z c (13 * l + j)) _ (fun k hk => by
        show wt_gf1 s3 c (13 * l + k) = wt_gf1 z c (13 * l + k)
        unfold wt_gf1
        rw [c121 _ (by omega), c124 _ (by omega)])]
      unfold wt_gf1
      rw [v121, v124, wt_lm1]
      by_cases d : c ≤ x2.toInt
      · rw [if_pos (show (-1 : Int) = -1 ∧ c ≤ x2.toInt from ⟨rfl, d⟩), if_pos (show l = l ∧ c ≤ x2.toInt from ⟨rfl, d⟩)]
      · rw [if_neg (fun h : (-1 : Int) = -1 ∧ c ≤ x2.toInt => d h.2), if_neg (fun h : l = l ∧ c ≤ x2.toInt => d h.2)]
    · rw [wt_w_sa ε3 l' h, e111, if_neg (fun q => h q.1), Int.add_zero]
      refine wt_sum_congr _ (fun k hk => ?_)
      have hm := wt_tnle (b := 12) (m l')
      show wt_gf1 s3 c (13 * l' + k) = wt_gf1 z c (13 * l' + k)
      unfold wt_gf1
      rw [c121 _ (by omega), c124 _ (by omega)]
  refine wt_H_bh (wh_oftenM n hn r3) (fun q7 h7 => ?_)
  obtain ⟨-, a1, a2, a3⟩ := h7
  refine wt_H_gd (fun _ => wt_H_gd (fun _ => ?_))
  refine wt_H_some ⟨a1, a2.imp (fun h => h) (fun h l' hl' => ?_), a3.imp (fun h => h) (fun h h' => h (fun l' hl' => ?_))⟩
  · rw [← GO, ← e287]
    exact h l' hl'
  · rw [GO, e287]
    exact h' l' hl'
/-- the class's rows, of every letter -/
def wu_TA (s1 z1 : wt_St) (P : Nat → Int) : Prop := ∀ l : Nat, l < 26 → wu_TW s1 z1 (wt_ga z1 287 l).toInt (P l) l
theorem wu_TA_b {s1 z1 : wt_St} {P : Nat → Int} (h : wu_TA s1 z1 P) : ∀ i l, 102 ≤ i → i < 106 → l < 26 → 0 ≤ (wt_ga s1 i l).toInt ∧ (wt_ga s1 i l).toInt ≤ 1000000 := fun i l a b c => ((h l c).1 i a b).1
theorem wu_rw_b (x1 x2 : Int32) (l : Nat) : 102 ≤ wu_rwt x1 x2 l ∧ wu_rwt x1 x2 l < 106 := by
  unfold wu_rwt
  split
  · split <;> omega
  · split <;> omega
/-- as it is -/
theorem wr_leastNow (n : Nat) (hn : 4294967297 < n) {s1 z1 : wt_St} {P : Nat → Int} (ta : wu_TA s1 z1 P) (rz : wt_RI z1) (ps : ∃ l : Nat, l < 26 ∧ 0 < (wt_ga z1 287 l).toInt) : wt_HH (wp_tr_leastOf n (-1 : Int32) (-1 : Int32) s1) (wp_md_often n z1) (fun q y => q.1 = y.1 ∧ q.2 = s1 ∧ y.2 = z1 ∧ 0 ≤ q.1.toInt) := by
  refine wt_HH_of (wh_leastOfT n hn (wu_TA_b ta)) (wh_oftenM n hn rz) (fun q y hq hy => ?_)
  obtain ⟨e1, b1, b2⟩ := hq
  obtain ⟨e2, d1, d2, d3⟩ := hy
  have R : ∀ l : Nat, wu_rwt (-1 : Int32) (-1 : Int32) l = 102 := fun l => by
    have h : ¬ (l : Int) = ((-1 : Int32)).toInt := fun h => by rw [wt_lm1] at h; omega
    unfold wu_rwt
    rw [if_neg h, if_neg h]
  refine ⟨wu_same (Φ := fun c => ∀ l : Nat, l < 26 → (wt_ga z1 287 l).toInt ≤ wt_go z1 c l) b1.1 ?_ (fun c c1 c2 => (b2 c c2).trans ⟨fun h l hl => ?_, fun h l hl => ?_⟩) d1 d2 d3, e1, e2, b1.1⟩
  · obtain ⟨l, l1, l2⟩ := ps
    have a := (b2 q.1.toInt b1.2).mp (Int.le_refl _) l l1
    have b := ((ta l l1).1 102 (by omega) (by omega)).2 l2
    rw [R] at a
    omega
  · have a := h l hl
    rw [R] at a
    exact ((ta l hl).2 c c1 c2).1.mp a
  · rw [R]
    exact ((ta l hl).2 c c1 c2).1.mpr (h l hl)
/-- the class weighs every letter -/
theorem wt_HH_spec {α β : Type} {p : Option α} {p' : Option β} {Q : α → β → Prop} (P : β → Prop) (h : wt_H p' P) (k : ∀ b, P b → wt_H p (fun a => Q a b)) : wt_HH p p' Q := fun a b e e' => k b (h b e') a e
def wu_fT (s s1 : wt_St) : Prop := wt_fr (fun _ _ => False) (fun i => i = 102 ∨ i = 103 ∨ i = 104 ∨ i = 105) s s1
set_option maxHeartbeats 2000000 in
theorem wr_cast (n : Nat) (hn : 4294967297 < n) {x1 x2 : Int32} {s z : wt_St} (v : wt_IV z) (rl : wu_RL s z) : wt_HH (wp_ap_cast n x1 x2 s) (wp_md_cast n x1 x2 z) (fun q y => (q.1 = 2 ∧ wt_gf y.2 108 0 = 1) ∨ (q.1 = 1 ∧ wt_gf y.2 108 0 = 2) ∨ (q.1 = 0 ∧ wt_gf y.2 108 0 = 0 ∧ q.2.1 = y.1)) := by
  have k0 : (0 : Int32).toInt = 0 := by decide
  have k26 : (26 : Int32).toInt = 26 := by decide
  unfold wp_ap_cast wp_md_cast
  obtain ⟨z0, ε0⟩ : ∃ o : wt_St, o = wt_sf z 108 0 (0 : Int32) := ⟨_, rfl⟩
  rw [← ε0]
  have g0 := wt_fr_sf ε0
  have t0 : wt_gf z0 108 0 = 0 := wt_v_sf ε0
  have r0 : wt_RI z0 := wt_RI_fno v.1 ε0 (Or.inr (by decide +kernel))
  have m0 : wt_M12 z0 := fun j => by rw [g0.2 111 (fun h => h)]; exact v.2.1 j
  obtain ⟨-, -, to, lc, tx, sc, -⟩ := wu_RL_z0 rl v.1 g0
  have sk := wu_SK_of lc sc
  have hz : 0 ≤ (wt_gf z0 108 39).toInt ∧ (wt_gf z0 108 39).toInt ≤ 8 := wt_Rf7 r0
  refine wr_gT n (wp_ap_cast_B16 n x1 x2) (wp_md_cast_B19 n x1 x2) tx.1 hz (wr_mb1 n t0 (by decide) (Or.inl ⟨rfl, wt_v_sf rfl⟩)) (fun hx0 hx1 => wr_mb0 n t0 (wr_gC n (wp_md_cast_B39 n x1 x2) (wh_b1 n t0 (by decide) (Or.inr (Or.inl ⟨rfl, wt_v_sf rfl⟩))) (fun c1 c2 => wr_b0 n t0 ?_)))
  have et := wt_tnI hx0
  have X := tx.2 (Int32.toNatClampNeg x1) (by omega)
  obtain ⟨lp, lp1, lp2⟩ := wu_nt_pos to X
  obtain ⟨-, -, -, -, -, -, tn6⟩ := X
  refine wt_HH_lm (P := fun a b => a.1 = b.1 ∧ wt_gf b.2 108 0 = 0) ?_ (fun a b h => Or.inr (Or.inr ⟨rfl, h.2, h.1⟩))
  refine wt_HH_r (wq_md_needsText n hn x1 z0 r0 hx0 (by omega)).h (fun z1 h1 => ?_)
  obtain ⟨fn, r1, nb, nd⟩ := h1
  have sk1 : wu_SK 40 s z1 := wu_SK_fr sk (wt_fr.rf (F := fun _ _ => False) (A := fun _ => False)) fn ⟨fun h => h, fun h => h, fun h => h⟩ ⟨by decide, by decide, by decide⟩
  have m1 : wt_M12 z1 := fun j => by rw [fn.2 111 (by decide)]; exact m0 j
  have ndS : ∀ l : Nat, l < 26 → (wt_ga s 37 (26 * Int32.toNatClampNeg x1 + l)).toInt = (wt_ga z1 287 l).toInt := fun l hl => by rw [tn6 l hl, nd l hl]
  have ps : ∃ l : Nat, l < 26 ∧ 0 < (wt_ga z1 287 l).toInt := ⟨lp, lp1, by rw [nd lp lp1]; exact lp2⟩
  unfold wp_tr_bestCast
  refine wt_HH_itl (fun t : Int32 × wt_St => (0 ≤ t.1.toInt ∧ t.1.toInt ≤ 26) ∧ wu_fT s t.2 ∧ ∀ l : Nat, (l : Int) < t.1.toInt → wu_TW t.2 z1 (wt_ga z1 287 l).toInt x2.toInt l) (fun K t I hK => ?_) n _ ⟨⟨by show 0 ≤ ((0 : Int32)).toInt; omega, by show ((0 : Int32)).toInt ≤ 26; omega⟩, wt_fr.rf, fun l hl => absurd (show (l : Int) < ((0 : Int32)).toInt from hl) (by omega)⟩
  obtain ⟨⟨i0, i1⟩, ft, i2⟩ := I
  have eti := wt_tnI i0
  have skt : wu_SK 40 t.2 z1 := wu_SK_fr sk1 ft (wt_fr.rf (F := fun _ _ => False) (A := fun _ => False)) ⟨by decide, by decide, by decide⟩ ⟨fun h => h, fun h => h, fun h => h⟩
  unfold wp_tr_bestCast_B2
  refine wt_HH_il (fun c => ?_) (fun c => ?_)
  · have c' := wt_cle c
    have ta : wu_TA t.2 z1 (fun _ => x2.toInt) := fun l hl => i2 l (by omega)
    refine wt_HH_b (wr_leastNow n hn ta r1 ps) (fun q2 y2 h => ?_)
    obtain ⟨e1, e2, e3, e4⟩ := h
    rw [e1, e2, e3]
    refine wt_HH_it (fun (p r : Int32 × Int32 × Int32 × wt_St) => (p.1 = r.1 ∧ p.2.1 = r.2.1 ∧ p.2.2.1 = r.2.2.1 ∧ p.2.2.2 = t.2) ∧ (0 ≤ r.2.2.1.toInt ∧ r.2.2.1.toInt ≤ 26) ∧ (wt_RI r.2.2.2 ∧ wt_M12 r.2.2.2) ∧ wu_KV z1 r.2.2.2 ∧ wt_fr (fun _ _ => False) (fun i => i = 121 ∨ i = 124 ∨ i = 111) z1 r.2.2.2) (fun KA KB p r J hK2 => ?_) n n _ _ ⟨⟨rfl, rfl, rfl, rfl⟩, ⟨by show 0 ≤ ((0 : Int32)).toInt; omega, by show ((0 : Int32)).toInt ≤ 26; omega⟩, ⟨r1, m1⟩, wu_KV_rf z1, wt_fr.rf⟩
    obtain ⟨⟨j1, j2, j3, j4⟩, ⟨j5, j6⟩, ⟨rr, mr⟩, kv, fr⟩ := J
    have er := wt_tnI j5
    unfold wp_tr_bestCast_B34 wp_md_cast_B64 wp_tr_bestCast_B63 wp_md_cast_B96
    rw [j1, j2, j3, j4]
    by_cases d : (26 : Int32) ≤ r.2.2.1
    · rw [if_pos d, if_pos d]
      refine wt_HH_some ⟨rfl, ?_⟩
      show wt_gf r.2.2.2 108 0 = 0
      rw [fr.1 108 0 (fun h => h), fn.1 108 0 (fun h => h)]
      exact t0
    · rw [if_neg d, if_neg d]
      have d' := wt_ncle d
      have ei := wt_i1 (c := r.2.2.1) (by omega)
      obtain ⟨b, hb⟩ : ∃ b : Nat, b = Int32.toNatClampNeg r.2.2.1 := ⟨_, rfl⟩
      rw [← hb] at er
      have S : wt_HH (wp_tr_leastOf n (-1 : Int32) r.2.2.1 t.2) (wp_md_withOne n r.2.2.1 x2 r.2.2.2) (fun q y => (q.1 = y.1 ∧ q.2 = t.2) ∧ (wt_RI y.2 ∧ wt_M12 y.2) ∧ wu_KV z1 y.2 ∧ wt_fr (fun _ _ => False) (fun i => i = 121 ∨ i = 124 ∨ i = 111) z1 y.2) := by
        refine wt_HH_of (wh_leastOfT n hn (wu_TA_b ta)) (wt_H_and (wh_withOneV n hn rr mr er.symm (by omega) (by omega) c2) (wt_H_and (wh_withOneR n hn rr mr er.symm (by omega) (by omega) c2) (wq_md_withOne n hn r.2.2.1 x2 r.2.2.2 rr mr j5 (by omega) (by omega) c2).h)) (fun q y hq hy => ?_)
        obtain ⟨a1, a2, a3⟩ := hq
        obtain ⟨⟨d1, d2, d3⟩, ⟨⟨d4, d5⟩, d6, d7⟩, d8, -, -⟩ := hy
        have RW : ∀ l : Nat, wu_rwt (-1 : Int32) r.2.2.1 l = if l = b then 104 else 102 := fun l => by
          have h : ¬ (l : Int) = ((-1 : Int32)).toInt := fun h => by rw [wt_lm1] at h; omega
          unfold wu_rwt
          rw [if_neg h]
          by_cases x : l = b
          · rw [if_pos x, if_pos (by omega)]
          · rw [if_neg x, if_neg (by omega)]
        have e287 : ∀ l, wt_ga r.2.2.2 287 l = wt_ga z1 287 l := fr.2 287 (by decide)
        have key : ∀ (c : Int) (l : Nat), 1 ≤ c → c ≤ 1000000 → l < 26 → (c ≤ (wt_ga t.2 (wu_rwt (-1 : Int32) r.2.2.1 l) l).toInt ↔ (wt_ga r.2.2.2 287 l).toInt ≤ wt_go r.2.2.2 c l + wu_plus l b c x2.toInt) := fun c l c1 c2 hl => by
          rw [RW, e287, wu_go_KV kv hl]
          obtain ⟨w1, -, w3, -⟩ := (ta l hl).2 c c1 c2
          unfold wu_plus
          by_cases x : l = b
          · rw [if_pos x, w3]
            by_cases y : c ≤ x2.toInt
            · rw [if_pos ⟨x, y⟩]
              show (_ ≤ _ ∨ (_ ∧ c ≤ x2.toInt)) ↔ _
              omega
            · rw [if_neg (fun h => y h.2)]
              show (_ ≤ _ ∨ (_ ∧ c ≤ x2.toInt)) ↔ _
              omega
          · rw [if_neg x, if_neg (fun h => x h.1), w1]
            omega
        refine ⟨⟨wu_same (Φ := fun c => ∀ l : Nat, l < 26 → (wt_ga r.2.2.2 287 l).toInt ≤ wt_go r.2.2.2 c l + wu_plus l b c x2.toInt) a2.1 ?_ (fun c c1 c2 => (a3 c c2).trans ⟨fun h l hl => (key c l c1 c2 hl).mp (h l hl), fun h l hl => (key c l c1 c2 hl).mpr (h l hl)⟩) d1 d2 d3, a1⟩, ⟨d4, d5⟩, ?_, fr.tr d8 (fun _ _ h => h) (fun _ h => h)⟩
        · obtain ⟨l, l1, l2⟩ := ps
          have w := (a3 q.1.toInt a2.2).mp (Int.le_refl _) l l1
          have rb := wu_rw_b (-1 : Int32) r.2.2.1 l
          have w2 := ((ta l l1).1 _ rb.1 rb.2).2 l2
          omega
        · refine ⟨fun j => (d6 j).trans (kv.1 j), fun l i hl hi => ?_⟩
          have gl : 0 ≤ (wt_ga r.2.2.2 111 b).toInt ∧ (wt_ga r.2.2.2 111 b).toInt ≤ 13 := wt_Ra1 rr 111 (show 111 ≤ 111 by omega) (show 111 < 112 by omega) b
          have el := wt_tnI gl.1
          have ml := mr b
          have mz := m1 l
          have ev := congrArg Int32.toInt (kv.1 b)
          have nc : 13 * l + i ≠ 13 * b + Int32.toNatClampNeg (wt_ga r.2.2.2 111 b) := fun h => by
            have hll : l = b := by omega
            rw [← hll] at ev h el
            omega
          obtain ⟨p1, p2⟩ := d7 _ nc
          exact ⟨p1.trans (kv.2 l i hl hi).1, p2.trans (kv.2 l i hl hi).2⟩
      refine wt_HH_b S (fun q y h => ?_)
      obtain ⟨⟨h1, h2⟩, h3, h4, h5⟩ := h
      rw [h1, h2]
      have B : ∀ a c : Int32, wt_HH (KA (a, c, (r.2.2.1 + (1 : Int32)), t.2)) (KB (a, c, (r.2.2.1 + (1 : Int32)), y.2)) (fun a b => a.1 = b.1 ∧ wt_gf b.2 108 0 = 0) := fun a c => hK2 _ _ ⟨⟨rfl, rfl, rfl, rfl⟩, ⟨by show 0 ≤ (r.2.2.1 + (1 : Int32)).toInt; omega, by show (r.2.2.1 + (1 : Int32)).toInt ≤ 26; omega⟩, h3, h4, h5⟩
      by_cases x : y.1 ≤ r.1
      · rw [if_pos x, if_neg (show ¬ r.1 < y.1 from fun h => by have := wt_clt h; have := wt_cle x; omega)]
        exact B _ _
      · rw [if_neg x, if_pos (show r.1 < y.1 from Int32.lt_iff_toInt_lt.mpr (by have := wt_ncle x; omega))]
        exact B _ _
  · have c' := wt_ncle c
    have ei := wt_i1 (c := t.1) (by omega)
    have e37 : ∀ j, wt_ga t.2 37 j = wt_ga s 37 j := ft.2 37 (by decide)
    have nl := ndS (Int32.toNatClampNeg t.1) (by omega)
    refine wt_HH_l (wh_weigh n hn (t := Int32.toNatClampNeg x1) (l := Int32.toNatClampNeg t.1) skt r1 et.symm (by omega) eti.symm (by omega) (by omega) c2 (by rw [e37, nl]; exact nb.1 _ (by omega))) (fun q6 h6 => ?_)
    obtain ⟨f6, o6, w6⟩ := h6
    rw [e37, nl] at w6
    refine hK _ ⟨⟨by show 0 ≤ (t.1 + (1 : Int32)).toInt; omega, by show (t.1 + (1 : Int32)).toInt ≤ 26; omega⟩, wt_fr.tr ft f6 (fun _ _ h => h) (fun _ h => h), fun l hl => ?_⟩
    have hl' : (l : Int) < (t.1 + (1 : Int32)).toInt := hl
    show wu_TW q6 z1 (wt_ga z1 287 l).toInt x2.toInt l
    by_cases x : l = Int32.toNatClampNeg t.1
    · rw [x]
      exact w6
    · exact wu_TW_eq (i2 l (by omega)) (fun i a b => o6 l x i a b)
