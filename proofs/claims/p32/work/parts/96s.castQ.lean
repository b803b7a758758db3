-- 96s.cast.lean.txt
section WTQ0
/-! cast and exchange on both sides -/
theorem wu_go_KV {z y : wt_St} {l : Nat} {c : Int} (h : wu_KV z y) (hl : l < 26) : wt_go y c l = wt_go z c l := by
  unfold wt_go
  rw [h.1]
  refine wt_sum_congr _ (fun k hk => ?_)
  have hk' : (k : Int) < (wt_ga z 111 l).toInt := by
    rcases wt_tn (wt_ga z 111 l) with q | q
    · exfalso
      have := wt_tnle (b := 0) (x := wt_ga z 111 l) (by omega)
      omega
    · omega
  obtain ⟨a, b⟩ := h.2 l k hl hk'
  show wt_gf1 y c (13 * l + k) = wt_gf1 z c (13 * l + k)
  unfold wt_gf1
  rw [a, b]
def wu_plus (l b : Nat) (c P : Int) : Int := if l = b ∧ c ≤ P then 1 else 0
set_option maxHeartbeats 2000000 in
theorem wh_withOneV (n : Nat) (hn : 4294967297 < n) {x1 x2 : Int32} {l : Nat} {z : wt_St} (r : wt_RI z) (m : wt_M12 z) (hx : x1.toInt = (l : Int)) (hl : l < 26) (p2 : 0 ≤ x2.toInt) (p3 : x2.toInt ≤ 400) : wt_H (wp_md_withOne n x1 x2 z) (fun q => (0 ≤ q.1.toInt ∧ q.1.toInt ≤ 400) ∧ (q.1.toInt = 0 ∨ ∀ l' : Nat, l' < 26 → (wt_ga z 287 l').toInt ≤ wt_go z q.1.toInt l' + wu_plus l' l q.1.toInt x2.toInt) ∧ (q.1.toInt = 400 ∨ ¬ ∀ l' : Nat, l' < 26 → (wt_ga z 287 l').toInt ≤ wt_go z (q.1.toInt + 1) l' + wu_plus l' l (q.1.toInt + 1) x2.toInt)) := by
  have ex := wt_tnN hx
  have g : 0 ≤ (wt_ga z 111 l).toInt ∧ (wt_ga z 111 l).toInt ≤ 13 := wt_Ra1 r 111 (show 111 ≤ 111 by omega) (show 111 < 112 by omega) l
  have ml := m l
  have et := wt_tnI g.1
  unfold wp_md_withOne
  rw [ex]
  refine wt_H_gd (fun _ => ?_)
  refine wt_H_bh (wh_cell n (l := l) (i := Int32.toNatClampNeg (wt_ga z 111 l)) hx et.symm hl (by omega)) (fun q2 h2 => ?_)
  obtain ⟨e2, c2⟩ := h2
  rw [e2, wt_tnN c2]
  refine wt_H_gd (fun _ => wt_H_gd (fun _ => wt_H_gd (fun _ => wt_H_gd (fun _ => ?_))))
  obtain ⟨s1, ε1⟩ : ∃ o : wt_St, o = wt_sa z 121 (13 * l + Int32.toNatClampNeg (wt_ga z 111 l)) x2 := ⟨_, rfl⟩
  rw [← ε1]
  have r1 := wt_Rn3 r ε1 (by decide) (by decide) p2 p3
  obtain ⟨s2, ε2⟩ : ∃ o : wt_St, o = wt_sa s1 124 (13 * l + Int32.toNatClampNeg (wt_ga z 111 l)) (-1 : Int32) := ⟨_, rfl⟩
  rw [← ε2]
  have r2 := wt_RI_no r1 ε2 124 125 (by decide +kernel) (by decide) (by decide)
  have f1 := wt_fr_sa ε1
  have f2 := wt_fr_sa ε2
  have e111 : ∀ j, wt_ga s2 111 j = wt_ga z 111 j := fun j => (f2.2 111 (by decide) j).trans (f1.2 111 (by decide) j)
  rw [e111]
  have ei := wt_i1 (c := wt_ga z 111 l) (by omega)
  obtain ⟨s3, ε3⟩ : ∃ o : wt_St, o = wt_sa s2 111 l ((wt_ga z 111 l) + (1 : Int32)) := ⟨_, rfl⟩
  rw [← ε3]
  have f3 := wt_fr_sa ε3
  have r3 := wt_Rn1 r2 ε3 (by decide) (by decide) (show 0 ≤ ((wt_ga z 111 l) + (1 : Int32)).toInt by omega) (show ((wt_ga z 111 l) + (1 : Int32)).toInt ≤ 13 by omega)
  have c121 : ∀ c, c ≠ 13 * l + Int32.toNatClampNeg (wt_ga z 111 l) → wt_ga s3 121 c = wt_ga z 121 c := fun c hc => by rw [f3.2 121 (by decide), f2.2 121 (by decide), wt_w_sa ε1 c hc]
  have c124 : ∀ c, c ≠ 13 * l + Int32.toNatClampNeg (wt_ga z 111 l) → wt_ga s3 124 c = wt_ga z 124 c := fun c hc => by rw [f3.2 124 (by decide), wt_w_sa ε2 c hc, f1.2 124 (by decide)]
  have v121 : wt_ga s3 121 (13 * l + Int32.toNatClampNeg (wt_ga z 111 l)) = x2 := by rw [f3.2 121 (by decide), f2.2 121 (by decide), wt_v_sa ε1]
  have v124 : wt_ga s3 124 (13 * l + Int32.toNatClampNeg (wt_ga z 111 l)) = (-1 : Int32) := by rw [f3.2 124 (by decide), wt_v_sa ε2]
  have e287 : ∀ j, wt_ga s3 287 j = wt_ga z 287 j := fun j => by rw [f3.2 287 (by decide), f2.2 287 (by decide), f1.2 287 (by decide)]
  have GO : ∀ (c : Int) (l' : Nat), wt_go s3 c l' = wt_go z c l' + wu_plus l' l c x2.toInt := fun c l' => by
    unfold wt_go wu_plus
    by_cases h : l' = l
    · rw [h, wt_v_sa ε3, show Int32.toNatClampNeg ((wt_ga z 111 l) + (1 : Int32)) = Int32.toNatClampNeg (wt_ga z 111 l) + 1 by have := wt_tnI (x := (wt_ga z 111 l) + (1 : Int32)) (by omega); omega]
      show wt_sum (fun j => wt_gf1 s3 c (13 * l + j)) (Int32.toNatClampNeg (wt_ga z 111 l)) + wt_gf1 s3 c (13 * l + Int32.toNatClampNeg (wt_ga z 111 l)) = _
      rw [wt_sum_congr (f := fun j => wt_gf1 s3 c (13 * l + j)) (g := fun j => wt_gf1 z c (13 * l + j)) _ (fun k hk => by
        show wt_gf1 s3 c (13 * l + k) = wt_gf1 z c (13 * l + k)
        unfold wt_gf1
        rw [c121 _ (by omega), c124 _ (by omega)])]
      unfold wt_gf1
      rw [v121, v124, wt_lm1]
      by_cases d : c ≤ x2.toInt
      · rw [if_pos (show (-1 : Int) = -1 ∧ c ≤ x2.toInt from ⟨rfl, d⟩), if_pos (show l = l ∧ c ≤ x2.toInt from ⟨rfl, d⟩)]
      · rw [if_neg (fun h : (-1 : Int) = -1 ∧ c ≤ x2.toInt => d h.2), if_neg (fun h : l = l ∧ c ≤ x2.toInt => d h.2)]
    · rw [wt_w_sa ε3 l' h, e111, if_neg (fun q => h q.1), Int.add_zero]
      refine wt_sum_congr _ (fun k hk => ?_)
      have hm := wt_tnle (b := 12) (m l')
      show wt_gf1 s3 c (13 * l' + k) = wt_gf1 z c (13 * l' + k)
      unfold wt_gf1
      rw [c121 _ (by omega), c124 _ (by omega)]
  refine wt_H_bh (wh_oftenM n hn r3) (fun q7 h7 => ?_)
  obtain ⟨-, a1, a2, a3⟩ := h7
  refine wt_H_gd (fun _ => wt_H_gd (fun _ => ?_))
  refine wt_H_some ⟨a1, a2.imp (fun h => h) (fun h l' hl' => ?_), a3.imp (fun h => h) (fun h h' => h (fun l' hl' => ?_))⟩
  · rw [← GO, ← e287]
    exact h l' hl'
  · rw [GO, e287]
    exact h' l' hl'
/-- the class's rows, of every letter -/
def wu_TA (s1 z1 : wt_St) (P : Nat → Int) : Prop := ∀ l : Nat, l < 26 → wu_TW s1 z1 (wt_ga z1 287 l).toInt (P l) l
theorem wu_TA_b {s1 z1 : wt_St} {P : Nat → Int} (h : wu_TA s1 z1 P) : ∀ i l, 102 ≤ i → i < 106 → l < 26 → 0 ≤ (wt_ga s1 i l).toInt ∧ (wt_ga s1 i l).toInt ≤ 1000000 := fun i l a b c => ((h l c).1 i a b).1
theorem wu_rw_b (x1 x2 : Int32) (l : Nat) : 102 ≤ wu_rwt x1 x2 l ∧ wu_rwt x1 x2 l < 106 := by
  unfold wu_rwt
  split
  · split <;> omega
  · split <;> omega
/-- as it is -/
theorem wr_leastNow (n : Nat) (hn : 4294967297 < n) {s1 z1 : wt_St} {P : Nat → Int} (ta : wu_TA s1 z1 P) (rz : wt_RI z1) (ps : ∃ l : Nat, l < 26 ∧ 0 < (wt_ga z1 287 l).toInt) : wt_HH (wp_tr_leastOf n (-1 : Int32) (-1 : Int32) s1) (wp_md_often n z1) (fun q y => q.1 = y.1 ∧ q.2 = s1 ∧ y.2 = z1 ∧ 0 ≤ q.1.toInt) := by
  refine wt_HH_of (wh_leastOfT n hn (wu_TA_b ta)) (wh_oftenM n hn rz) (fun q y hq hy => ?_)
  obtain ⟨e1, b1, b2⟩ := hq
  obtain ⟨e2, d1, d2, d3⟩ := hy
  have R : ∀ l : Nat, wu_rwt (-1 : Int32) (-1 : Int32) l = 102 := fun l => by
    have h : ¬ (l : Int) = ((-1 : Int32)).toInt := fun h => by rw [wt_lm1] at h; omega
    unfold wu_rwt
    rw [if_neg h, if_neg h]
  refine ⟨wu_same (Φ := fun c => ∀ l : Nat, l < 26 → (wt_ga z1 287 l).toInt ≤ wt_go z1 c l) b1.1 ?_ (fun c c1 c2 => (b2 c c2).trans ⟨fun h l hl => ?_, fun h l hl => ?_⟩) d1 d2 d3, e1, e2, b1.1⟩
  · obtain ⟨l, l1, l2⟩ := ps
    have a := (b2 q.1.toInt b1.2).mp (Int.le_refl _) l l1
    have b := ((ta l l1).1 102 (by omega) (by omega)).2 l2
    rw [R] at a
    omega
  · have a := h l hl
    rw [R] at a
    exact ((ta l hl).2 c c1 c2).1.mp a
  · rw [R]
    exact ((ta l hl).2 c c1 c2).1.mpr (h l hl)
/-- the class weighs every letter -/
theorem wt_HH_spec {α β : Type} {p : Option α} {p' : Option β} {Q : α → β → Prop} (P : β → Prop) (h : wt_H p' P) (k : ∀ b, P b → wt_H p (fun a => Q a b)) : wt_HH p p' Q := fun a b e e' => k b (h b e') a e
def wu_fT (s s1 : wt_St) : Prop := wt_fr (fun _ _ => False) (fun i => i = 102 ∨ i = 103 ∨ i = 104 ∨ i = 105) s s1
set_option maxHeartbeats 2000000 in
theorem wr_cast (n : Nat) (hn : 4294967297 < n) {x1 x2 : Int32} {s z : wt_St} (v : wt_IV z) (rl : wu_RL s z) : wt_HH (wp_ap_cast n x1 x2 s) (wp_md_cast n x1 x2 z) (fun q y => (q.1 = 2 ∧ wt_gf y.2 108 0 = 1) ∨ (q.1 = 1 ∧ wt_gf y.2 108 0 = 2) ∨ (q.1 = 0 ∧ wt_gf y.2 108 0 = 0 ∧ q.2.1 = y.1)) := by
  have k0 : (0 : Int32).toInt = 0 := by decide
  have k26 : (26 : Int32).toInt = 26 := by decide
  unfold wp_ap_cast wp_md_cast
  obtain ⟨z0, ε0⟩ : ∃ o : wt_St, o = wt_sf z 108 0 (0 : Int32) := ⟨_, rfl⟩
  rw [← ε0]
  have g0 := wt_fr_sf ε0
  have t0 : wt_gf z0 108 0 = 0 := wt_v_sf ε0
  have r0 : wt_RI z0 := wt_RI_fno v.1 ε0 (Or.inr (by decide +kernel))
  have m0 : wt_M12 z0 := fun j => by rw [g0.2 111 (fun h => h)]; exact v.2.1 j
  obtain ⟨-, -, to, lc, tx, sc, -⟩ := wu_RL_z0 rl v.1 g0
  have sk := wu_SK_of lc sc
  have hz : 0 ≤ (wt_gf z0 108 39).toInt ∧ (wt_gf z0 108 39).toInt ≤ 8 := wt_Rf7 r0
  refine wr_gT n (wp_ap_cast_B16 n x1 x2) (wp_md_cast_B19 n x1 x2) tx.1 hz (wr_mb1 n t0 (by decide) (Or.inl ⟨rfl, wt_v_sf rfl⟩)) (fun hx0 hx1 => wr_mb0 n t0 (wr_gC n (wp_md_cast_B39 n x1 x2) (wh_b1 n t0 (by decide) (Or.inr (Or.inl ⟨rfl, wt_v_sf rfl⟩))) (fun c1 c2 => wr_b0 n t0 ?_)))
  have et := wt_tnI hx0
  have X := tx.2 (Int32.toNatClampNeg x1) (by omega)
  obtain ⟨lp, lp1, lp2⟩ := wu_nt_pos to X
  obtain ⟨-, -, -, -, -, -, tn6⟩ := X
  refine wt_HH_lm (P := fun a b => a.1 = b.1 ∧ wt_gf b.2 108 0 = 0) ?_ (fun a b h => Or.inr (Or.inr ⟨rfl, h.2, h.1⟩))
  refine wt_HH_r (wq_md_needsText n hn x1 z0 r0 hx0 (by omega)).h (fun z1 h1 => ?_)
  obtain ⟨fn, r1, nb, nd⟩ := h1
  have sk1 : wu_SK 40 s z1 := wu_SK_fr sk (wt_fr.rf (F := fun _ _ => False) (A := fun _ => False)) fn ⟨fun h => h, fun h => h, fun h => h⟩ ⟨by decide, by decide, by decide⟩
  have m1 : wt_M12 z1 := fun j => by rw [fn.2 111 (by decide)]; exact m0 j
  have ndS : ∀ l : Nat, l < 26 → (wt_ga s 37 (26 * Int32.toNatClampNeg x1 + l)).toInt = (wt_ga z1 287 l).toInt := fun l hl => by rw [tn6 l hl, nd l hl]
  have ps : ∃ l : Nat, l < 26 ∧ 0 < (wt_ga z1 287 l).toInt := ⟨lp, lp1, by rw [nd lp lp1]; exact lp2⟩
  unfold wp_tr_bestCast
  refine wt_HH_itl (fun t : Int32 × wt_St => (0 ≤ t.1.toInt ∧ t.1.toInt ≤ 26) ∧ wu_fT s t.2 ∧ ∀ l : Nat, (l : Int) < t.1.toInt → wu_TW t.2 z1 (wt_ga z1 287 l).toInt x2.toInt l) (fun K t I hK => ?_) n _ ⟨⟨by show 0 ≤ ((0 : Int32)).toInt; omega, by show ((0 : Int32)).toInt ≤ 26; omega⟩, wt_fr.rf, fun l hl => absurd (show (l : Int) < ((0 : Int32)).toInt from hl) (by omega)⟩
  obtain ⟨⟨i0, i1⟩, ft, i2⟩ := I
  have eti := wt_tnI i0
  have skt : wu_SK 40 t.2 z1 := wu_SK_fr sk1 ft (wt_fr.rf (F := fun _ _ => False) (A := fun _ => False)) ⟨by decide, by decide, by decide⟩ ⟨fun h => h, fun h => h, fun h => h⟩
  unfold wp_tr_bestCast_B2
  refine wt_HH_il (fun c => ?_) (fun c => ?_)
  · have c' := wt_cle c
    have ta : wu_TA t.2 z1 (fun _ => x2.toInt) := fun l hl => i2 l (by omega)
    refine wt_HH_b (wr_leastNow n hn ta r1 ps) (fun q2 y2 h => ?_)
    obtain ⟨e1, e2, e3, e4⟩ := h
    rw [e1, e2, e3]
    refine wt_HH_it (fun (p r : Int32 × Int32 × Int32 × wt_St) => (p.1 = r.1 ∧ p.2.1 = r.2.1 ∧ p.2.2.1 = r.2.2.1 ∧ p.2.2.2 = t.2) ∧ (0 ≤ r.2.2.1.toInt ∧ r.2.2.1.toInt ≤ 26) ∧ (wt_RI r.2.2.2 ∧ wt_M12 r.2.2.2) ∧ wu_KV z1 r.2.2.2 ∧ wt_fr (fun _ _ => False) (fun i => i = 121 ∨ i = 124 ∨ i = 111) z1 r.2.2.2) (fun KA KB p r J hK2 => ?_) n n _ _ ⟨⟨rfl, rfl, rfl, rfl⟩, ⟨by show 0 ≤ ((0 : Int32)).toInt; omega, by show ((0 : Int32)).toInt ≤ 26; omega⟩, ⟨r1, m1⟩, wu_KV_rf z1, wt_fr.rf⟩
    obtain ⟨⟨j1, j2, j3, j4⟩, ⟨j5, j6⟩, ⟨rr, mr⟩, kv, fr⟩ := J
    have er := wt_tnI j5
    unfold wp_tr_bestCast_B34 wp_md_cast_B64 wp_tr_bestCast_B63 wp_md_cast_B96
    rw [j1, j2, j3, j4]
    by_cases d : (26 : Int32) ≤ r.2.2.1
    · rw [if_pos d, if_pos d]
      refine wt_HH_some ⟨rfl, ?_⟩
      show wt_gf r.2.2.2 108 0 = 0
      rw [fr.1 108 0 (fun h => h), fn.1 108 0 (fun h => h)]
      exact t0
    · rw [if_neg d, if_neg d]
      have d' := wt_ncle d
      have ei := wt_i1 (c := r.2.2.1) (by omega)
      obtain ⟨b, hb⟩ : ∃ b : Nat, b = Int32.toNatClampNeg r.2.2.1 := ⟨_, rfl⟩
      rw [← hb] at er
      have S : wt_HH (wp_tr_leastOf n (-1 : Int32) r.2.2.1 t.2) (wp_md_withOne n r.2.2.1 x2 r.2.2.2) (fun q y => (q.1 = y.1 ∧ q.2 = t.2) ∧ (wt_RI y.2 ∧ wt_M12 y.2) ∧ wu_KV z1 y.2 ∧ wt_fr (fun _ _ => False) (fun i => i = 121 ∨ i = 124 ∨ i = 111) z1 y.2) := by
        refine wt_HH_of (wh_leastOfT n hn (wu_TA_b ta)) (wt_H_and (wh_withOneV n hn rr mr er.symm (by omega) (by omega) c2) (wt_H_and (wh_withOneR n hn rr mr er.symm (by omega) (by omega) c2) (wq_md_withOne n hn r.2.2.1 x2 r.2.2.2 rr mr j5 (by omega) (by omega) c2).h)) (fun q y hq hy => ?_)
        obtain ⟨a1, a2, a3⟩ := hq
        obtain ⟨⟨d1, d2, d3⟩, ⟨⟨d4, d5⟩, d6, d7⟩, d8, -, -⟩ := hy
        have RW : ∀ l : Nat, wu_rwt (-1 : Int32) r.2.2.1 l = if l = b then 104 else 102 := fun l => by
          have h : ¬ (l : Int) = ((-1 : Int32)).toInt := fun h => by rw [wt_lm1] at h; omega
          unfold wu_rwt
          rw [if_neg h]
          by_cases x : l = b
          · rw [if_pos x, if_pos (by omega)]
          · rw [if_neg x, if_neg (by omega)]
        have e287 : ∀ l, wt_ga r.2.2.2 287 l = wt_ga z1 287 l := fr.2 287 (by decide)
        have key : ∀ (c : Int) (l : Nat), 1 ≤ c → c ≤ 1000000 → l < 26 → (c ≤ (wt_ga t.2 (wu_rwt (-1 : Int32) r.2.2.1 l) l).toInt ↔ (wt_ga r.2.2.2 287 l).toInt ≤ wt_go r.2.2.2 c l + wu_plus l b c x2.toInt) := fun c l c1 c2 hl => by
          rw [RW, e287, wu_go_KV kv hl]
          obtain ⟨w1, -, w3, -⟩ := (ta l hl).2 c c1 c2
          unfold wu_plus
          by_cases x : l = b
          · rw [if_pos x, w3]
            by_cases y : c ≤ x2.toInt
            · rw [if_pos ⟨x, y⟩]
              show (_ ≤ _ ∨ (_ ∧ c ≤ x2.toInt)) ↔ _
              omega
            · rw [if_neg (fun h => y h.2)]
              show (_ ≤ _ ∨ (_ ∧ c ≤ x2.toInt)) ↔ _
              omega
          · rw [if_neg x, if_neg (fun h => x h.1), w1]
            omega
        refine ⟨⟨wu_same (Φ := fun c => ∀ l : Nat, l < 26 → (wt_ga r.2.2.2 287 l).toInt ≤ wt_go r.2.2.2 c l + wu_plus l b c x2.toInt) a2.1 ?_ (fun c c1 c2 => (a3 c c2).trans ⟨fun h l hl => (key c l c1 c2 hl).mp (h l hl), fun h l hl => (key c l c1 c2 hl).mpr (h l hl)⟩) d1 d2 d3, a1⟩, ⟨d4, d5⟩, ?_, fr.tr d8 (fun _ _ h => h) (fun _ h => h)⟩
        · obtain ⟨l, l1, l2⟩ := ps
          have w := (a3 q.1.toInt a2.2).mp (Int.le_refl _) l l1
          have rb := wu_rw_b (-1 : Int32) r.2.2.1 l
          have w2 := ((ta l l1).1 _ rb.1 rb.2).2 l2
          omega
        · refine ⟨fun j => (d6 j).trans (kv.1 j), fun l i hl hi => ?_⟩
          have gl : 0 ≤ (wt_ga r.2.2.2 111 b).toInt ∧ (wt_ga r.2.2.2 111 b).toInt ≤ 13 := wt_Ra1 rr 111 (show 111 ≤ 111 by omega) (show 111 < 112 by omega) b
          have el := wt_tnI gl.1
          have ml := mr b
          have mz := m1 l
          have ev := congrArg Int32.toInt (kv.1 b)
          have nc : 13 * l + i ≠ 13 * b + Int32.toNatClampNeg (wt_ga r.2.2.2 111 b) := fun h => by
            have hll : l = b := by omega
            rw [← hll] at ev h el
            omega
          obtain ⟨p1, p2⟩ := d7 _ nc
          exact ⟨p1.trans (kv.2 l i hl hi).1, p2.trans (kv.2 l i hl hi).2⟩
      refine wt_HH_b S (fun q y h => ?_)
      obtain ⟨⟨h1, h2⟩, h3, h4, h5⟩ := h
      rw [h1, h2]
      have B : ∀ a c : Int32, wt_HH (KA (a, c, (r.2.2.1 + (1 : Int32)), t.2)) (KB (a, c, (r.2.2.1 + (1 : Int32)), y.2)) (fun a b => a.1 = b.1 ∧ wt_gf b.2 108 0 = 0) := fun a c => hK2 _ _ ⟨⟨rfl, rfl, rfl, rfl⟩, ⟨by show 0 ≤ (r.2.2.1 + (1 : Int32)).toInt; omega, by show (r.2.2.1 + (1 : Int32)).toInt ≤ 26; omega⟩, h3, h4, h5⟩
      by_cases x : y.1 ≤ r.1
      · rw [if_pos x, if_neg (show ¬ r.1 < y.1 from fun h => by have := wt_clt h; have := wt_cle x; omega)]
        exact B _ _
      · rw [if_neg x, if_pos (show r.1 < y.1 from Int32.lt_iff_toInt_lt.mpr (by have := wt_ncle x; omega))]
        exact B _ _
  · have c' := wt_ncle c
    have ei := wt_i1 (c := t.1) (by omega)
    have e37 : ∀ j, wt_ga t.2 37 j = wt_ga s 37 j := ft.2 37 (by decide)
    have nl := ndS (Int32.toNatClampNeg t.1) (by omega)
    refine wt_HH_l (wh_weigh n hn (t := Int32.toNatClampNeg x1) (l := Int32.toNatClampNeg t.1) skt r1 et.symm (by omega) eti.symm (by omega) (by omega) c2 (by rw [e37, nl]; exact nb.1 _ (by omega))) (fun q6 h6 => ?_)
    obtain ⟨f6, o6, w6⟩ := h6
    rw [e37, nl] at w6
    refine hK _ ⟨⟨by show 0 ≤ (t.1 + (1 : Int32)).toInt; omega, by show (t.1 + (1 : Int32)).toInt ≤ 26; omega⟩, wt_fr.tr ft f6 (fun _ _ h => h) (fun _ h => h), fun l hl => ?_⟩
    have hl' : (l : Int) < (t.1 + (1 : Int32)).toInt := hl
    show wu_TW q6 z1 (wt_ga z1 287 l).toInt x2.toInt l
    by_cases x : l = Int32.toNatClampNeg t.1
    · rw [x]
      exact w6
    · exact wu_TW_eq (i2 l (by omega)) (fun i a b => o6 l x i a b)
end WTQ0
-- 96t.exchange.lean.txt
section WTQ1
/-! exchange on both sides -/
def wu_mx (f : Nat → Int) : Nat → Int
  | 0 => 0
  | n + 1 => if wu_mx f n < f n then f n else wu_mx f n
theorem wu_mx_bd {f : Nat → Int} {c : Int} (hc : 0 ≤ c) : ∀ m : Nat, (∀ k, k < m → f k ≤ c) → 0 ≤ wu_mx f m ∧ wu_mx f m ≤ c := by
  intro m
  induction m with
  | zero => exact fun _ => ⟨Int.le_refl _, hc⟩
  | succ m ih =>
    intro h
    have a := ih (fun k hk => h k (by omega))
    have b := h m (by omega)
    show 0 ≤ (if wu_mx f m < f m then f m else wu_mx f m) ∧ (if wu_mx f m < f m then f m else wu_mx f m) ≤ c
    split <;> omega
theorem wu_mx_congr {f g : Nat → Int} : ∀ m : Nat, (∀ k, k < m → f k = g k) → wu_mx f m = wu_mx g m := by
  intro m
  induction m with
  | zero => exact fun _ => rfl
  | succ m ih =>
    intro h
    show (if wu_mx f m < f m then f m else wu_mx f m) = if wu_mx g m < g m then g m else wu_mx g m
    rw [ih (fun k hk => h k (by omega)), h m (by omega)]
theorem wh_mostThere (n : Nat) (hn : 4294967297 < n) {l : Nat} {x1 : Int32} {s : wt_St} (hx : x1.toInt = (l : Int)) (hl : l < 26) (h0 : 0 ≤ (wt_ga s 7 l).toInt) (h12 : (wt_ga s 7 l).toInt ≤ 12) : wt_H (wp_ld_mostThere n 4 x1 s) (fun q => q.2 = s ∧ q.1.toInt = wu_mx (fun i => (wt_ga s 8 (12 * l + i)).toInt) (Int32.toNatClampNeg (wt_ga s 7 l))) := by
  have k0 : (0 : Int32).toInt = 0 := by decide
  have e7 := wt_tnI h0
  unfold wp_ld_mostThere
  refine wt_H_it (fun t : Int32 × Int32 × wt_St => t.2.2 = s ∧ (0 ≤ t.2.1.toInt ∧ t.2.1.toInt ≤ (wt_ga s 7 l).toInt) ∧ t.1.toInt = wu_mx (fun i => (wt_ga s 8 (12 * l + i)).toInt) (Int32.toNatClampNeg t.2.1)) (fun K t I hK => ?_) n _ ⟨rfl, ⟨by show 0 ≤ ((0 : Int32)).toInt; omega, by show ((0 : Int32)).toInt ≤ _; omega⟩, by show ((0 : Int32)).toInt = wu_mx _ (Int32.toNatClampNeg (0 : Int32)); rw [wt_tn0, k0]; rfl⟩
  obtain ⟨i0, ⟨i1, i2⟩, i3⟩ := I
  have et := wt_tnI i1
  unfold wp_ld_mostThere_B4
  rw [i0]
  refine wt_H_bh (wh_look n hn (a := 4 + 3) (k := l) hx (by rw [show wt_ln (4 + 3) = 26 from by decide]; exact hl)) (fun q1 h1 => ?_)
  subst h1
  dsimp only
  refine wt_H_if (fun c => ?_) (fun c => ?_)
  · have c' : (wt_ga s 7 l).toInt ≤ t.2.1.toInt := wt_cle c
    refine wt_H_some ⟨rfl, ?_⟩
    show t.1.toInt = _
    rw [i3, show Int32.toNatClampNeg t.2.1 = Int32.toNatClampNeg (wt_ga s 7 l) by omega]
  · have c' : t.2.1.toInt < (wt_ga s 7 l).toInt := wt_ncle c
    have ei := wt_i1 (c := t.2.1) (by omega)
    have en : Int32.toNatClampNeg (t.2.1 + (1 : Int32)) = Int32.toNatClampNeg t.2.1 + 1 := by have := wt_tnI (x := t.2.1 + (1 : Int32)) (by omega); omega
    have ep := wt_piece hx hl i1 (by omega)
    refine wt_H_bh (wh_look n hn (a := 4 + 4) (k := 12 * l + Int32.toNatClampNeg t.2.1) ep (by rw [show wt_ln (4 + 4) = 312 from by decide]; omega)) (fun q3 h3 => ?_)
    subst h3
    dsimp only
    refine hK _ ⟨rfl, ⟨by show 0 ≤ (t.2.1 + (1 : Int32)).toInt; omega, by show (t.2.1 + (1 : Int32)).toInt ≤ _; omega⟩, ?_⟩
    show (if t.1 < wt_ga s 8 (12 * l + Int32.toNatClampNeg t.2.1) then wt_ga s 8 (12 * l + Int32.toNatClampNeg t.2.1) else t.1).toInt = wu_mx _ (Int32.toNatClampNeg (t.2.1 + (1 : Int32)))
    rw [en]
    show _ = if wu_mx (fun i => (wt_ga s 8 (12 * l + i)).toInt) (Int32.toNatClampNeg t.2.1) < (wt_ga s 8 (12 * l + Int32.toNatClampNeg t.2.1)).toInt then (wt_ga s 8 (12 * l + Int32.toNatClampNeg t.2.1)).toInt else wu_mx (fun i => (wt_ga s 8 (12 * l + i)).toInt) (Int32.toNatClampNeg t.2.1)
    rw [← i3]
    by_cases d : t.1 < wt_ga s 8 (12 * l + Int32.toNatClampNeg t.2.1)
    · rw [if_pos d, if_pos (wt_clt d)]
    · rw [if_neg d, if_neg (by have := wt_ncl d; omega)]
/-- the piece with the least left is put away -/
theorem wu_go_out {w s1 : wt_St} {a ic : Nat} (r : wt_RI w) (m : wt_M12 w) (ε : s1 = wt_sa w 121 (13 * a + ic) (0 : Int32)) (hic : (ic : Int) < (wt_ga w 111 a).toInt) (on : (wt_ga w 124 (13 * a + ic)).toInt = -1) (le : ∀ j : Nat, (j : Int) < (wt_ga w 111 a).toInt → (wt_ga w 124 (13 * a + j)).toInt = -1 → (wt_ga w 121 (13 * a + ic)).toInt ≤ (wt_ga w 121 (13 * a + j)).toInt) {c : Int} (hc : 1 ≤ c) : (∀ l : Nat, l ≠ a → wt_go s1 c l = wt_go w c l) ∧ 1 ≤ wt_go w 0 a ∧ ((wt_go w c a = wt_go w 0 a ∧ wt_go s1 c a = wt_go w 0 a - 1) ∨ (wt_go s1 c a = wt_go w c a ∧ wt_go w c a ≤ wt_go w 0 a - 1)) := by
  have k0 : (0 : Int32).toInt = 0 := by decide
  have ma := m a
  have ha := wt_tnI (x := wt_ga w 111 a) (by omega)
  have f := wt_fr_sa ε
  have nn : ∀ j, 0 ≤ (wt_ga w 121 j).toInt := fun j => by
    have : 0 ≤ (wt_ga w 121 j).toInt ∧ (wt_ga w 121 j).toInt ≤ 400 := wt_Ra3 r 121 (show 120 ≤ 121 by omega) (show 121 < 122 by omega) j
    exact this.1
  have o121 : ∀ j, j ≠ 13 * a + ic → wt_ga s1 121 j = wt_ga w 121 j := fun j hj => wt_w_sa ε j hj
  have e124 : ∀ j, wt_ga s1 124 j = wt_ga w 124 j := f.2 124 (by decide)
  have e111 : ∀ j, wt_ga s1 111 j = wt_ga w 111 j := f.2 111 (by decide)
  have g0 : wt_gf1 w 0 (13 * a + ic) = 1 := if_pos ⟨on, nn _⟩
  have s0 : wt_gf1 s1 c (13 * a + ic) = 0 := if_neg (fun h => by rw [wt_v_sa ε, k0] at h; omega)
  have other : ∀ k, k ≠ ic → wt_gf1 s1 c (13 * a + k) = wt_gf1 w c (13 * a + k) := fun k hk => by
    unfold wt_gf1
    rw [o121 _ (by omega), e124]
  refine ⟨fun l hl => ?_, ?_, ?_⟩
  · unfold wt_go
    rw [e111]
    have ml := wt_tnle (b := 12) (m l)
    refine wt_sum_congr _ (fun k hk => ?_)
    show wt_gf1 s1 c (13 * l + k) = wt_gf1 w c (13 * l + k)
    unfold wt_gf1
    rw [o121 _ (by omega), e124]
  · have h := wt_sum_pt (f := fun k => if k = ic then 0 else wt_gf1 w 0 (13 * a + k)) (g := fun k => wt_gf1 w 0 (13 * a + k)) (j := ic) (d := 1) (Int32.toNatClampNeg (wt_ga w 111 a)) (fun k _ hn => by show wt_gf1 w 0 (13 * a + k) = if k = ic then 0 else wt_gf1 w 0 (13 * a + k); rw [if_neg hn]) (by omega) (by show wt_gf1 w 0 (13 * a + ic) = (if ic = ic then 0 else wt_gf1 w 0 (13 * a + ic)) + 1; rw [if_pos rfl, g0]; rfl)
    have b := wt_sum_bd (f := fun k => if k = ic then 0 else wt_gf1 w 0 (13 * a + k)) (c := 1) (Int32.toNatClampNeg (wt_ga w 111 a)) (fun k _ => by
      show 0 ≤ (if k = ic then 0 else wt_gf1 w 0 (13 * a + k)) ∧ (if k = ic then 0 else wt_gf1 w 0 (13 * a + k)) ≤ 1
      unfold wt_gf1
      split
      · omega
      · split <;> omega)
    have e : wt_go w 0 a = wt_sum (fun k => wt_gf1 w 0 (13 * a + k)) (Int32.toNatClampNeg (wt_ga w 111 a)) := rfl
    omega
  · have E : ∀ d, wt_go w d a = wt_sum (fun k => wt_gf1 w d (13 * a + k)) (Int32.toNatClampNeg (wt_ga w 111 a)) := fun d => rfl
    have E1 : wt_go s1 c a = wt_sum (fun k => wt_gf1 s1 c (13 * a + k)) (Int32.toNatClampNeg (wt_ga w 111 a)) := by
      unfold wt_go
      rw [e111]
    by_cases d : c ≤ (wt_ga w 121 (13 * a + ic)).toInt
    · left
      have all : wt_go w c a = wt_go w 0 a := by
        rw [E, E]
        refine wt_sum_congr _ (fun k hk => ?_)
        show wt_gf1 w c (13 * a + k) = wt_gf1 w 0 (13 * a + k)
        by_cases x : (wt_ga w 124 (13 * a + k)).toInt = -1
        · have := le k (by omega) x
          have e1 : wt_gf1 w c (13 * a + k) = 1 := if_pos ⟨x, by omega⟩
          have e2 : wt_gf1 w 0 (13 * a + k) = 1 := if_pos ⟨x, nn _⟩
          rw [e1, e2]
        · have e1 : wt_gf1 w c (13 * a + k) = 0 := if_neg (fun h => x h.1)
          have e2 : wt_gf1 w 0 (13 * a + k) = 0 := if_neg (fun h => x h.1)
          rw [e1, e2]
      refine ⟨all, ?_⟩
      rw [← all, E1, E c]
      have := wt_sum_pt (f := fun k => wt_gf1 w c (13 * a + k)) (g := fun k => wt_gf1 s1 c (13 * a + k)) (j := ic) (d := -1) (Int32.toNatClampNeg (wt_ga w 111 a)) (fun k _ hn => other k hn) (by omega) (by
        show wt_gf1 s1 c (13 * a + ic) = wt_gf1 w c (13 * a + ic) + -1
        have e1 : wt_gf1 w c (13 * a + ic) = 1 := if_pos ⟨on, d⟩
        rw [s0, e1]
        rfl)
      omega
    · right
      have z0 : wt_gf1 w c (13 * a + ic) = 0 := if_neg (fun h => d h.2)
      refine ⟨?_, ?_⟩
      · rw [E1, E c]
        refine wt_sum_congr _ (fun k _ => ?_)
        show wt_gf1 s1 c (13 * a + k) = wt_gf1 w c (13 * a + k)
        by_cases x : k = ic
        · rw [x, s0, z0]
        · exact other k x
      · have h := wt_sum_pt (f := fun k => wt_gf1 w c (13 * a + k)) (g := fun k => if k = ic then 1 else wt_gf1 w c (13 * a + k)) (j := ic) (d := 1) (Int32.toNatClampNeg (wt_ga w 111 a)) (fun k _ hn => by show (if k = ic then 1 else wt_gf1 w c (13 * a + k)) = wt_gf1 w c (13 * a + k); rw [if_neg hn]) (by omega) (by show (if ic = ic then 1 else wt_gf1 w c (13 * a + ic)) = wt_gf1 w c (13 * a + ic) + 1; rw [if_pos rfl, z0]; rfl)
        have b := wt_sum_le (f := fun k => if k = ic then 1 else wt_gf1 w c (13 * a + k)) (g := fun k => wt_gf1 w 0 (13 * a + k)) (Int32.toNatClampNeg (wt_ga w 111 a)) (fun k _ => by
          show (if k = ic then 1 else wt_gf1 w c (13 * a + k)) ≤ wt_gf1 w 0 (13 * a + k)
          by_cases x : k = ic
          · rw [if_pos x, x, g0]
            exact Int.le_refl _
          · rw [if_neg x]
            by_cases y : (wt_ga w 124 (13 * a + k)).toInt = -1 ∧ c ≤ (wt_ga w 121 (13 * a + k)).toInt
            · have e1 : wt_gf1 w c (13 * a + k) = 1 := if_pos y
              have e2 : wt_gf1 w 0 (13 * a + k) = 1 := if_pos ⟨y.1, nn _⟩
              rw [e1, e2]
              exact Int.le_refl _
            · have e1 : wt_gf1 w c (13 * a + k) = 0 := if_neg y
              rw [e1]
              unfold wt_gf1
              split <;> omega)
        rw [E c, E 0]
        omega
/-! one for another: how often then -/
set_option maxHeartbeats 2000000 in
theorem wr_leastOther (n : Nat) (hn : 4294967297 < n) {a b ic : Nat} {x4 x6 p : Int32} {S z1 w s1 : wt_St} {P : Nat → Int} (ta : wu_TA S z1 P) (ps : ∃ l : Nat, l < 26 ∧ 0 < (wt_ga z1 287 l).toInt) (rw' : wt_RI w) (mw : wt_M12 w) (kv : wu_KV z1 w) (fr : wt_fr (fun _ _ => False) (fun i => i = 121 ∨ i = 124 ∨ i = 111) z1 w) (ha : x4.toInt = (a : Int)) (ha26 : a < 26) (hb : x6.toInt = (b : Int)) (hb26 : b < 26) (p0 : 0 ≤ p.toInt) (p4 : p.toInt ≤ 400) (hp : P b = p.toInt) (ε : s1 = wt_sa w 121 (13 * a + ic) (0 : Int32)) (hic : (ic : Int) < (wt_ga w 111 a).toInt) (on : (wt_ga w 124 (13 * a + ic)).toInt = -1) (le : ∀ j : Nat, (j : Int) < (wt_ga w 111 a).toInt → (wt_ga w 124 (13 * a + j)).toInt = -1 → (wt_ga w 121 (13 * a + ic)).toInt ≤ (wt_ga w 121 (13 * a + j)).toInt) : wt_HH (wp_tr_leastOf n x4 x6 S) (wp_md_withOne n x6 p s1) (fun q y => (q.1 = y.1 ∧ q.2 = S) ∧ 0 ≤ q.1.toInt) := by
  have k0 : (0 : Int32).toInt = 0 := by decide
  have f := wt_fr_sa ε
  have r1 := wt_Rn3 rw' ε (by decide) (by decide) (show 0 ≤ ((0 : Int32)).toInt by omega) (show ((0 : Int32)).toInt ≤ 400 by omega)
  have m1 : wt_M12 s1 := fun j => by rw [f.2 111 (by decide)]; exact mw j
  have e287 : ∀ l, wt_ga s1 287 l = wt_ga z1 287 l := fun l => (f.2 287 (by decide) l).trans (fr.2 287 (by decide) l)
  refine wt_HH_of (wh_leastOfT n hn (wu_TA_b ta)) (wh_withOneV n hn r1 m1 hb hb26 p0 p4) (fun q y hq hy => ?_)
  obtain ⟨a1, a2, a3⟩ := hq
  obtain ⟨d1, d2, d3⟩ := hy
  have key : ∀ (c : Int) (l : Nat), 1 ≤ c → c ≤ 1000000 → l < 26 → (c ≤ (wt_ga S (wu_rwt x4 x6 l) l).toInt ↔ (wt_ga s1 287 l).toInt ≤ wt_go s1 c l + wu_plus l b c p.toInt) := fun c l c1 c2 hl => by
    rw [e287]
    obtain ⟨o1, o2, o3⟩ := wu_go_out rw' mw ε hic on le c1
    rw [wu_go_KV kv ha26, wu_go_KV kv ha26] at o3
    rw [wu_go_KV kv ha26] at o2
    obtain ⟨w1, w2, w3, w4⟩ := (ta l hl).2 c c1 c2
    have nn0 := wt_go_nn (z := z1) (l := l) c
    unfold wu_plus wu_rwt
    by_cases xa : l = a
    · rw [if_pos (show (l : Int) = x4.toInt by omega)]
      rw [← xa] at o2 o3
      by_cases xb : l = b
      · rw [if_pos (show (l : Int) = x6.toInt by omega), w4, xb, hp, ← xb]
        by_cases y : c ≤ p.toInt
        · rw [if_pos (show l = l ∧ c ≤ p.toInt from ⟨rfl, y⟩)]
          rcases o3 with ⟨o4, o5⟩ | ⟨o4, o5⟩ <;> omega
        · rw [if_neg (fun h : l = l ∧ c ≤ p.toInt => y h.2)]
          rcases o3 with ⟨o4, o5⟩ | ⟨o4, o5⟩ <;> omega
      · rw [if_neg (show ¬ (l : Int) = x6.toInt by omega), w2, if_neg (fun h => xb h.1)]
        rcases o3 with ⟨o4, o5⟩ | ⟨o4, o5⟩ <;> omega
    · rw [if_neg (show ¬ (l : Int) = x4.toInt by omega), o1 l xa, wu_go_KV kv hl]
      by_cases xb : l = b
      · rw [if_pos (show (l : Int) = x6.toInt by omega), w3, xb, hp, ← xb]
        by_cases y : c ≤ p.toInt
        · rw [if_pos (show l = l ∧ c ≤ p.toInt from ⟨rfl, y⟩)]
          omega
        · rw [if_neg (fun h : l = l ∧ c ≤ p.toInt => y h.2)]
          omega
      · rw [if_neg (show ¬ (l : Int) = x6.toInt by omega), w1, if_neg (fun h => xb h.1)]
        omega
  refine ⟨⟨wu_same (Φ := fun c => ∀ l : Nat, l < 26 → (wt_ga s1 287 l).toInt ≤ wt_go s1 c l + wu_plus l b c p.toInt) a2.1 ?_ (fun c c1 c2 => (a3 c c2).trans ⟨fun h l hl => (key c l c1 c2 hl).mp (h l hl), fun h l hl => (key c l c1 c2 hl).mpr (h l hl)⟩) d1 d2 d3, a1⟩, a2.1⟩
  obtain ⟨l, l1, l2⟩ := ps
  have w := (a3 q.1.toInt a2.2).mp (Int.le_refl _) l l1
  have rb := wu_rw_b x4 x6 l
  have w2 := ((ta l l1).1 _ rb.1 rb.2).2 l2
  omega
set_option maxRecDepth 100000 in
set_option maxHeartbeats 8000000 in
theorem wr_exchange (n : Nat) (hn : 4294967297 < n) {x1 : Int32} {s z : wt_St} (v : wt_IV z) (rl : wu_RL s z) : wt_HH (wp_ap_exchange n x1 s) (wp_md_exchange n x1 z) (fun q y => (q.1 = 2 ∧ wt_gf y.2 108 0 = 1) ∨ (q.1 = 0 ∧ wt_gf y.2 108 0 = 0 ∧ q.2.1 = y.1)) := by
  have k0 : (0 : Int32).toInt = 0 := by decide
  have k26 : (26 : Int32).toInt = 26 := by decide
  unfold wp_ap_exchange wp_md_exchange
  obtain ⟨z0, ε0⟩ : ∃ o : wt_St, o = wt_sf z 108 0 (0 : Int32) := ⟨_, rfl⟩
  rw [← ε0]
  have g0 := wt_fr_sf ε0
  have t0 : wt_gf z0 108 0 = 0 := wt_v_sf ε0
  have r0 : wt_RI z0 := wt_RI_fno v.1 ε0 (Or.inr (by decide +kernel))
  have m0 : wt_M12 z0 := fun j => by rw [g0.2 111 (fun h => h)]; exact v.2.1 j
  obtain ⟨-, -, to, lc, tx, sc, -⟩ := wu_RL_z0 rl v.1 g0
  have sk := wu_SK_of lc sc
  have hz : 0 ≤ (wt_gf z0 108 39).toInt ∧ (wt_gf z0 108 39).toInt ≤ 8 := wt_Rf7 r0
  refine wr_gT n (wp_ap_exchange_B16 n x1) (wp_md_exchange_B19 n x1) tx.1 hz (wr_mb1 n t0 (by decide) (Or.inl ⟨rfl, wt_v_sf rfl⟩)) (fun hx0 hx1 => wr_mb0 n t0 ?_)
  have et := wt_tnI hx0
  have X := tx.2 (Int32.toNatClampNeg x1) (by omega)
  obtain ⟨lp, lp1, lp2⟩ := wu_nt_pos to X
  obtain ⟨-, -, -, -, -, -, tn6⟩ := X
  refine wt_HH_lm (P := fun a b => a.1 = b.1 ∧ wt_gf b.2 108 0 = 0) ?_ (fun a b h => Or.inr ⟨rfl, h.2, h.1⟩)
  refine wt_HH_r (wq_md_needsText n hn x1 z0 r0 hx0 (by omega)).h (fun z1 h1 => ?_)
  obtain ⟨fn, r1, nb, nd⟩ := h1
  have sk1 : wu_SK 40 s z1 := wu_SK_fr sk (wt_fr.rf (F := fun _ _ => False) (A := fun _ => False)) fn ⟨fun h => h, fun h => h, fun h => h⟩ ⟨by decide, by decide, by decide⟩
  have m1 : wt_M12 z1 := fun j => by rw [fn.2 111 (by decide)]; exact m0 j
  have ndS : ∀ l : Nat, l < 26 → (wt_ga s 37 (26 * Int32.toNatClampNeg x1 + l)).toInt = (wt_ga z1 287 l).toInt := fun l hl => by rw [tn6 l hl, nd l hl]
  have ps : ∃ l : Nat, l < 26 ∧ 0 < (wt_ga z1 287 l).toInt := ⟨lp, lp1, by rw [nd lp lp1]; exact lp2⟩
  -- what is there, of the other town
  have lc2 : wt_pr s z1 7 8 113 123 := fun l hl => by
    have e : wt_ga z1 123 = wt_ga z0 123 := funext (fn.2 123 (by decide))
    rw [fn.2 113 (by decide), e]
    exact lc.2.1 l hl
  obtain ⟨P, hP⟩ : ∃ P : Nat → Int, P = fun l => wu_mx (fun i => (wt_ga s 8 (12 * l + i)).toInt) (Int32.toNatClampNeg (wt_ga s 7 l)) := ⟨_, rfl⟩
  have hPb : ∀ l : Nat, l < 26 → 0 ≤ P l ∧ P l ≤ 400 := fun l hl => by
    rw [hP]
    refine wu_mx_bd (by omega) _ (fun k hk => ?_)
    obtain ⟨p1, p2, p3, p4⟩ := lc2 l hl
    have e := wt_tnI p2
    show (wt_ga s 8 (12 * l + k)).toInt ≤ 400
    rw [p4 k (by omega)]
    have g : 0 ≤ (wt_ga z1 123 (13 * l + k)).toInt ∧ (wt_ga z1 123 (13 * l + k)).toInt ≤ 400 := wt_Ra4 r1 123 (show 122 ≤ 123 by omega) (show 123 < 124 by omega) _
    exact g.2
  unfold wp_tr_bestExchange
  refine wt_HH_itl (fun t : Int32 × wt_St => (0 ≤ t.1.toInt ∧ t.1.toInt ≤ 26) ∧ wu_fT s t.2 ∧ ∀ l : Nat, (l : Int) < t.1.toInt → wu_TW t.2 z1 (wt_ga z1 287 l).toInt (P l) l) (fun K t I hK => ?_) n _ ⟨⟨by show 0 ≤ ((0 : Int32)).toInt; omega, by show ((0 : Int32)).toInt ≤ 26; omega⟩, wt_fr.rf, fun l hl => absurd (show (l : Int) < ((0 : Int32)).toInt from hl) (by omega)⟩
  obtain ⟨⟨i0, i1⟩, ft, i2⟩ := I
  have eti := wt_tnI i0
  have skt : wu_SK 40 t.2 z1 := wu_SK_fr sk1 ft (wt_fr.rf (F := fun _ _ => False) (A := fun _ => False)) ⟨by decide, by decide, by decide⟩ ⟨fun h => h, fun h => h, fun h => h⟩
  unfold wp_tr_bestExchange_B2
  refine wt_HH_il (fun c => ?_) (fun c => ?_)
  rotate_left
  · -- a letter is weighed
    have c' := wt_ncle c
    have ei := wt_i1 (c := t.1) (by omega)
    have e37 : ∀ j, wt_ga t.2 37 j = wt_ga s 37 j := ft.2 37 (by decide)
    have e7 : ∀ j, wt_ga t.2 7 j = wt_ga s 7 j := ft.2 7 (by decide)
    have e8 : ∀ j, wt_ga t.2 8 j = wt_ga s 8 j := ft.2 8 (by decide)
    have nl := ndS (Int32.toNatClampNeg t.1) (by omega)
    obtain ⟨q1, q2, q3, -⟩ := lc2 (Int32.toNatClampNeg t.1) (by omega)
    refine wt_HH_l (wh_mostThere n hn (l := Int32.toNatClampNeg t.1) eti.symm (by omega) (by rw [e7]; exact q2) (by rw [e7]; exact q3)) (fun q12 h12 => ?_)
    obtain ⟨e12, v12⟩ := h12
    have v12' : q12.1.toInt = P (Int32.toNatClampNeg t.1) := by
      rw [v12, hP, e7]
      exact wu_mx_congr _ (fun k _ => by show (wt_ga t.2 8 _).toInt = (wt_ga s 8 _).toInt; rw [e8])
    rw [e12]
    have pb := hPb (Int32.toNatClampNeg t.1) (by omega)
    refine wt_HH_l (wh_weigh n hn (t := Int32.toNatClampNeg x1) (l := Int32.toNatClampNeg t.1) skt r1 et.symm (by omega) eti.symm (by omega) (by omega) (by omega) (by rw [e37, nl]; exact nb.1 _ (by omega))) (fun q6 h6 => ?_)
    obtain ⟨f6, o6, w6⟩ := h6
    rw [e37, nl, v12'] at w6
    refine hK _ ⟨⟨by show 0 ≤ (t.1 + (1 : Int32)).toInt; omega, by show (t.1 + (1 : Int32)).toInt ≤ 26; omega⟩, wt_fr.tr ft f6 (fun _ _ h => h) (fun _ h => h), fun l hl => ?_⟩
    have hl' : (l : Int) < (t.1 + (1 : Int32)).toInt := hl
    show wu_TW q6 z1 (wt_ga z1 287 l).toInt (P l) l
    by_cases x : l = Int32.toNatClampNeg t.1
    · rw [x]
      exact w6
    · exact wu_TW_eq (i2 l (by omega)) (fun i a b => o6 l x i a b)
  have c' := wt_cle c
  have ta : wu_TA t.2 z1 P := fun l hl => i2 l (by omega)
  refine wt_HH_b (wr_leastNow n hn ta r1 ps) (fun q2 y2 h => ?_)
  obtain ⟨e1, e2, e3, e4⟩ := h
  rw [e1] at e4
  rw [e1, e2, e3]
  have ZZ : ∀ r : wt_St, wt_fr (fun _ _ => False) (fun i => i = 121 ∨ i = 124 ∨ i = 111) z1 r → wt_gf r 108 0 = 0 := fun r fr => by
    rw [fr.1 108 0 (fun h => h), fn.1 108 0 (fun h => h)]
    exact t0
  refine wt_HH_it (fun (p r : Int32 × Int32 × Int32 × wt_St) => (p.1 = r.1 ∧ p.2.1 = r.2.1 ∧ p.2.2.1 = r.2.2.1 ∧ p.2.2.2 = t.2) ∧ (0 ≤ r.2.2.1.toInt ∧ r.2.2.1.toInt ≤ 26) ∧ 0 ≤ r.1.toInt ∧ (wt_RI r.2.2.2 ∧ wt_M12 r.2.2.2) ∧ wu_KV z1 r.2.2.2 ∧ wt_fr (fun _ _ => False) (fun i => i = 121 ∨ i = 124 ∨ i = 111) z1 r.2.2.2) (fun K40 K43 p r J hK2 => ?_) n n _ _ ⟨⟨rfl, rfl, rfl, rfl⟩, ⟨by show 0 ≤ ((0 : Int32)).toInt; omega, by show ((0 : Int32)).toInt ≤ 26; omega⟩, e4, ⟨r1, m1⟩, wu_KV_rf z1, wt_fr.rf⟩
  obtain ⟨⟨j1, j2, j3, j4⟩, ⟨j5, j6⟩, j7, ⟨rr, mr⟩, kv, fr⟩ := J
  have er := wt_tnI j5
  unfold wp_tr_bestExchange_B40 wp_md_exchange_B43
  rw [j1, j2, j3, j4]
  by_cases d : (26 : Int32) ≤ r.2.2.1
  · rw [if_pos d, if_pos d]
    exact wt_HH_some ⟨rfl, ZZ _ fr⟩
  rw [if_neg d, if_neg d]
  have d' := wt_ncle d
  have ei := wt_i1 (c := r.2.2.1) (by omega)
  obtain ⟨A, hA⟩ : ∃ A : Nat, A = Int32.toNatClampNeg r.2.2.1 := ⟨_, rfl⟩
  have hA' := hA
  rw [← hA] at er
  have hA26 : A < 26 := by omega
  have gA : 0 ≤ (wt_ga r.2.2.2 111 A).toInt ∧ (wt_ga r.2.2.2 111 A).toInt ≤ 13 := wt_Ra1 rr 111 (show 111 ≤ 111 by omega) (show 111 < 112 by omega) A
  have mA := mr A
  have eA := wt_tnI gA.1
  -- the piece that goes
  refine wt_HH_itr (fun u : Int32 × Int32 × wt_St => u.2.2 = r.2.2.2 ∧ (0 ≤ u.2.1.toInt ∧ u.2.1.toInt ≤ (wt_ga r.2.2.2 111 A).toInt) ∧ ((u.1 = (-1 : Int32) ∧ ∀ j : Nat, (j : Int) < u.2.1.toInt → (wt_ga r.2.2.2 124 (13 * A + j)).toInt ≠ -1) ∨ ∃ i : Nat, (i : Int) < u.2.1.toInt ∧ u.1.toInt = ((13 * A + i : Nat) : Int) ∧ (wt_ga r.2.2.2 124 (13 * A + i)).toInt = -1 ∧ ∀ j : Nat, (j : Int) < u.2.1.toInt → (wt_ga r.2.2.2 124 (13 * A + j)).toInt = -1 → (wt_ga r.2.2.2 121 (13 * A + i)).toInt ≤ (wt_ga r.2.2.2 121 (13 * A + j)).toInt)) (fun K56 u U hK3 => ?_) n _ ⟨rfl, ⟨by show 0 ≤ ((0 : Int32)).toInt; omega, by show ((0 : Int32)).toInt ≤ _; omega⟩, Or.inl ⟨rfl, fun j hj => absurd (show (j : Int) < ((0 : Int32)).toInt from hj) (by omega)⟩⟩
  obtain ⟨u0, ⟨u1, u2⟩, u3⟩ := U
  have eu := wt_tnI u1
  unfold wp_md_exchange_B56
  rw [u0, ← hA]
  refine wt_HH_gr (fun _ => wt_HH_ir (fun g => ?_) (fun g => ?_))
  rotate_left
  · have g' := wt_ncle g
    have eui := wt_i1 (c := u.2.1) (by omega)
    refine wt_HH_r (wh_cell n (l := A) (i := Int32.toNatClampNeg u.2.1) er.symm eu.symm hA26 (by omega)) (fun q26 h26 => ?_)
    obtain ⟨e26, c26⟩ := h26
    rw [e26, wt_tnN c26]
    unfold wp_md_exchange_B112 wp_md_exchange_B121
    have N : (∀ j : Nat, (j : Int) < u.2.1.toInt → (wt_ga r.2.2.2 124 (13 * A + j)).toInt = -1 → (wt_ga r.2.2.2 121 (13 * A + Int32.toNatClampNeg u.2.1)).toInt ≤ (wt_ga r.2.2.2 121 (13 * A + j)).toInt) → (wt_ga r.2.2.2 124 (13 * A + Int32.toNatClampNeg u.2.1)).toInt = -1 → wt_HH (wt_it (wp_tr_bestExchange_B50 n r.2.2.1 K40) n (r.1, r.2.1, (0 : Int32), t.2)) ((wp_md_cell n r.2.2.1 u.2.1 r.2.2.2).bind fun q30 => K56 (q30.1, (u.2.1 + (1 : Int32)), q30.2)) (fun a b => a.1 = b.1 ∧ wt_gf b.2 108 0 = 0) := fun hle hon => by
      refine wt_HH_r (wh_cell n (l := A) (i := Int32.toNatClampNeg u.2.1) er.symm eu.symm hA26 (by omega)) (fun q30 h30 => ?_)
      rw [h30.1]
      refine hK3 _ ⟨rfl, ⟨by show 0 ≤ (u.2.1 + (1 : Int32)).toInt; omega, by show (u.2.1 + (1 : Int32)).toInt ≤ _; omega⟩, Or.inr ⟨Int32.toNatClampNeg u.2.1, by show ((Int32.toNatClampNeg u.2.1 : Nat) : Int) < (u.2.1 + (1 : Int32)).toInt; omega, h30.2, hon, fun j hj ho => ?_⟩⟩
      have hj' : (j : Int) < (u.2.1 + (1 : Int32)).toInt := hj
      by_cases x : j = Int32.toNatClampNeg u.2.1
      · rw [x]
        exact Int.le_refl _
      · exact hle j (by omega) ho
    refine wt_HH_gr (fun _ => wt_HH_ir (fun on => ?_) (fun on => ?_))
    · have on' : (wt_ga r.2.2.2 124 (13 * A + Int32.toNatClampNeg u.2.1)).toInt = -1 := (wt_ceq on).trans wt_lm1
      refine wt_HH_ir (fun x => ?_) (fun x => ?_)
      · rcases u3 with ⟨-, u3⟩ | ⟨i, ia, ib, -⟩
        · exact N (fun j hj ho => absurd ho (u3 j hj)) on'
        · rw [x, wt_lm1] at ib
          omega
      · refine wt_HH_r (wh_cell n (l := A) (i := Int32.toNatClampNeg u.2.1) er.symm eu.symm hA26 (by omega)) (fun q31 h31 => ?_)
        rw [h31.1, wt_tnN h31.2]
        rcases u3 with ⟨u3, -⟩ | ⟨i, ia, ib, ic, id⟩
        · exact absurd u3 x
        · rw [wt_tnN ib]
          refine wt_HH_gr (fun _ => wt_HH_gr (fun _ => wt_HH_ir (fun y => ?_) (fun y => ?_)))
          · have y' := wt_cle y
            refine hK3 _ ⟨rfl, ⟨by show 0 ≤ (u.2.1 + (1 : Int32)).toInt; omega, by show (u.2.1 + (1 : Int32)).toInt ≤ _; omega⟩, Or.inr ⟨i, by show (i : Int) < (u.2.1 + (1 : Int32)).toInt; omega, ib, ic, fun j hj ho => ?_⟩⟩
            have hj' : (j : Int) < (u.2.1 + (1 : Int32)).toInt := hj
            by_cases x : j = Int32.toNatClampNeg u.2.1
            · rw [x]
              exact y'
            · exact id j (by omega) ho
          · have y' := wt_ncle y
            exact N (fun j hj ho => by have := id j hj ho; omega) on'
    · have on' : (wt_ga r.2.2.2 124 (13 * A + Int32.toNatClampNeg u.2.1)).toInt ≠ -1 := fun h => on (wt_eqI (h.trans wt_lm1.symm))
      refine hK3 _ ⟨rfl, ⟨by show 0 ≤ (u.2.1 + (1 : Int32)).toInt; omega, by show (u.2.1 + (1 : Int32)).toInt ≤ _; omega⟩, ?_⟩
      have ne : ∀ j : Nat, (j : Int) < (u.2.1 + (1 : Int32)).toInt → (wt_ga r.2.2.2 124 (13 * A + j)).toInt = -1 → (j : Int) < u.2.1.toInt := fun j hj ho => by
        by_cases x : j = Int32.toNatClampNeg u.2.1
        · rw [x] at ho
          exact absurd ho on'
        · omega
      rcases u3 with ⟨a, b⟩ | ⟨i, ia, ib, ic, id⟩
      · exact Or.inl ⟨a, fun j hj ho => b j (ne j hj ho) ho⟩
      · exact Or.inr ⟨i, by show (i : Int) < (u.2.1 + (1 : Int32)).toInt; omega, ib, ic, fun j hj ho => id j (ne j hj ho) ho⟩
  have g' := wt_cle g
  have eum : u.2.1.toInt = (wt_ga r.2.2.2 111 A).toInt := by omega
  rw [eum] at u3
  have skl : ∀ q : wt_St, q = t.2 → wt_H (wp_sk_inCase n r.2.2.1 q) (fun q5 => q5.2 = t.2 ∧ q5.1.toInt = wt_go z1 0 A) := fun q hq => by
    rw [hq]
    exact wh_inCase n hn skt er.symm hA26
  -- no piece lies in the case
  rcases u3 with ⟨u4, u5⟩ | ⟨ic, ic1, ic2, ic3, ic4⟩
  · have z0A : wt_go z1 0 A = 0 := by
      rw [← wu_go_KV kv hA26]
      have b := wt_sum_bd (f := fun j => wt_gf1 r.2.2.2 0 (13 * A + j)) (c := 0) (Int32.toNatClampNeg (wt_ga r.2.2.2 111 A)) (fun k hk => by
        have e : wt_gf1 r.2.2.2 0 (13 * A + k) = 0 := if_neg (fun h => u5 k (by omega) h.1)
        show 0 ≤ wt_gf1 r.2.2.2 0 (13 * A + k) ∧ wt_gf1 r.2.2.2 0 (13 * A + k) ≤ 0
        omega)
      have e : wt_go r.2.2.2 0 A = wt_sum (fun j => wt_gf1 r.2.2.2 0 (13 * A + j)) (Int32.toNatClampNeg (wt_ga r.2.2.2 111 A)) := rfl
      omega
    refine wt_HH_itr (fun w : Int32 × Int32 × Int32 × wt_St => w = (r.1, r.2.1, (0 : Int32), r.2.2.2)) (fun K130 w W _ => ?_) n _ rfl
    subst W
    unfold wp_md_exchange_B130 wp_md_exchange_B279
    rw [u4, if_neg (show ¬ (26 : Int32) ≤ (r.1, r.2.1, (0 : Int32), r.2.2.2).2.2.1 by show ¬ (26 : Int32) ≤ (0 : Int32); decide), if_pos rfl]
    show wt_HH (wt_it (wp_tr_bestExchange_B50 n r.2.2.1 K40) n (r.1, r.2.1, (0 : Int32), t.2)) (K43 (r.1, r.2.1, (r.2.2.1 + (1 : Int32)), r.2.2.2)) _
    refine wt_HH_itl (fun w : Int32 × Int32 × Int32 × wt_St => w.1 = r.1 ∧ w.2.1 = r.2.1 ∧ w.2.2.2 = t.2 ∧ 0 ≤ w.2.2.1.toInt) (fun K50 w W hK4 => ?_) n _ ⟨rfl, rfl, rfl, by show 0 ≤ ((0 : Int32)).toInt; omega⟩
    obtain ⟨W1, W2, W3, W4⟩ := W
    unfold wp_tr_bestExchange_B50 wp_tr_bestExchange_B88 wp_tr_bestExchange_B89 wp_tr_bestExchange_B108 wp_tr_bestExchange_B128
    rw [W1, W2, W3]
    refine wt_HH_il (fun x => ?_) (fun x => ?_)
    · exact hK2 _ _ ⟨⟨rfl, rfl, rfl, rfl⟩, ⟨by show 0 ≤ (r.2.2.1 + (1 : Int32)).toInt; omega, by show (r.2.2.1 + (1 : Int32)).toInt ≤ 26; omega⟩, j7, ⟨rr, mr⟩, kv, fr⟩
    · have x' := wt_ncle x
      have ew := wt_i1 (c := w.2.2.1) (by omega)
      refine wt_HH_l (skl _ rfl) (fun q5 h5 => ?_)
      rw [if_pos (show q5.1 ≤ 0 from Int32.le_iff_toInt_le.mpr (by omega)), if_pos rfl, if_pos (show (0 : Int32) ≤ r.1 from Int32.le_iff_toInt_le.mpr (by omega)), h5.1]
      exact hK4 _ ⟨rfl, rfl, rfl, by show 0 ≤ (w.2.2.1 + (1 : Int32)).toInt; omega⟩
  -- what comes for it
  have ecu := wt_tnN ic2
  have nu : ¬ u.1 = (-1 : Int32) := fun h => by rw [h, wt_lm1] at ic2; omega
  have posA : 1 ≤ wt_go z1 0 A := by
    have := (wu_go_out rr mr rfl ic1 ic3 ic4 (c := 1) (by omega)).2.1
    rw [wu_go_KV kv hA26] at this
    exact this
  refine wt_HH_it (fun (p w : Int32 × Int32 × Int32 × wt_St) => (p.1 = w.1 ∧ p.2.1 = w.2.1 ∧ p.2.2.1 = w.2.2.1 ∧ p.2.2.2 = t.2) ∧ (0 ≤ w.2.2.1.toInt ∧ w.2.2.1.toInt ≤ 26) ∧ 0 ≤ w.1.toInt ∧ (wt_RI w.2.2.2 ∧ wt_M12 w.2.2.2) ∧ wu_KV z1 w.2.2.2 ∧ wt_fr (fun _ _ => False) (fun i => i = 121 ∨ i = 124 ∨ i = 111) z1 w.2.2.2) (fun K50 K130 p w L hK4 => ?_) n n _ _ ⟨⟨rfl, rfl, rfl, rfl⟩, ⟨by show 0 ≤ ((0 : Int32)).toInt; omega, by show ((0 : Int32)).toInt ≤ 26; omega⟩, j7, ⟨rr, mr⟩, kv, fr⟩
  obtain ⟨⟨l1, l2, l3, l4⟩, ⟨l5, l6⟩, l7, ⟨wr, wm⟩, wv, wf⟩ := L
  have ew := wt_tnI l5
  unfold wp_tr_bestExchange_B50 wp_md_exchange_B130 wp_md_exchange_B279
  rw [l1, l2, l3, l4]
  by_cases f : (26 : Int32) ≤ w.2.2.1
  · rw [if_pos f, if_pos f]
    exact hK2 _ _ ⟨⟨rfl, rfl, rfl, rfl⟩, ⟨by show 0 ≤ (r.2.2.1 + (1 : Int32)).toInt; omega, by show (r.2.2.1 + (1 : Int32)).toInt ≤ 26; omega⟩, l7, ⟨wr, wm⟩, wv, wf⟩
  rw [if_neg f, if_neg f, if_neg nu]
  have f' := wt_ncle f
  have ewi := wt_i1 (c := w.2.2.1) (by omega)
  obtain ⟨B, hB⟩ : ∃ B : Nat, B = Int32.toNatClampNeg w.2.2.1 := ⟨_, rfl⟩
  rw [← hB] at ew
  have hB26 : B < 26 := by omega
  unfold wp_tr_bestExchange_B88 wp_tr_bestExchange_B89 wp_tr_bestExchange_B108 wp_tr_bestExchange_B128 wp_md_exchange_B273
  refine wt_HH_l (skl _ rfl) (fun q5 h5 => ?_)
  rw [if_neg (show ¬ q5.1 ≤ 0 from fun h => by have := wt_cle h; omega), h5.1]
  refine wt_HH_l (wh_look n hn (k := B) ew.symm (by rw [show wt_ln 7 = 26 from by decide]; exact hB26)) (fun q10 h10 => ?_)
  subst h10
  dsimp only
  obtain ⟨p1, p2, p3, p4⟩ := lc2 B hB26
  have e7 : wt_ga t.2 7 B = wt_ga s 7 B := ft.2 7 (by decide) B
  have w113 : wt_ga w.2.2.2 113 B = wt_ga s 7 B := by rw [wf.2 113 (by decide)]; exact p1.symm
  have w123 : ∀ j, wt_ga w.2.2.2 123 j = wt_ga z1 123 j := wf.2 123 (by decide)
  rw [e7, ← hB, w113]
  have NX : ∀ (a c : Int32) (zz : wt_St), 0 ≤ a.toInt → wt_RI zz → wt_M12 zz → wu_KV z1 zz → wt_fr (fun _ _ => False) (fun i => i = 121 ∨ i = 124 ∨ i = 111) z1 zz → wt_HH (K50 (a, c, (w.2.2.1 + (1 : Int32)), t.2)) (K130 (a, c, (w.2.2.1 + (1 : Int32)), zz)) (fun a b => a.1 = b.1 ∧ wt_gf b.2 108 0 = 0) := fun a c zz h1 h2 h3 h4 h5 => hK4 _ _ ⟨⟨rfl, rfl, rfl, rfl⟩, ⟨by show 0 ≤ (w.2.2.1 + (1 : Int32)).toInt; omega, by show (w.2.2.1 + (1 : Int32)).toInt ≤ 26; omega⟩, h1, ⟨h2, h3⟩, h4, h5⟩
  refine wt_HH_gr (fun _ => ?_)
  by_cases e0 : wt_ga s 7 B = 0
  · rw [if_pos (show wt_ga s 7 B ≤ 0 from Int32.le_iff_toInt_le.mpr (by rw [e0]; exact Int.le_refl _)), if_pos rfl, if_pos (show (0 : Int32) ≤ w.1 from Int32.le_iff_toInt_le.mpr (by omega)), if_pos e0]
    exact NX _ _ _ l7 wr wm wv wf
  have e0' : 0 < (wt_ga s 7 B).toInt := by
    have := wt_nceq e0
    omega
  rw [if_neg (show ¬ wt_ga s 7 B ≤ 0 from fun h => by have := wt_cle h; omega), if_neg (show ¬ (1 : Int32) = 0 by decide), if_neg e0]
  have e7n := wt_tnI p2
  -- the most that one of theirs has
  refine wt_HH_itr (fun q : Int32 × Int32 × wt_St => q.2.2 = w.2.2.2 ∧ (0 ≤ q.2.1.toInt ∧ q.2.1.toInt ≤ (wt_ga s 7 B).toInt) ∧ q.1.toInt = wu_mx (fun i => (wt_ga s 8 (12 * B + i)).toInt) (Int32.toNatClampNeg q.2.1)) (fun K162 q Qq hK5 => ?_) n _ ⟨rfl, ⟨by show 0 ≤ ((0 : Int32)).toInt; omega, by show ((0 : Int32)).toInt ≤ _; omega⟩, by show ((0 : Int32)).toInt = wu_mx _ (Int32.toNatClampNeg (0 : Int32)); rw [wt_tn0, k0]; rfl⟩
  obtain ⟨q0, ⟨q1, q2'⟩, q3⟩ := Qq
  have eq := wt_tnI q1
  unfold wp_md_exchange_B162 wp_md_exchange_B208 wp_md_exchange_B273
  rw [q0, ← hB, w113, ecu]
  refine wt_HH_gr (fun _ => wt_HH_ir (fun h => ?_) (fun h => ?_))
  rotate_left
  · have h' := wt_ncle h
    have eqi := wt_i1 (c := q.2.1) (by omega)
    have en : Int32.toNatClampNeg (q.2.1 + (1 : Int32)) = Int32.toNatClampNeg q.2.1 + 1 := by have := wt_tnI (x := q.2.1 + (1 : Int32)) (by omega); omega
    have c8 := p4 (Int32.toNatClampNeg q.2.1) (by omega)
    have M : ∀ v : Int32, v.toInt = (if q.1.toInt < (wt_ga s 8 (12 * B + Int32.toNatClampNeg q.2.1)).toInt then (wt_ga s 8 (12 * B + Int32.toNatClampNeg q.2.1)).toInt else q.1.toInt) → v.toInt = wu_mx (fun i => (wt_ga s 8 (12 * B + i)).toInt) (Int32.toNatClampNeg (q.2.1 + (1 : Int32))) := fun v hv => by
      rw [en, hv, q3]
      rfl
    refine wt_HH_r (wh_cell n (l := B) (i := Int32.toNatClampNeg q.2.1) ew.symm eq.symm hB26 (by omega)) (fun q21 h21 => ?_)
    rw [h21.1, wt_tnN h21.2, w123, ← c8]
    refine wt_HH_gr (fun _ => wt_HH_ir (fun x => ?_) (fun x => ?_))
    · have x' := wt_cle x
      exact hK5 _ ⟨rfl, ⟨by show 0 ≤ (q.2.1 + (1 : Int32)).toInt; omega, by show (q.2.1 + (1 : Int32)).toInt ≤ _; omega⟩, M _ (by rw [if_neg (by omega)])⟩
    · have x' := wt_ncle x
      refine wt_HH_r (wh_cell n (l := B) (i := Int32.toNatClampNeg q.2.1) ew.symm eq.symm hB26 (by omega)) (fun q24 h24 => ?_)
      rw [h24.1, wt_tnN h24.2, w123, ← c8]
      exact wt_HH_gr (fun _ => hK5 _ ⟨rfl, ⟨by show 0 ≤ (q.2.1 + (1 : Int32)).toInt; omega, by show (q.2.1 + (1 : Int32)).toInt ≤ _; omega⟩, M _ (by rw [if_pos x'])⟩)
  have h' := wt_cle h
  have pq : P B = q.1.toInt := by
    rw [hP, q3, show Int32.toNatClampNeg q.2.1 = Int32.toNatClampNeg (wt_ga s 7 B) by omega]
  have pb := hPb B hB26
  refine wt_HH_gr (fun _ => wt_HH_gr (fun _ => ?_))
  obtain ⟨s1, ε1⟩ : ∃ o : wt_St, o = wt_sa w.2.2.2 121 (13 * A + ic) (0 : Int32) := ⟨_, rfl⟩
  rw [← ε1]
  have f1 := wt_fr_sa ε1
  have r1' := wt_Rn3 wr ε1 (by decide) (by decide) (show 0 ≤ ((0 : Int32)).toInt by omega) (show ((0 : Int32)).toInt ≤ 400 by omega)
  have e111 : ∀ j, wt_ga s1 111 j = wt_ga w.2.2.2 111 j := f1.2 111 (by decide)
  have m1' : wt_M12 s1 := fun j => by rw [e111]; exact wm j
  have e111r : wt_ga w.2.2.2 111 A = wt_ga r.2.2.2 111 A := (wv.1 A).trans (kv.1 A).symm
  have pieces : ∀ j : Nat, (j : Int) < (wt_ga r.2.2.2 111 A).toInt → wt_ga w.2.2.2 121 (13 * A + j) = wt_ga r.2.2.2 121 (13 * A + j) ∧ wt_ga w.2.2.2 124 (13 * A + j) = wt_ga r.2.2.2 124 (13 * A + j) := fun j hj => by
    have hj' : (j : Int) < (wt_ga z1 111 A).toInt := by rw [← kv.1 A]; exact hj
    exact ⟨(wv.2 A j hA26 hj').1.trans (kv.2 A j hA26 hj').1.symm, (wv.2 A j hA26 hj').2.trans (kv.2 A j hA26 hj').2.symm⟩
  have LO := wr_leastOther n hn (x4 := r.2.2.1) (x6 := w.2.2.1) (p := q.1) ta ps wr wm wv wf er.symm hA26 ew.symm hB26 (by omega) (by omega) pq ε1 (by rw [e111r]; exact ic1) (by rw [(pieces ic ic1).2]; exact ic3) (fun j hj ho => by
    rw [e111r] at hj
    rw [(pieces ic ic1).1, (pieces j hj).1]
    rw [(pieces j hj).2] at ho
    exact ic4 j hj ho)
  refine wt_HH_b (wt_HH_andr LO (wt_H_and (wh_withOneR n hn r1' m1' ew.symm hB26 (by omega) (by omega)) (wq_md_withOne n hn w.2.2.1 q.1 s1 r1' m1' l5 (by omega) (by omega) (by omega)).h)) (fun q9 q18 h18 => ?_)
  obtain ⟨⟨⟨h19, h20⟩, h21⟩, ⟨⟨qr, qm⟩, q111, qc⟩, q8, -, -⟩ := h18
  have gc : 0 ≤ (wt_ga w.2.2.2 121 (13 * A + ic)).toInt ∧ (wt_ga w.2.2.2 121 (13 * A + ic)).toInt ≤ 400 := wt_Ra3 wr 121 (show 120 ≤ 121 by omega) (show 121 < 122 by omega) (13 * A + ic)
  refine wt_HH_gr (fun _ => ?_)
  obtain ⟨s2, ε2⟩ : ∃ o : wt_St, o = wt_sa q18.2 121 (13 * A + ic) (wt_ga w.2.2.2 121 (13 * A + ic)) := ⟨_, rfl⟩
  rw [← ε2]
  have f2 := wt_fr_sa ε2
  have r2 := wt_Rn3 qr ε2 (by decide) (by decide) gc.1 gc.2
  have a111 : ∀ j, wt_ga s2 111 j = wt_ga z1 111 j := fun j => (f2.2 111 (by decide) j).trans ((q111 j).trans ((e111 j).trans (wv.1 j)))
  have V : wu_KV z1 s2 := ⟨a111, fun l i hl hi => by
    have gB : 0 ≤ (wt_ga w.2.2.2 111 B).toInt ∧ (wt_ga w.2.2.2 111 B).toInt ≤ 13 := wt_Ra1 wr 111 (show 111 ≤ 111 by omega) (show 111 < 112 by omega) B
    have eB := wt_tnI gB.1
    have mB := wm B
    have ml := m1 l
    have evB := congrArg Int32.toInt (wv.1 B)
    have nc : 13 * l + i ≠ 13 * B + Int32.toNatClampNeg (wt_ga s1 111 B) := fun h => by
      rw [e111] at h
      have hll : l = B := by omega
      rw [hll] at hi
      omega
    obtain ⟨c1, c2⟩ := qc _ nc
    refine ⟨?_, ?_⟩
    · by_cases h : 13 * l + i = 13 * A + ic
      · rw [h, wt_v_sa ε2, ← h]
        exact (wv.2 l i hl hi).1
      · rw [wt_w_sa ε2 _ h, c1, wt_w_sa ε1 _ h]
        exact (wv.2 l i hl hi).1
    · rw [f2.2 124 (by decide), c2, f1.2 124 (by decide)]
      exact (wv.2 l i hl hi).2⟩
  have Mm : wt_M12 s2 := fun j => by rw [a111]; exact m1 j
  have F2 : wt_fr (fun _ _ => False) (fun i => i = 121 ∨ i = 124 ∨ i = 111) z1 s2 := ((wf.sa ε1 (Or.inl rfl)).tr q8 (fun _ _ h => h) (fun _ h => h)).sa ε2 (Or.inl rfl)
  have ecomm : (r.2.2.1 * (100 : Int32)) + w.2.2.1 = ((100 : Int32) * r.2.2.1) + w.2.2.1 := by rw [Int32.mul_comm]
  rw [h19, h20, ecomm]
  by_cases x : q18.1 ≤ w.1
  · rw [if_pos x, if_neg (show ¬ w.1 < q18.1 from fun h => by have := wt_clt h; have := wt_cle x; omega)]
    exact NX _ _ _ l7 r2 Mm V F2
  · rw [if_neg x, if_pos (show w.1 < q18.1 from Int32.lt_iff_toInt_lt.mpr (by have := wt_ncle x; omega))]
    exact NX _ _ _ (by rw [← h19]; exact h21) r2 Mm V F2
end WTQ1
