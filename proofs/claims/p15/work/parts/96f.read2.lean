/-! what a page reads: the class, and both -/
theorem wh_isFaint (n : Nat) (hn : 4294967297 < n) {j : Nat} {x : Int32} {s : wt_St} (hx : x.toInt = (j : Int)) (hj : j < 312) : wt_H (wp_pg_isFaint n x s) (fun q => q.2 = s ∧ ((q.1 = 1 ∧ wt_ga s 40 j < wt_gf s 4 7) ∨ (q.1 = 0 ∧ ¬ wt_ga s 40 j < wt_gf s 4 7))) := by
  unfold wp_pg_isFaint
  refine wt_H_bh (wh_look n hn (k := j) hx (by rw [show wt_ln 40 = 312 from by decide]; exact hj)) (fun q hq => ?_)
  subst hq
  dsimp only
  refine wt_H_if (fun c => ?_) (fun c => ?_)
  · have c' := wt_cle c
    exact wt_H_some ⟨rfl, Or.inr ⟨rfl, fun h => by have := wt_clt h; omega⟩⟩
  · have c' := wt_ncle c
    exact wt_H_some ⟨rfl, Or.inl ⟨rfl, Int32.lt_iff_toInt_lt.mpr c'⟩⟩
theorem wh_readLetter (n : Nat) (hn : 4294967297 < n) {x1 x2 x3 : Int32} {l m i0 : Nat} {s : wt_St} (hl : x2.toInt = (l : Int)) (hl26 : l < 26) (hm : (wt_ga s 5 l).toInt = (m : Int)) (h12 : m ≤ 12) (h0 : i0 < m) (p0 : wt_ga s 41 (12 * l + i0) = x1) (r0 : wt_ga s 42 (12 * l + i0) = x3) (un : ∀ i, i < m → wt_ga s 41 (12 * l + i) = x1 → wt_ga s 42 (12 * l + i) = x3 → i = i0) : wt_H (wp_pg_readLetter n x1 x2 x3 s) (fun q => q.2 = s ∧ q.1 = if wt_ga s 40 (12 * l + i0) < wt_gf s 4 7 ∧ ¬ wt_ga s 10 l = (-1 : Int32) then wt_ga s 10 l else x2) := by
  have k0 : (0 : Int32).toInt = 0 := by decide
  unfold wp_pg_readLetter
  refine wt_H_bh (wh_look n hn (k := l) hl (by rw [show wt_ln 10 = 26 from by decide]; exact hl26)) (fun q hq => ?_)
  subst hq
  dsimp only
  refine wt_H_it (fun t : Int32 × wt_St => t.2 = s ∧ 0 ≤ t.1.toInt ∧ t.1.toInt ≤ (i0 : Int)) (fun K t I hK => ?_) n _ ⟨rfl, by show 0 ≤ ((0 : Int32)).toInt; omega, by show ((0 : Int32)).toInt ≤ _; omega⟩
  obtain ⟨i1, i2, i3⟩ := I
  have et := wt_tnI i2
  unfold wp_pg_readLetter_B16
  rw [i1]
  refine wt_H_bh (wh_pieces n hn hl hl26) (fun q hq => ?_)
  subst hq
  dsimp only
  refine wt_H_if (fun c => absurd (wt_cle c) (by omega)) (fun c => ?_)
  have ei := wt_i1 (c := t.1) (by omega)
  have ep := wt_piece hl hl26 i2 (by omega)
  have NX : ¬ (wt_ga s 41 (12 * l + Int32.toNatClampNeg t.1) = x1 ∧ wt_ga s 42 (12 * l + Int32.toNatClampNeg t.1) = x3) → wt_H (wp_pg_readLetter_B92 n x1 x2 x3 (wt_ga s 10 l) t.1 K s) (fun q => q.2 = s ∧ q.1 = if wt_ga s 40 (12 * l + i0) < wt_gf s 4 7 ∧ ¬ wt_ga s 10 l = (-1 : Int32) then wt_ga s 10 l else x2) := fun h => by
    unfold wp_pg_readLetter_B92
    have ne : Int32.toNatClampNeg t.1 ≠ i0 := fun e => h ⟨by rw [e]; exact p0, by rw [e]; exact r0⟩
    exact hK _ ⟨rfl, by show 0 ≤ (t.1 + (1 : Int32)).toInt; omega, by show (t.1 + (1 : Int32)).toInt ≤ _; omega⟩
  refine wt_H_bh (wh_look n hn (k := 12 * l + Int32.toNatClampNeg t.1) ep (by rw [show wt_ln 41 = 312 from by decide]; omega)) (fun q hq => ?_)
  subst hq
  dsimp only
  refine wt_H_if (fun d => ?_) (fun d => NX (fun h => d h.1))
  refine wt_H_bh (wh_look n hn (k := 12 * l + Int32.toNatClampNeg t.1) ep (by rw [show wt_ln 42 = 312 from by decide]; omega)) (fun q hq => ?_)
  subst hq
  dsimp only
  refine wt_H_if (fun e => ?_) (fun e => NX (fun h => e h.2))
  have e0 := un (Int32.toNatClampNeg t.1) (by omega) d e
  rw [e0] at ep
  refine wt_H_bh (wh_isFaint n hn (j := 12 * l + i0) ep (by omega)) (fun q8 h8 => ?_)
  obtain ⟨e8, h8⟩ := h8
  rw [e8]
  rcases h8 with ⟨a, b⟩ | ⟨a, b⟩
  · rw [if_neg (show ¬ q8.1 = 0 by rw [a]; decide)]
    refine wt_H_if (fun f => wt_H_some ⟨rfl, ?_⟩) (fun f => wt_H_some ⟨rfl, ?_⟩)
    · rw [if_neg (show ¬ (wt_ga s 40 (12 * l + i0) < wt_gf s 4 7 ∧ ¬ wt_ga s 10 l = (-1 : Int32)) from fun h => h.2 f)]
    · rw [if_pos (show wt_ga s 40 (12 * l + i0) < wt_gf s 4 7 ∧ ¬ wt_ga s 10 l = (-1 : Int32) from ⟨b, f⟩)]
  · rw [if_pos (show q8.1 = 0 from a)]
    refine wt_H_some ⟨rfl, ?_⟩
    rw [if_neg (show ¬ (wt_ga s 40 (12 * l + i0) < wt_gf s 4 7 ∧ ¬ wt_ga s 10 l = (-1 : Int32)) from fun h => b h.1)]
/-- the letter that a page reads, by what stands alike -/
theorem wh_readLetterR (n : Nat) (hn : 4294967297 < n) {x1 L x3 : Int32} {g t i k : Nat} {s z : wt_St} (v : wt_IV z) (lc : wu_LC s z) (sc : wu_SC s z) (hx : x1.toInt = (g : Int)) (hg : g < 4) (st : (wt_ga z 275 g).toInt ≠ -1) (hL : L = wt_ga z (193 + wu_wd z t i) k) (h3 : x3.toInt = wu_su1 z t i L.toInt + wu_cw z (wu_wd z t i) k L.toInt) (h30 : 0 ≤ x3.toInt) (gL : 0 ≤ L.toInt ∧ L.toInt ≤ 25) (bd : x3.toInt < wt_ct (fun k' => (wt_ga z (278 + g) k').toInt / 13) L.toInt (Int32.toNatClampNeg (wt_ga z 276 g))) : wt_H (wp_pg_readLetter n x1 L x3 s) (fun q => q.2 = s ∧ wu_rh z t g i k q.1) := by
  have hK : 0 ≤ (wt_ga z 276 g).toInt ∧ (wt_ga z 276 g).toInt ≤ 108 := wt_Ra13 v.1 276 (show 276 ≤ 276 by omega) (show 276 < 277 by omega) g
  have eK := wt_tnI hK.1
  have eL := wt_tnI gL.1
  obtain ⟨kk, kk1, kk2, kk3⟩ := wt_ct_at (f := fun k' => (wt_ga z (278 + g) k').toInt / 13) (Int32.toNatClampNeg (wt_ga z 276 g)) h30 bd
  obtain ⟨l, i0, l1, l2, l12, l3, l4, l5, l6, l7, l8⟩ := wu_pm1 v sc hg st kk (by omega)
  have hPc : 0 ≤ (wt_ga z (278 + g) kk).toInt := (wt_Ra14 v.1 (278 + g) (show 278 ≤ 278 + g by omega) (show 278 + g < 282 by omega) kk).1
  have eP := wt_tnI hPc
  have kk2' : (wt_ga z (278 + g) kk).toInt / 13 = L.toInt := kk2
  have el : l = Int32.toNatClampNeg L := by omega
  obtain ⟨m1, m2, m3⟩ := lc.1 l l1
  have kk3' : wt_ct (fun k' => (wt_ga z (278 + g) k').toInt / 13) L.toInt kk = x3.toInt := kk3
  have lL : ((l : Nat) : Int) = L.toInt := by omega
  refine (wh_readLetter n hn (l := l) (m := Int32.toNatClampNeg (wt_ga s 5 l)) (i0 := i0) lL.symm l1 (wt_tnI m2).symm (by have := wt_tnI m2; omega) (by have := wt_tnI m2; rw [← m1] at l2; omega) (wt_eqI (by rw [l5, hx])) (wt_eqI (by rw [l8, lL, kk3'])) (fun i' hi' hp hr => ?_)).imp (fun q hq => ⟨hq.1, kk, by omega, ?_⟩)
  · -- one piece alone has this place and this rank
    have hp' := wt_ceq hp
    rw [hx] at hp'
    obtain ⟨l', i1, k1, q1, q2, q3, q4, q5⟩ := wu_pm2 v sc hg st (12 * l + i') (by have := wt_tnI m2; omega) hp'
    have := v.2.1 l'
    have h1 : l' = l ∧ i1 = i' := by have := wt_tnI m2; omega
    obtain ⟨l'', i2, p1, p2, p12, p3, p4, p5, p6, p7, p8⟩ := wu_pm1 v sc hg st k1 q4
    have h2 : l'' = l ∧ i2 = i' := by omega
    rw [h2.1, h2.2] at p8
    have hr' := wt_ceq hr
    rw [p8, lL] at hr'
    have e : k1 = kk := by
      have hP1 : 0 ≤ (wt_ga z (278 + g) k1).toInt := (wt_Ra14 v.1 (278 + g) (show 278 ≤ 278 + g by omega) (show 278 + g < 282 by omega) k1).1
      have eP1 := wt_tnI hP1
      have f1 : (wt_ga z (278 + g) k1).toInt / 13 = L.toInt := by omega
      rcases Nat.lt_trichotomy k1 kk with c | c | c
      · have := wt_ct_lt (f := fun k' => (wt_ga z (278 + g) k').toInt / 13) c f1
        omega
      · exact c
      · have := wt_ct_lt (f := fun k' => (wt_ga z (278 + g) k').toInt / 13) c kk2
        omega
    rw [e] at q5
    omega
  · rw [← hL]
    refine ⟨kk2, by rw [kk3']; exact h3, ?_⟩
    rw [hq.2, l3, ← el, l6]
    have lk := lc.2.2.2.1 l l1
    have fa := lc.2.2.2.2.2
    rw [lk, fa]
def wu_rs (s z : wt_St) (t g i N : Nat) (x : Int32) : Prop := ∃ R : Nat → Int32, (∀ k : Nat, (k : Int) < (wt_ga z 126 (wu_wd z t i)).toInt → wu_rh z t g i k (R k)) ∧ wt_fst N (fun w => wt_ga s 22 w = wt_ga z 126 (wu_wd z t i) ∧ ∀ k : Nat, (k : Int) < (wt_ga z 126 (wu_wd z t i)).toInt → wt_ga s 21 (9 * w + k) = R k) x
set_option maxRecDepth 100000 in
set_option maxHeartbeats 8000000 in
theorem wh_readAs (n : Nat) (hn : 4294967297 < n) {x1 x2 : Int32} {g t i m N : Nat} {s z : wt_St} (v : wt_IV z) (hN : (wt_gf s 20 6).toInt = (N : Int)) (hN' : (wt_gf z 108 28).toInt = (N : Int)) (hN6 : N ≤ 60) (tt : wt_tt 20 126 128 130 193 N s z) (X : wu_X1 s z t) (lc : wu_LC s z) (sc : wu_SC s z) (hx : x1.toInt = (g : Int)) (hg : g < 4) (st : (wt_ga z 275 g).toInt = (t : Int)) (ht8 : t < 8) (hm : (wt_ga z 253 t).toInt = (m : Int)) (h2 : x2.toInt = (i : Int)) (him : i < m) (nt : ∀ l : Int, 0 ≤ l → l < 26 → wt_nt z t l ≤ wt_pc z g l) : wt_H (wp_pg_readAs n x1 x2 s) (fun q => wt_fr (fun _ _ => False) (fun i => i = 79 ∨ i = 80) s q.2 ∧ wu_rs s z t g i N q.1) := by
  have k0 : (0 : Int32).toInt = 0 := by decide
  obtain ⟨m', X1, X2, X3, X4, X5, -⟩ := X
  have em : m' = m := by rw [X2, X1] at hm; omega
  rw [em] at X1 X5 X4
  have pg : wt_ga s 43 g = wt_ga z 275 g := (sc.2.2.2 g hg).1
  unfold wp_pg_readAs
  refine wt_H_bh (wh_look n hn (k := g) hx (by rw [show wt_ln 43 = 4 from by decide]; exact hg)) (fun q hq => ?_)
  subst hq
  dsimp only
  refine wt_H_bh (wh_fillRow n) (fun s0 h0 => ?_)
  obtain ⟨f0, z0⟩ := h0
  -- what is alike stays alike
  have LC : ∀ σ, wt_fr (fun _ _ => False) (fun i => i = 79 ∨ i = 80) s σ → wu_LC σ z := fun σ f => wu_LC_fr lc f (wt_fr.rf (F := fun _ _ => False) (A := fun _ => False)) (fun h => h) (fun i hi => by (try dsimp only); omega) (fun h => h) (fun _ _ h => h)
  have SC : ∀ σ, wt_fr (fun _ _ => False) (fun i => i = 79 ∨ i = 80) s σ → wu_SC σ z := fun σ f => wu_SC_fr sc f (wt_fr.rf (F := fun _ _ => False) (A := fun _ => False)) (fun _ _ h => h) (fun _ _ h => h) (fun i p q => by (try dsimp only); omega) (fun _ _ h => h)
  -- the word at a place
  have WA : ∀ (σ : wt_St) (j : Nat) (x : Int32), wt_fr (fun _ _ => False) (fun i => i = 79 ∨ i = 80) s σ → x.toInt = (j : Int) → j < m → wt_H (wp_tx_wordAt n (wt_ga s 43 g) x σ) (fun q => q = (wt_ga z (255 + t) j, σ)) := fun σ j x f hj hjm => by
    refine (wh_wordAt n hn (t := t) (m := m) (by rw [pg]; exact st) ht8 (by rw [f.2 36 (by decide)]; exact X1) X4).imp (fun q hq => ?_)
    obtain ⟨a, b⟩ := hq
    rcases b with ⟨j', b1, b2, b3⟩ | ⟨b1, b2⟩
    · have e : j' = j := by omega
      rw [e, f.2 35 (by decide), (X5 j hjm).1] at b3
      exact Prod.ext b3 a
    · omega
  refine wt_H_it (fun a : Int32 × wt_St => (0 ≤ a.1.toInt ∧ a.1.toInt ≤ (i : Int)) ∧ wt_fr (fun _ _ => False) (fun i => i = 79 ∨ i = 80) s a.2 ∧ ∀ l : Nat, l < 26 → (wt_ga a.2 79 l).toInt = wu_su1 z t (Int32.toNatClampNeg a.1) (l : Int)) (fun K a I hK => ?_) n _ ⟨⟨by show 0 ≤ ((0 : Int32)).toInt; omega, by show ((0 : Int32)).toInt ≤ _; omega⟩, wt_frw f0 (fun i k h => h) (fun i h => Or.inl h), fun l hl => by show (wt_ga s0 79 l).toInt = wu_su1 z t (Int32.toNatClampNeg (0 : Int32)) (l : Int); rw [z0 l (by rw [show wt_ln 79 = 26 from by decide]; exact hl), wt_tn0]; exact k0⟩
  obtain ⟨⟨a1, a2⟩, af, a3⟩ := I
  have ea := wt_tnI a1
  unfold wp_pg_readAs_B23
  refine wt_H_if (fun c => ?_) (fun c => ?_)
  · have c' := wt_cle c
    have E : Int32.toNatClampNeg a.1 = i := by omega
    rw [E] at a3
    refine wt_H_bh (WA a.2 i x2 af h2 him) (fun q hq => ?_)
    subst hq
    dsimp only
    obtain ⟨y1, y2, y3⟩ := X5 i him
    rw [y1] at y2 y3
    have ew := wt_tnI y2
    obtain ⟨w, hw⟩ : ∃ w : Nat, w = wu_wd z t i := ⟨_, rfl⟩
    have hw' : Int32.toNatClampNeg (wt_ga z (255 + t) i) = w := hw.symm
    rw [hw'] at ew
    have hwN : w < N := by omega
    obtain ⟨l1, -, -, l2, -, l3⟩ := tt w hwN
    have l1' : wt_ga s 22 w = wt_ga z 126 w := l1
    have l2' : 1 ≤ (wt_ga z 126 w).toInt ∧ (wt_ga z 126 w).toInt ≤ 9 := by rw [← l1']; exact l2
    refine wt_H_bh (wh_look n hn (k := w) ew.symm (by rw [show wt_ln 22 = 60 from by decide]; omega)) (fun q hq => ?_)
    subst hq
    dsimp only
    rw [af.2 22 (by decide), l1']
    have el := wt_tnI (x := wt_ga z 126 w) (by omega)
    refine wt_H_it (fun b : Int32 × wt_St => (0 ≤ b.1.toInt ∧ b.1.toInt ≤ (wt_ga z 126 w).toInt) ∧ wt_fr (fun _ _ => False) (fun i => i = 79 ∨ i = 80) s b.2 ∧ (∀ l : Nat, l < 26 → (wt_ga b.2 79 l).toInt = wu_su1 z t i (l : Int) + wu_cw z w (Int32.toNatClampNeg b.1) (l : Int)) ∧ ∀ j : Nat, (j : Int) < b.1.toInt → wu_rh z t g i j (wt_ga b.2 80 j)) (fun K2 b I hK2 => ?_) n _ ⟨⟨by show 0 ≤ ((0 : Int32)).toInt; omega, by show ((0 : Int32)).toInt ≤ _; omega⟩, af, fun l hl => by rw [a3 l hl]; show wu_su1 z t i (l : Int) = wu_su1 z t i (l : Int) + wu_cw z w (Int32.toNatClampNeg (0 : Int32)) (l : Int); rw [wt_tn0]; show wu_su1 z t i (l : Int) = wu_su1 z t i (l : Int) + 0; omega, fun j hj => absurd (show (j : Int) < ((0 : Int32)).toInt from hj) (by omega)⟩
    obtain ⟨⟨b1, b2⟩, bf, b3, b4⟩ := I
    have eb := wt_tnI b1
    unfold wp_pg_readAs_B84
    refine wt_H_if (fun d => ?_) (fun d => ?_)
    · have d' := wt_cle d
      have E2 : b.1.toInt = (wt_ga z 126 w).toInt := by omega
      refine wt_H_bh (wh_find n hn (t0 := 20) (a1 := 80) (N := N) (m := Int32.toNatClampNeg (wt_ga z 126 w)) (by decide) (by decide) (by decide) (by rw [bf.1 20 6 (fun h => h)]; exact hN) hN6 el.symm (by omega)) (fun q hq => ?_)
      obtain ⟨e1, hq⟩ := hq
      refine wt_H_some ⟨by show wt_fr _ _ s q.2; rw [e1]; exact bf, fun k => wt_ga b.2 80 k, fun k hk => b4 k (by rw [← hw] at hk; omega), ?_⟩
      have P : ∀ u, u < N → (wt_sp b.2 20 80 (wt_ga z 126 w) (Int32.toNatClampNeg (wt_ga z 126 w)) u ↔ (wt_ga s 22 u = wt_ga z 126 (wu_wd z t i) ∧ ∀ k : Nat, (k : Int) < (wt_ga z 126 (wu_wd z t i)).toInt → wt_ga s 21 (9 * u + k) = wt_ga b.2 80 k)) := fun u hu => by
        unfold wt_sp
        rw [← hw, bf.2 (20 + 2) (by decide)]
        constructor
        · intro h
          exact ⟨h.1, fun k hk => by rw [← bf.2 21 (by decide)]; exact h.2 k (by omega)⟩
        · intro h
          exact ⟨h.1, fun k hk => by rw [bf.2 (20 + 1) (by decide)]; exact h.2 k (by omega)⟩
      show wt_fst N _ q.1
      rcases hq with ⟨u, p1, p2, p3, p4⟩ | ⟨p1, p2⟩
      · exact Or.inl ⟨u, p1, p2, (P u p1).mp p3, fun x hx' h => p4 x hx' ((P x (by omega)).mpr h)⟩
      · exact Or.inr ⟨p1, fun x hx' h => p2 x hx' ((P x hx').mpr h)⟩
    · have d' := wt_ncle d
      have ebi := wt_i1 (c := b.1) (by omega)
      have enb : Int32.toNatClampNeg (b.1 + (1 : Int32)) = Int32.toNatClampNeg b.1 + 1 := by have := wt_tnI (x := b.1 + (1 : Int32)) (by omega); omega
      obtain ⟨k, hk⟩ : ∃ k : Nat, k = Int32.toNatClampNeg b.1 := ⟨_, rfl⟩
      rw [← hk] at eb b3 enb
      obtain ⟨L, hL⟩ : ∃ L : Int32, L = wt_ga z (193 + w) k := ⟨_, rfl⟩
      obtain ⟨q1, q2, q3⟩ := l3 k (by show (k : Int) < (wt_ga s 22 w).toInt; rw [l1']; omega)
      have q1' : wt_ga s 21 (9 * w + k) = L := by rw [hL]; exact q1
      have gL : 0 ≤ L.toInt ∧ L.toInt ≤ 25 := by rw [← q1']; exact ⟨q2, q3⟩
      have eL := wt_tnI gL.1
      refine wt_H_bh (wh_letterAt n hn (t0 := 20) (by decide) ew.symm (by omega) (k := k) (by omega) (by omega)) (fun q hq => ?_)
      subst hq
      dsimp only
      rw [bf.2 (20 + 1) (by decide), show wt_ga s (20 + 1) (9 * w + k) = L from q1']
      refine wt_H_bh (wh_look n hn (k := Int32.toNatClampNeg L) eL.symm (by rw [show wt_ln 79 = 26 from by decide]; omega)) (fun q hq => ?_)
      subst hq
      dsimp only
      have b3L := b3 (Int32.toNatClampNeg L) (by omega)
      rw [eL] at b3L
      have S0 := wu_su1_bd z t i L.toInt v.1
      have C0 : 0 ≤ wu_cw z w k L.toInt ∧ wu_cw z w k L.toInt ≤ k := wt_ct_bd _ _ _
      have BD := wu_rh_bd (z := z) (t := t) (g := g) (i := i) (k := k) (m := m) (len := Int32.toNatClampNeg (wt_ga z 126 w)) (by rw [← hw, ← hL]; exact nt _ gL.1 (by omega)) hm him (by rw [← hw]; exact el.symm) (by omega) v.1
      rw [← hw, ← hL] at BD
      refine wt_H_bh (wh_readLetterR n hn v (LC b.2 bf) (SC b.2 bf) hx hg (by rw [st]; omega) (t := t) (i := i) (k := k) (by rw [← hw]; exact hL) (by rw [← hw]; exact b3L) (by omega) gL (by omega)) (fun q10 h10 => ?_)
      obtain ⟨e10, h10⟩ := h10
      rw [e10]
      refine wt_H_bh (wh_put n (k := k) (by omega) (by rw [show wt_ln 80 = 9 from by decide]; omega)) (fun s1 ε1 => ?_)
      refine wt_H_bh (wh_put n (k := Int32.toNatClampNeg L) eL.symm (by rw [show wt_ln 79 = 26 from by decide]; omega)) (fun s2 ε2 => ?_)
      have f1 := wt_fr_sa ε1
      have f2 := wt_fr_sa ε2
      refine hK2 _ ⟨⟨by show 0 ≤ (b.1 + (1 : Int32)).toInt; omega, by show (b.1 + (1 : Int32)).toInt ≤ _; omega⟩, (bf.sa ε1 (Or.inr rfl)).sa ε2 (Or.inl rfl), fun l hl => ?_, fun j hj => ?_⟩
      · show (wt_ga s2 79 l).toInt = wu_su1 z t i (l : Int) + wu_cw z w (Int32.toNatClampNeg (b.1 + (1 : Int32))) (l : Int)
        rw [enb]
        have ec : wu_cw z w (k + 1) (l : Int) = wu_cw z w k (l : Int) + if (wt_ga z (193 + w) k).toInt = (l : Int) then 1 else 0 := rfl
        rw [ec, ← hL]
        by_cases h : l = Int32.toNatClampNeg L
        · rw [if_pos (by omega), h, wt_v_sa ε2]
          have := wt_i1 (c := wt_ga b.2 79 (Int32.toNatClampNeg L)) (by omega)
          rw [eL]
          omega
        · rw [if_neg (by omega), wt_w_sa ε2 l h, f1.2 79 (by decide), b3 l hl]
          omega
      · have hj' : (j : Int) < (b.1 + (1 : Int32)).toInt := hj
        show wu_rh z t g i j (wt_ga s2 80 j)
        rw [f2.2 80 (by decide)]
        by_cases h : j = k
        · rw [h, wt_v_sa ε1]; exact h10
        · rw [wt_w_sa ε1 j h]; exact b4 j (by omega)
  · have c' := wt_ncle c
    have ei := wt_i1 (c := a.1) (by omega)
    have en : Int32.toNatClampNeg (a.1 + (1 : Int32)) = Int32.toNatClampNeg a.1 + 1 := by have := wt_tnI (x := a.1 + (1 : Int32)) (by omega); omega
    obtain ⟨j, hj⟩ : ∃ j : Nat, j = Int32.toNatClampNeg a.1 := ⟨_, rfl⟩
    rw [← hj] at ea a3 en
    have hjm : j < m := by omega
    refine wt_H_bh (WA a.2 j a.1 af ea.symm hjm) (fun q hq => ?_)
    subst hq
    dsimp only
    obtain ⟨y1, y2, y3⟩ := X5 j hjm
    rw [y1] at y2 y3
    have ew := wt_tnI y2
    obtain ⟨w, hw⟩ : ∃ w : Nat, w = wu_wd z t j := ⟨_, rfl⟩
    have hw' : Int32.toNatClampNeg (wt_ga z (255 + t) j) = w := hw.symm
    rw [hw'] at ew
    have hwN : w < N := by omega
    obtain ⟨l1, -, -, l2, -, l3⟩ := tt w hwN
    obtain ⟨ml, hml⟩ : ∃ ml : Nat, (ml : Int) = (wt_ga s (20 + 2) w).toInt := ⟨Int32.toNatClampNeg (wt_ga s (20 + 2) w), wt_tnI (by omega)⟩
    have S0 : ∀ l : Int, 0 ≤ wu_su1 z t j l ∧ wu_su1 z t j l ≤ 9 * j := fun l => wu_su1_bd z t j l v.1
    refine wt_H_bh (wh_countInto n hn (t0 := 20) (a2 := 79) (w := w) (m := ml) (c := 1000) (by decide) (by decide) (by decide) (by decide) (by decide) ew.symm (by omega) (by rw [af.2 (20 + 2) (by decide)]; exact hml.symm) (by omega) (fun k hk => by rw [af.2 (20 + 1) (by decide)]; exact (l3 k (by omega)).2) (fun l hl => by rw [a3 l hl]; have := S0 (l : Int); omega) (by omega)) (fun s1 h1 => ?_)
    obtain ⟨f1, n1⟩ := h1
    refine hK _ ⟨⟨by show 0 ≤ (a.1 + (1 : Int32)).toInt; omega, by show (a.1 + (1 : Int32)).toInt ≤ _; omega⟩, wt_fr.tr af f1 (fun i k h => h) (fun i h => Or.inl h), fun l hl => ?_⟩
    show (wt_ga s1 79 l).toInt = wu_su1 z t (Int32.toNatClampNeg (a.1 + (1 : Int32))) (l : Int)
    rw [en, wu_su1_s, n1 l hl, a3 l hl, ← hw, ← wt_nw_tt tt hwN hml.symm]
    have e : wt_ct (fun k => (wt_ga a.2 (20 + 1) (9 * w + k)).toInt) (l : Int) ml = wt_ct (fun k => (wt_ga s 21 (9 * w + k)).toInt) (l : Int) ml := wt_ct_congr ml (fun k _ => by show (wt_ga a.2 (20 + 1) (9 * w + k)).toInt = (wt_ga s (20 + 1) (9 * w + k)).toInt; rw [af.2 (20 + 1) (by decide)])
    rw [e]
/-- the same word is read on both sides -/
theorem wu_rs_rr {s z : wt_St} {t g i N : Nat} {x y : Int32} (tt : wt_tt 20 126 128 130 193 N s z) (h : wu_rs s z t g i N x) (h' : wu_rr z t g i N y) : x = y := by
  obtain ⟨R, r1, r2⟩ := h
  obtain ⟨R', r1', r2'⟩ := h'
  refine wt_fst_u r2 r2' (fun w hw => ?_)
  obtain ⟨l1, -, -, -, -, l3⟩ := tt w hw
  have l1' : wt_ga s 22 w = wt_ga z 126 w := l1
  rw [l1']
  constructor
  · intro h
    refine ⟨h.1, fun k hk => ?_⟩
    have a := (l3 k (by show (k : Int) < (wt_ga s 22 w).toInt; rw [l1', h.1]; exact hk)).1
    have a' : wt_ga s 21 (9 * w + k) = wt_ga z (193 + w) k := a
    rw [← a', h.2 k hk]
    exact wu_rh_u (r1 k hk) (r1' k hk)
  · intro h
    refine ⟨h.1, fun k hk => ?_⟩
    have a := (l3 k (by show (k : Int) < (wt_ga s 22 w).toInt; rw [l1', h.1]; exact hk)).1
    have a' : wt_ga s 21 (9 * w + k) = wt_ga z (193 + w) k := a
    rw [a', h.2 k hk]
    exact wu_rh_u (r1' k hk) (r1 k hk)
