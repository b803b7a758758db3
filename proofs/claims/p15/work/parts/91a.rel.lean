/-! all that stands between two calls, on both sides -/
def wu_SH (hb Hb : Int32) : Prop := hb = Hb ∧ 0 ≤ hb.toInt ∧ hb.toInt ≤ 1
def wu_SW (T : Int) (w0 w1 w2 w3 : Nat → Int32) (wn : Int32) (Wt : Nat → Nat → Int32) (Wn : Int32) : Prop := wn = Wn ∧ (0 ≤ wn.toInt ∧ wn.toInt ≤ 10) ∧ ∀ k : Nat, (k : Int) < wn.toInt → (w0 k = Wt k 0 ∧ w1 k = Wt k 1 ∧ w2 k = Wt k 2 ∧ w3 k = Wt k 3) ∧ (0 ≤ (w0 k).toInt ∧ (w0 k).toInt < T) ∧ (1 ≤ (w1 k).toInt ∧ (w1 k).toInt ≤ 400) ∧ (0 ≤ (w2 k).toInt ∧ (w2 k).toInt ≤ 99) ∧ 1 ≤ (w3 k).toInt ∧ (w3 k).toInt ≤ 999
def wu_SP (mn lf pl Lf On Pt : Nat → Int32) : Prop := ∀ l, l < 26 → (∀ i : Nat, (i : Int) < (mn l).toInt → lf (12 * l + i) = Lf (13 * l + i) ∧ pl (12 * l + i) = On (13 * l + i) ∧ ((On (13 * l + i)).toInt = -1 ∨ ∃ g, g < 4 ∧ (On (13 * l + i)).toInt = ((g : Nat) : Int) ∧ (Pt g).toInt ≠ -1)) ∧ ∀ i : Nat, i < 12 → (mn l).toInt ≤ (i : Int) → (pl (12 * l + i)).toInt = -1
def wu_SG (mn rk pt On Pt Pm : Nat → Int32) (Pc : Nat → Nat → Int32) : Prop := ∀ g, g < 4 → pt g = Pt g ∧ ((Pt g).toInt ≠ -1 → (∀ k : Nat, (k : Int) < (Pm g).toInt → ∃ l i : Nat, l < 26 ∧ (i : Int) < (mn l).toInt ∧ (Pc g k).toInt = ((13 * l + i : Nat) : Int) ∧ (On (13 * l + i)).toInt = (g : Int) ∧ (rk (12 * l + i)).toInt = wt_ct (fun k' => (Pc g k').toInt / 13) (l : Int) k) ∧ ∀ l i : Nat, l < 26 → (i : Int) < (mn l).toInt → (On (13 * l + i)).toInt = (g : Int) → ∃ k : Nat, (k : Int) < (Pm g).toInt ∧ (Pc g k).toInt = ((13 * l + i : Nat) : Int))
def wu_SS (s : wt_St) (b : Nat) (mn : Nat → Int32) (T : Int) (Lf On Pt Pm : Nat → Int32) (Pc Wt : Nat → Nat → Int32) (Wn Hb : Int32) : Prop := wu_SH (wt_gf s b 9) Hb ∧ wu_SW T (wt_ga s (b + 5)) (wt_ga s (b + 6)) (wt_ga s (b + 7)) (wt_ga s (b + 8)) (wt_gf s b 8) Wt Wn ∧ wu_SP mn (wt_ga s (b + 1)) (wt_ga s (b + 2)) Lf On Pt ∧ wu_SG mn (wt_ga s (b + 3)) (wt_ga s (b + 4)) On Pt Pm Pc
/-- what is now -/
def wu_SC (s z : wt_St) : Prop := wu_SS s 39 (wt_ga z 111) (wt_gf z 108 39).toInt (wt_ga z 121) (wt_ga z 124) (wt_ga z 275) (wt_ga z 276) (fun g => wt_ga z (278 + g)) (fun k => wt_ga z (264 + k)) (wt_gf z 108 40) (wt_gf z 108 26)
/-- an image -/
def wu_S1 (s z : wt_St) (i : Nat) : Prop := wu_SS s (49 + 9 * i) (wt_ga z 111) (wt_gf z 108 39).toInt (fun c => wt_ga z (283 + i) (2 + 2 * c)) (fun c => wt_ga z (283 + i) (3 + 2 * c)) (fun g => wt_ga z (283 + i) (678 + 110 * g)) (fun g => wt_ga z (283 + i) (679 + 110 * g)) (fun g k => wt_ga z (283 + i) (680 + 110 * g + k)) (fun k j => wt_ga z (283 + i) (1118 + 4 * k + j)) (wt_ga z (283 + i) 1) (wt_ga z (283 + i) 0)
def wu_SI (s z : wt_St) : Prop := wt_gf s 0 14 = wt_gf z 108 41 ∧ ∀ i : Nat, (i : Int) < (wt_gf z 108 41).toInt → wu_S1 s z i
/-- the case as it was told -/
def wu_LC (s z : wt_St) : Prop := (∀ l, l < 26 → wt_ga s 5 l = wt_ga z 111 l ∧ 0 ≤ (wt_ga s 5 l).toInt ∧ (wt_ga s 5 l).toInt ≤ 12) ∧ wt_pr s z 7 8 113 123 ∧ (∀ l, l < 26 → wt_ga s 9 l = wt_ga z 115 l) ∧ (∀ l, l < 26 → wt_ga s 10 l = wt_ga z 117 l) ∧ (∀ m, m < 4 → wt_ga s 11 m = wt_ga z 119 m) ∧ wt_gf s 4 7 = wt_gf z 108 25
/-- the texts -/
def wu_X1 (s z : wt_St) (t : Nat) : Prop := ∃ m : Nat, (wt_ga s 36 t).toInt = (m : Int) ∧ wt_ga z 253 t = wt_ga s 36 t ∧ 1 ≤ m ∧ m ≤ 12 ∧ (∀ i, i < m → wt_ga s 35 (12 * t + i) = wt_ga z (255 + t) i ∧ 0 ≤ (wt_ga s 35 (12 * t + i)).toInt ∧ (wt_ga s 35 (12 * t + i)).toInt < (wt_gf z 108 28).toInt) ∧ ∀ l, l < 26 → (wt_ga s 37 (26 * t + l)).toInt = wt_nt z t (l : Int)
def wu_TX (s z : wt_St) : Prop := wt_gf s 34 4 = wt_gf z 108 39 ∧ ∀ t : Nat, (t : Int) < (wt_gf z 108 39).toInt → wu_X1 s z t
def wu_RL (s z : wt_St) : Prop := (∀ j, j < 500 → wt_ga s 2 j = wt_ga z 109 j) ∧ wt_gf s 1 7 = wt_gf z 108 3 ∧ wt_TO s z ∧ wu_LC s z ∧ wu_TX s z ∧ wu_SC s z ∧ wu_SI s z
/-! what leaves all that alone -/
theorem wu_SW_le {T T' : Int} {w0 w1 w2 w3 : Nat → Int32} {wn : Int32} {Wt : Nat → Nat → Int32} {Wn : Int32} (h : wu_SW T w0 w1 w2 w3 wn Wt Wn) (hT : T ≤ T') : wu_SW T' w0 w1 w2 w3 wn Wt Wn := ⟨h.1, h.2.1, fun k hk => by
  obtain ⟨a, b, c⟩ := h.2.2 k hk
  exact ⟨a, ⟨b.1, by omega⟩, c⟩⟩
theorem wu_SS_eq {s s' : wt_St} {b : Nat} {mn : Nat → Int32} {T T' : Int} {Lf On Pt Pm : Nat → Int32} {Pc Wt : Nat → Nat → Int32} {Wn Hb : Int32} (h : wu_SS s b mn T Lf On Pt Pm Pc Wt Wn Hb) (ea : ∀ i, b < i → i < b + 9 → ∀ j, wt_ga s' i j = wt_ga s i j) (e8 : wt_gf s' b 8 = wt_gf s b 8) (e9 : wt_gf s' b 9 = wt_gf s b 9) (eT : T ≤ T') : wu_SS s' b mn T' Lf On Pt Pm Pc Wt Wn Hb := by
  obtain ⟨h1, h2, h3, h4⟩ := h
  have A : ∀ i, b < i → i < b + 9 → wt_ga s' i = wt_ga s i := fun i p q => funext (ea i p q)
  unfold wu_SS
  rw [e8, e9, A (b + 1) (by omega) (by omega), A (b + 2) (by omega) (by omega), A (b + 3) (by omega) (by omega), A (b + 4) (by omega) (by omega), A (b + 5) (by omega) (by omega), A (b + 6) (by omega) (by omega), A (b + 7) (by omega) (by omega), A (b + 8) (by omega) (by omega)]
  exact ⟨h1, wu_SW_le h2 eT, h3, h4⟩
/-- the cells of which an image speaks -/
theorem wu_SI_eq {s s' z z' : wt_St} (h : wu_SI s z) (e0 : wt_gf s' 0 14 = wt_gf s 0 14) (e41 : wt_gf z' 108 41 = wt_gf z 108 41) (ea : ∀ i, 49 < i → i < 76 → ∀ j, wt_ga s' i j = wt_ga s i j) (ef : ∀ i, i = 49 ∨ i = 58 ∨ i = 67 → wt_gf s' i 8 = wt_gf s i 8 ∧ wt_gf s' i 9 = wt_gf s i 9) (ek : ∀ i, 283 ≤ i → i < 286 → ∀ j, wt_ga z' i j = wt_ga z i j) (em : ∀ j, wt_ga z' 111 j = wt_ga z 111 j) (eT : (wt_gf z 108 39).toInt ≤ (wt_gf z' 108 39).toInt) (h3 : (wt_gf z 108 41).toInt ≤ 3) : wu_SI s' z' := by
  refine ⟨by rw [e0, e41]; exact h.1, fun i hi => ?_⟩
  rw [e41] at hi
  have h1 := h.2 i hi
  have ek' : wt_ga z' (283 + i) = wt_ga z (283 + i) := funext (ek _ (by omega) (by omega))
  have em' : wt_ga z' 111 = wt_ga z 111 := funext em
  unfold wu_S1
  rw [ek', em']
  have hf := ef (49 + 9 * i) (by omega)
  exact wu_SS_eq h1 (fun j p q => ea j (by omega) (by omega)) hf.1 hf.2 eT
theorem wu_SI_fr {s s' z z' : wt_St} {F F' : Nat → Nat → Prop} {A A' : Nat → Prop} (h : wu_SI s z) (f : wt_fr F A s s') (g : wt_fr F' A' z z') (h3 : (wt_gf z 108 41).toInt ≤ 3) (hF : ∀ i k, (i = 0 ∧ k = 14) ∨ i = 49 ∨ i = 58 ∨ i = 67 → ¬ F i k) (hF' : ∀ k, k = 41 ∨ k = 39 → ¬ F' 108 k) (hA : ∀ i, 49 < i → i < 76 → ¬ A i) (hA' : ∀ i, (283 ≤ i ∧ i < 286) ∨ i = 111 → ¬ A' i) : wu_SI s' z' := wu_SI_eq h (f.1 0 14 (hF 0 14 (by omega))) (g.1 108 41 (hF' 41 (by omega))) (fun i p q => f.2 i (hA i p q)) (fun i hi => ⟨f.1 i 8 (hF i 8 (by omega)), f.1 i 9 (hF i 9 (by omega))⟩) (fun i p q => g.2 i (hA' i (by omega))) (g.2 111 (hA' 111 (by omega))) (by rw [g.1 108 39 (hF' 39 (by omega))]; exact Int.le_refl _) h3
theorem wu_SC_eq {s s' z z' : wt_St} (h : wu_SC s z) (ea : ∀ i, 39 < i → i < 48 → ∀ j, wt_ga s' i j = wt_ga s i j) (ea' : ∀ i, i = 121 ∨ i = 124 ∨ i = 275 ∨ i = 276 ∨ (278 ≤ i ∧ i < 282) ∨ (264 ≤ i ∧ i < 274) ∨ i = 111 → ∀ j, wt_ga z' i j = wt_ga z i j) (ef : ∀ k, k = 8 ∨ k = 9 → wt_gf s' 39 k = wt_gf s 39 k) (ef' : ∀ k, k = 40 ∨ k = 26 → wt_gf z' 108 k = wt_gf z 108 k) (eT : (wt_gf z 108 39).toInt ≤ (wt_gf z' 108 39).toInt) : wu_SC s' z' := by
  have A : ∀ i, 39 < i → i < 48 → wt_ga s' i = wt_ga s i := fun i p q => funext (ea i p q)
  have A' : ∀ i, i = 121 ∨ i = 124 ∨ i = 275 ∨ i = 276 ∨ (278 ≤ i ∧ i < 282) ∨ (264 ≤ i ∧ i < 274) ∨ i = 111 → wt_ga z' i = wt_ga z i := fun i hi => funext (ea' i hi)
  obtain ⟨h1, h2, h3, h4⟩ := h
  refine ⟨?_, ?_, ?_, ?_⟩
  · rw [ef 9 (by omega), ef' 26 (by omega)]; exact h1
  · rw [ef 8 (by omega), ef' 40 (by omega), A (39 + 5) (by omega) (by omega), A (39 + 6) (by omega) (by omega), A (39 + 7) (by omega) (by omega), A (39 + 8) (by omega) (by omega)]
    refine ⟨h2.1, h2.2.1, fun k hk => ?_⟩
    obtain ⟨a, b, c⟩ := h2.2.2 k hk
    have g := h2.2.1
    refine ⟨?_, ⟨b.1, by omega⟩, c⟩
    show wt_ga s (39 + 5) k = wt_ga z' (264 + k) 0 ∧ wt_ga s (39 + 6) k = wt_ga z' (264 + k) 1 ∧ wt_ga s (39 + 7) k = wt_ga z' (264 + k) 2 ∧ wt_ga s (39 + 8) k = wt_ga z' (264 + k) 3
    rw [A' (264 + k) (by omega)]
    exact a
  · rw [A' 111 (by omega), A (39 + 1) (by omega) (by omega), A (39 + 2) (by omega) (by omega), A' 121 (by omega), A' 124 (by omega), A' 275 (by omega)]; exact h3
  · rw [A' 111 (by omega), A (39 + 3) (by omega) (by omega), A (39 + 4) (by omega) (by omega), A' 124 (by omega), A' 275 (by omega), A' 276 (by omega)]
    intro g hg
    show wt_ga s (39 + 4) g = wt_ga z 275 g ∧ ((wt_ga z 275 g).toInt ≠ -1 → (∀ k : Nat, (k : Int) < (wt_ga z 276 g).toInt → ∃ l i : Nat, l < 26 ∧ (i : Int) < (wt_ga z 111 l).toInt ∧ (wt_ga z' (278 + g) k).toInt = ((13 * l + i : Nat) : Int) ∧ (wt_ga z 124 (13 * l + i)).toInt = (g : Int) ∧ (wt_ga s (39 + 3) (12 * l + i)).toInt = wt_ct (fun k' => (wt_ga z' (278 + g) k').toInt / 13) (l : Int) k) ∧ ∀ l i : Nat, l < 26 → (i : Int) < (wt_ga z 111 l).toInt → (wt_ga z 124 (13 * l + i)).toInt = (g : Int) → ∃ k : Nat, (k : Int) < (wt_ga z 276 g).toInt ∧ (wt_ga z' (278 + g) k).toInt = ((13 * l + i : Nat) : Int))
    rw [A' (278 + g) (by omega)]
    exact h4 g hg
theorem wu_SC_fr {s s' z z' : wt_St} {F F' : Nat → Nat → Prop} {A A' : Nat → Prop} (h : wu_SC s z) (f : wt_fr F A s s') (g : wt_fr F' A' z z') (hF : ∀ k, k = 8 ∨ k = 9 → ¬ F 39 k) (hF' : ∀ k, k = 40 ∨ k = 26 ∨ k = 39 → ¬ F' 108 k) (hA : ∀ i, 39 < i → i < 48 → ¬ A i) (hA' : ∀ i, i = 121 ∨ i = 124 ∨ i = 275 ∨ i = 276 ∨ (278 ≤ i ∧ i < 282) ∨ (264 ≤ i ∧ i < 274) ∨ i = 111 → ¬ A' i) : wu_SC s' z' := wu_SC_eq h (fun i p q => f.2 i (hA i p q)) (fun i hi => g.2 i (hA' i hi)) (fun k hk => f.1 39 k (hF k hk)) (fun k hk => g.1 108 k (hF' k (by omega))) (by rw [g.1 108 39 (hF' 39 (by omega))]; exact Int.le_refl _)
theorem wt_TO_fr {s s' z z' : wt_St} {F F' : Nat → Nat → Prop} {A A' : Nat → Prop} (h : wt_TO s z) (f : wt_fr F A s s') (g : wt_fr F' A' z z') (hF : ¬ F 20 6 ∧ ¬ F 20 7) (hA : ∀ i, 20 < i → i < 27 → ¬ A i) (hF' : ¬ F' 108 28 ∧ ¬ F' 108 30) (hA' : ∀ i, i = 126 ∨ i = 128 ∨ i = 130 ∨ (193 ≤ i ∧ i < 253) → ¬ A' i) : wt_TO s' z' := by
  obtain ⟨W, G, ⟨a1, a2, a3⟩, ⟨b1, b2, b3⟩, c, d⟩ := h
  exact ⟨W, G, ⟨by rw [f.1 20 6 hF.1]; exact a1, by rw [g.1 108 28 hF'.1]; exact a2, a3⟩, ⟨by rw [f.1 20 7 hF.2]; exact b1, by rw [g.1 108 30 hF'.2]; exact b2, b3⟩, wt_tt_fr c f g (fun i p q => hA i (by omega) (by omega)) (fun i hi => hA' i (by omega)), wt_gs_fr d f (fun i p q => hA i (by omega) (by omega))⟩
theorem wu_LC_fr {s s' z z' : wt_St} {F F' : Nat → Nat → Prop} {A A' : Nat → Prop} (h : wu_LC s z) (f : wt_fr F A s s') (g : wt_fr F' A' z z') (hF : ¬ F 4 7) (hA : ∀ i, i = 5 ∨ (6 < i ∧ i < 12) → ¬ A i) (hF' : ¬ F' 108 25) (hA' : ∀ i, i = 111 ∨ i = 113 ∨ i = 115 ∨ i = 117 ∨ i = 119 ∨ i = 123 → ¬ A' i) : wu_LC s' z' := by
  obtain ⟨a1, a2, a3, a4, a5, a6⟩ := h
  refine ⟨fun l hl => ?_, wt_pr_fr a2 f g (hA _ (by omega)) (hA _ (by omega)) (hA' _ (by omega)) (hA' _ (by omega)), fun l hl => ?_, fun l hl => ?_, fun l hl => ?_, ?_⟩
  · rw [f.2 5 (hA _ (by omega)), g.2 111 (hA' _ (by omega))]; exact a1 l hl
  · rw [f.2 9 (hA _ (by omega)), g.2 115 (hA' _ (by omega))]; exact a3 l hl
  · rw [f.2 10 (hA _ (by omega)), g.2 117 (hA' _ (by omega))]; exact a4 l hl
  · rw [f.2 11 (hA _ (by omega)), g.2 119 (hA' _ (by omega))]; exact a5 l hl
  · rw [f.1 4 7 hF, g.1 108 25 hF']; exact a6
theorem wu_X1_eq {s s' z z' : wt_St} {t : Nat} (h : wu_X1 s z t) (r : wt_RI z) (ht : t ≤ 7) (e36 : wt_ga s' 36 t = wt_ga s 36 t) (e35 : ∀ i, i < 12 → wt_ga s' 35 (12 * t + i) = wt_ga s 35 (12 * t + i)) (e37 : ∀ l, l < 26 → wt_ga s' 37 (26 * t + l) = wt_ga s 37 (26 * t + l)) (e28 : wt_gf z' 108 28 = wt_gf z 108 28) (e253 : wt_ga z' 253 t = wt_ga z 253 t) (e255 : ∀ j, wt_ga z' (255 + t) j = wt_ga z (255 + t) j) (ew : ∀ i, i = 126 ∨ (193 ≤ i ∧ i < 253) → ∀ j, wt_ga z' i j = wt_ga z i j) : wu_X1 s' z' t := by
  obtain ⟨m, a1, a2, a3, a4, a5, a6⟩ := h
  refine ⟨m, by rw [e36]; exact a1, by rw [e36, e253]; exact a2, a3, a4, fun i hi => ?_, fun l hl => ?_⟩
  · rw [e35 i (by omega), e255, e28]; exact a5 i hi
  · rw [e37 l hl, a6 l hl]
    unfold wt_nt
    rw [e253]
    have e : (fun k => wt_nw z' (Int32.toNatClampNeg (wt_ga z' (255 + t) k)) (l : Int)) = (fun k => wt_nw z (Int32.toNatClampNeg (wt_ga z (255 + t) k)) (l : Int)) := by
      funext k
      have g := wt_R_ga r 10 rfl (255 + t) (show 255 ≤ 255 + t by omega) (show 255 + t < 263 by omega) k
      have gk := wt_tnle (b := 59) g.2
      rw [e255 k]
      unfold wt_nw
      rw [ew 126 (Or.inl rfl)]
      have e2 : (fun j => (wt_ga z' (193 + Int32.toNatClampNeg (wt_ga z (255 + t) k)) j).toInt) = (fun j => (wt_ga z (193 + Int32.toNatClampNeg (wt_ga z (255 + t) k)) j).toInt) := by
        funext j
        rw [ew (193 + Int32.toNatClampNeg (wt_ga z (255 + t) k)) (by omega) j]
      rw [e2]
    rw [e]
theorem wu_TX_fr {s s' z z' : wt_St} {F F' : Nat → Nat → Prop} {A A' : Nat → Prop} (h : wu_TX s z) (r : wt_RI z) (f : wt_fr F A s s') (g : wt_fr F' A' z z') (hF : ¬ F 34 4) (hA : ∀ i, 34 < i → i < 38 → ¬ A i) (hF' : ¬ F' 108 39 ∧ ¬ F' 108 28) (hA' : ∀ i, i = 126 ∨ (193 ≤ i ∧ i < 254) ∨ (255 ≤ i ∧ i < 263) → ¬ A' i) : wu_TX s' z' := by
  have g39 : 0 ≤ (wt_gf z 108 39).toInt ∧ (wt_gf z 108 39).toInt ≤ 8 := wt_R_gf r 7 rfl
  refine ⟨by rw [f.1 34 4 hF, g.1 108 39 hF'.1]; exact h.1, fun t ht => ?_⟩
  rw [g.1 108 39 hF'.1] at ht
  exact wu_X1_eq (h.2 t ht) r (by omega) (f.2 36 (hA _ (by omega) (by omega)) t) (fun i _ => f.2 35 (hA _ (by omega) (by omega)) _) (fun i _ => f.2 37 (hA _ (by omega) (by omega)) _) (g.1 108 28 hF'.2) (g.2 253 (hA' _ (by omega)) t) (g.2 (255 + t) (hA' _ (by omega))) (fun i hi => g.2 i (hA' _ (by omega)))
/-- cells that all this speaks of: on the one side, on the other -/
def wu_RA (i : Nat) : Prop := i = 2 ∨ i = 5 ∨ (6 < i ∧ i < 12) ∨ (20 < i ∧ i < 27) ∨ (34 < i ∧ i < 38) ∨ (39 < i ∧ i < 48) ∨ (49 < i ∧ i < 76)
def wu_RB (i : Nat) : Prop := i = 109 ∨ i = 111 ∨ i = 113 ∨ i = 115 ∨ i = 117 ∨ i = 119 ∨ i = 121 ∨ i = 123 ∨ i = 124 ∨ i = 126 ∨ i = 128 ∨ i = 130 ∨ (193 ≤ i ∧ i < 254) ∨ (255 ≤ i ∧ i < 263) ∨ (264 ≤ i ∧ i < 274) ∨ i = 275 ∨ i = 276 ∨ (278 ≤ i ∧ i < 282) ∨ (283 ≤ i ∧ i < 286)
def wu_RF (i k : Nat) : Prop := (i = 1 ∧ k = 7) ∨ (i = 20 ∧ (k = 6 ∨ k = 7)) ∨ (i = 4 ∧ k = 7) ∨ (i = 34 ∧ k = 4) ∨ (i = 39 ∧ (k = 8 ∨ k = 9)) ∨ (i = 0 ∧ k = 14) ∨ i = 49 ∨ i = 58 ∨ i = 67
def wu_RG (k : Nat) : Prop := k = 3 ∨ k = 25 ∨ k = 26 ∨ k = 28 ∨ k = 30 ∨ k = 39 ∨ k = 40 ∨ k = 41
theorem wu_RL_fr {s s' z z' : wt_St} {F F' : Nat → Nat → Prop} {A A' : Nat → Prop} (h : wu_RL s z) (r : wt_RI z) (f : wt_fr F A s s') (g : wt_fr F' A' z z') (hF : ∀ i k, wu_RF i k → ¬ F i k) (hA : ∀ i, wu_RA i → ¬ A i) (hF' : ∀ k, wu_RG k → ¬ F' 108 k) (hA' : ∀ i, wu_RB i → ¬ A' i) : wu_RL s' z' := by
  obtain ⟨a1, a2, a3, a4, a5, a6, a7⟩ := h
  have g41 : 0 ≤ (wt_gf z 108 41).toInt ∧ (wt_gf z 108 41).toInt ≤ 3 := wt_R_gf r 9 rfl
  refine ⟨fun j hj => ?_, ?_, wt_TO_fr a3 f g ⟨hF _ _ (by unfold wu_RF; omega), hF _ _ (by unfold wu_RF; omega)⟩ (fun i p q => hA _ (by unfold wu_RA; omega)) ⟨hF' _ (by unfold wu_RG; omega), hF' _ (by unfold wu_RG; omega)⟩ (fun i hi => hA' _ (by unfold wu_RB; omega)), wu_LC_fr a4 f g (hF _ _ (by unfold wu_RF; omega)) (fun i hi => hA _ (by unfold wu_RA; omega)) (hF' _ (by unfold wu_RG; omega)) (fun i hi => hA' _ (by unfold wu_RB; omega)), wu_TX_fr a5 r f g (hF _ _ (by unfold wu_RF; omega)) (fun i p q => hA _ (by unfold wu_RA; omega)) ⟨hF' _ (by unfold wu_RG; omega), hF' _ (by unfold wu_RG; omega)⟩ (fun i hi => hA' _ (by unfold wu_RB; omega)), wu_SC_fr a6 f g (fun k hk => hF _ _ (by unfold wu_RF; omega)) (fun k hk => hF' _ (by unfold wu_RG; omega)) (fun i p q => hA _ (by unfold wu_RA; omega)) (fun i hi => hA' _ (by unfold wu_RB; omega)), wu_SI_fr a7 f g g41.2 (fun i k hi => hF _ _ (by unfold wu_RF; omega)) (fun k hk => hF' _ (by unfold wu_RG; omega)) (fun i p q => hA _ (by unfold wu_RA; omega)) (fun i hi => hA' _ (by unfold wu_RB; omega))⟩
  · rw [f.2 2 (hA _ (by unfold wu_RA; omega)), g.2 109 (hA' _ (by unfold wu_RB; omega))]; exact a1 j hj
  · rw [f.1 1 7 (hF _ _ (by unfold wu_RF; omega)), g.1 108 3 (hF' _ (by unfold wu_RG; omega))]; exact a2
