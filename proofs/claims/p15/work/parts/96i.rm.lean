/-! case, pieces, pages, wants, images: alike on both sides between the calls -/
def wu_RM (σ : wt_St) : Prop := wu_LC σ σ ∧ wu_SC σ σ ∧ wu_SI σ σ
def wu_mF (i k : Nat) : Prop := (i = 4 ∧ k = 7) ∨ (i = 39 ∧ (k = 8 ∨ k = 9)) ∨ (i = 0 ∧ k = 14) ∨ i = 49 ∨ i = 58 ∨ i = 67
def wu_mA (i : Nat) : Prop := i = 5 ∨ (6 < i ∧ i < 12) ∨ (39 < i ∧ i < 48) ∨ (49 < i ∧ i < 76)
def wu_mG (k : Nat) : Prop := k = 25 ∨ k = 26 ∨ k = 39 ∨ k = 40 ∨ k = 41
def wu_mB (i : Nat) : Prop := i = 111 ∨ i = 113 ∨ i = 115 ∨ i = 117 ∨ i = 119 ∨ i = 121 ∨ i = 123 ∨ i = 124 ∨ (264 ≤ i ∧ i < 274) ∨ i = 275 ∨ i = 276 ∨ (278 ≤ i ∧ i < 282) ∨ (283 ≤ i ∧ i < 286)
/-- of it, case and images alone -/
def wu_iF (i k : Nat) : Prop := (i = 4 ∧ k = 7) ∨ (i = 0 ∧ k = 14) ∨ i = 49 ∨ i = 58 ∨ i = 67
def wu_iA (i : Nat) : Prop := i = 5 ∨ (6 < i ∧ i < 12) ∨ (49 < i ∧ i < 76)
def wu_iG (k : Nat) : Prop := k = 25 ∨ k = 39 ∨ k = 41
def wu_iB (i : Nat) : Prop := i = 111 ∨ i = 113 ∨ i = 115 ∨ i = 117 ∨ i = 119 ∨ i = 123 ∨ (283 ≤ i ∧ i < 286)
theorem wu_LI1 {s s' z z' : wt_St} {F F' : Nat → Nat → Prop} {A A' : Nat → Prop} (r : wt_RI z) (a : wu_LC s z) (b : wu_SI s z) (f : wt_fr F A s s') (g : wt_fr F' A' z z') (h1 : ∀ i k, wu_iF i k → ¬ F i k) (h2 : ∀ i, wu_iA i → ¬ A i) (h7 : ∀ k, wu_iG k → ¬ F' 108 k) (h8 : ∀ i, wu_iB i → ¬ A' i) : wu_LC s' z' ∧ wu_SI s' z' := by
  have g41 : 0 ≤ (wt_gf z 108 41).toInt ∧ (wt_gf z 108 41).toInt ≤ 3 := wt_Rf9 r
  exact ⟨wu_LC_fr a f g (h1 _ _ (by unfold wu_iF; omega)) (fun i hi => h2 _ (by unfold wu_iA; omega)) (h7 _ (by unfold wu_iG; omega)) (fun i hi => h8 _ (by unfold wu_iB; omega)), wu_SI_fr b f g g41.2 (fun i k h => h1 _ _ (by unfold wu_iF; omega)) (fun k h => h7 _ (by unfold wu_iG; omega)) (fun i p q => h2 _ (by unfold wu_iA; omega)) (fun i h => h8 _ (by unfold wu_iB; omega))⟩
theorem wu_LI_fr {σ σ1 σ2 : wt_St} {F F' : Nat → Nat → Prop} {A A' : Nat → Prop} (r0 : wt_RI σ) (r : wt_RI σ1) (j : wu_RM σ) (f : wt_fr F A σ σ1) (g : wt_fr F' A' σ1 σ2) (h1 : ∀ i k, wu_iF i k → ¬ F i k) (h2 : ∀ i, wu_iA i → ¬ A i) (h3 : ∀ k, ¬ F 108 k) (h4 : ∀ i, 108 ≤ i → ¬ A i) (h5 : ∀ i k, i < 108 → ¬ F' i k) (h6 : ∀ i, i < 108 → ¬ A' i) (h7 : ∀ k, wu_iG k → ¬ F' 108 k) (h8 : ∀ i, wu_iB i → ¬ A' i) : wu_LC σ2 σ2 ∧ wu_SI σ2 σ2 := by
  obtain ⟨a1, b1⟩ := wu_LI1 r0 j.1 j.2.2 f f h1 h2 (fun k _ => h3 k) (fun i hi => h4 i (by unfold wu_iB at hi; omega))
  exact wu_LI1 r a1 b1 g g (fun i k h => h5 i k (by unfold wu_iF at h; omega)) (fun i h => h6 i (by unfold wu_iA at h; omega)) h7 h8
theorem wu_RM_fr {σ σ1 σ2 : wt_St} {F F' : Nat → Nat → Prop} {A A' : Nat → Prop} (r0 : wt_RI σ) (r : wt_RI σ1) (j : wu_RM σ) (f : wt_fr F A σ σ1) (g : wt_fr F' A' σ1 σ2) (h1 : ∀ i k, wu_mF i k → ¬ F i k) (h2 : ∀ i, wu_mA i → ¬ A i) (h3 : ∀ k, ¬ F 108 k) (h4 : ∀ i, 108 ≤ i → ¬ A i) (h5 : ∀ i k, i < 108 → ¬ F' i k) (h6 : ∀ i, i < 108 → ¬ A' i) (h7 : ∀ k, wu_mG k → ¬ F' 108 k) (h8 : ∀ i, wu_mB i → ¬ A' i) : wu_RM σ2 := by
  obtain ⟨a, b⟩ := wu_LI_fr r0 r j f g (fun i k h => h1 i k (by unfold wu_iF at h; unfold wu_mF; omega)) (fun i h => h2 i (by unfold wu_iA at h; unfold wu_mA; omega)) h3 h4 h5 h6 (fun k h => h7 k (by unfold wu_iG at h; unfold wu_mG; omega)) (fun i h => h8 i (by unfold wu_iB at h; unfold wu_mB; omega))
  have c1 : wu_SC σ1 σ1 := wu_SC_fr j.2.1 f f (fun k hk => h1 39 k (by unfold wu_mF; omega)) (fun k _ => h3 k) (fun i p q => h2 i (by unfold wu_mA; omega)) (fun i hi => h4 i (by omega))
  exact ⟨a, wu_SC_fr c1 g g (fun k _ => h5 39 k (by omega)) (fun k hk => h7 k (by unfold wu_mG; omega)) (fun i p q => h6 i (by omega)) (fun i hi => h8 i (by unfold wu_mB; omega)), b⟩
/-- the class has run -/
theorem wu_midM {σ σ1 : wt_St} {F : Nat → Nat → Prop} {A : Nat → Prop} (j : wu_RM σ) (r0 : wt_RI σ) (f : wt_fr F A σ σ1) (h3 : ∀ k, ¬ F 108 k) (h4 : ∀ i, 108 ≤ i → ¬ A i) : wu_LC σ σ1 ∧ wu_SC σ σ1 ∧ wu_SI σ σ1 := by
  have R : wt_fr (fun _ _ => False) (fun _ => False) σ σ := wt_fr.rf
  obtain ⟨a, b⟩ := wu_LI1 r0 j.1 j.2.2 R f (fun _ _ _ h => h) (fun _ _ h => h) (fun k _ => h3 k) (fun i hi => h4 i (by unfold wu_iB at hi; omega))
  exact ⟨a, wu_SC_fr j.2.1 R f (fun _ _ h => h) (fun k _ => h3 k) (fun _ _ _ h => h) (fun i hi => h4 i (by omega)), b⟩
/-- the reference has run -/
theorem wu_endSC {q r : wt_St} {F : Nat → Nat → Prop} {A : Nat → Prop} (sc : wu_SC q r) (g : wt_fr F A q r) (h5 : ∀ i k, i < 108 → ¬ F i k) (h6 : ∀ i, i < 108 → ¬ A i) : wu_SC r r := wu_SC_fr sc g (wt_fr.rf (F := fun _ _ => False) (A := fun _ => False)) (fun k _ => h5 39 k (by omega)) (fun _ _ h => h) (fun i p q => h6 i (by omega)) (fun _ _ h => h)
theorem wu_endLC {q r : wt_St} {F : Nat → Nat → Prop} {A : Nat → Prop} (lc : wu_LC q r) (g : wt_fr F A q r) (h5 : ∀ i k, i < 108 → ¬ F i k) (h6 : ∀ i, i < 108 → ¬ A i) : wu_LC r r := wu_LC_fr lc g (wt_fr.rf (F := fun _ _ => False) (A := fun _ => False)) (h5 4 7 (by omega)) (fun i hi => h6 i (by omega)) (fun h => h) (fun _ _ h => h)
theorem wu_endSI {q r : wt_St} {F : Nat → Nat → Prop} {A : Nat → Prop} (si : wu_SI q r) (rr : wt_RI r) (g : wt_fr F A q r) (h5 : ∀ i k, i < 108 → ¬ F i k) (h6 : ∀ i, i < 108 → ¬ A i) : wu_SI r r := by
  have g41 : 0 ≤ (wt_gf r 108 41).toInt ∧ (wt_gf r 108 41).toInt ≤ 3 := wt_Rf9 rr
  exact wu_SI_fr si g (wt_fr.rf (F := fun _ _ => False) (A := fun _ => False)) g41.2 (fun i k h => h5 i k (by omega)) (fun _ _ h => h) (fun i p q => h6 i (by omega)) (fun _ _ h => h)
/-- only the pieces that there are count -/
theorem wu_SC_kv {s z y : wt_St} {F : Nat → Nat → Prop} {A : Nat → Prop} (h : wu_SC s z) (kv : wu_KV z y) (f : wt_fr F A z y) (hF : ∀ k, k = 40 ∨ k = 26 ∨ k = 39 → ¬ F 108 k) (hA : ∀ i, i = 275 ∨ i = 276 ∨ (278 ≤ i ∧ i < 282) ∨ (264 ≤ i ∧ i < 274) → ¬ A i) : wu_SC s y := by
  have A' : ∀ i, i = 275 ∨ i = 276 ∨ (278 ≤ i ∧ i < 282) ∨ (264 ≤ i ∧ i < 274) → wt_ga y i = wt_ga z i := fun i hi => funext (f.2 i (hA i hi))
  have A1 : wt_ga y 111 = wt_ga z 111 := funext kv.1
  obtain ⟨h1, h2, h3, h4⟩ := h
  refine ⟨?_, ?_, ?_, ?_⟩
  · rw [f.1 108 26 (hF 26 (by omega))]; exact h1
  · rw [f.1 108 40 (hF 40 (by omega)), f.1 108 39 (hF 39 (by omega))]
    refine ⟨h2.1, h2.2.1, fun k hk => ?_⟩
    have g := h2.2.1
    show (wt_ga s (39 + 5) k = wt_ga y (264 + k) 0 ∧ wt_ga s (39 + 6) k = wt_ga y (264 + k) 1 ∧ wt_ga s (39 + 7) k = wt_ga y (264 + k) 2 ∧ wt_ga s (39 + 8) k = wt_ga y (264 + k) 3) ∧ _
    rw [A' (264 + k) (by omega)]
    exact h2.2.2 k hk
  · rw [A1, A' 275 (by omega)]
    intro l hl
    refine ⟨fun i hi => ?_, (h3 l hl).2⟩
    obtain ⟨p1, p2⟩ := kv.2 l i hl hi
    rw [p1, p2]
    exact (h3 l hl).1 i hi
  · rw [A1, A' 275 (by omega), A' 276 (by omega)]
    intro g hg
    obtain ⟨q1, q2⟩ := h4 g hg
    refine ⟨q1, fun st => ⟨fun k hk => ?_, fun l i hl hi ho => ?_⟩⟩
    · obtain ⟨l, i, l1, l2, l3, l4, l5⟩ := (q2 st).1 k hk
      refine ⟨l, i, l1, l2, ?_, ?_, ?_⟩
      · show (wt_ga y (278 + g) k).toInt = _
        rw [A' (278 + g) (by omega)]; exact l3
      · rw [(kv.2 l i l1 l2).2]; exact l4
      · show (wt_ga s (39 + 3) (12 * l + i)).toInt = wt_ct (fun k' => (wt_ga y (278 + g) k').toInt / 13) (l : Int) k
        rw [A' (278 + g) (by omega)]; exact l5
    · rw [(kv.2 l i hl hi).2] at ho
      obtain ⟨k, k1, k2⟩ := (q2 st).2 l i hl hi ho
      refine ⟨k, k1, ?_⟩
      show (wt_ga y (278 + g) k).toInt = _
      rw [A' (278 + g) (by omega)]; exact k2
theorem wt_fr_less {F : Nat → Nat → Prop} {A : Nat → Prop} {s s' : wt_St} {i0 : Nat} (f : wt_fr F A s s') (h : ∀ j, wt_ga s' i0 j = wt_ga s i0 j) : wt_fr F (fun i => A i ∧ i ≠ i0) s s' := ⟨f.1, fun i hi j => by
  by_cases e : i = i0
  · rw [e]; exact h j
  · exact f.2 i (fun a => hi ⟨a, e⟩) j⟩
theorem wu_KV_K0 {s z y : wt_St} (m : wt_M12 z) (sc : wu_SC s z) (h : wu_K0 z y) : wu_KV z y := ⟨h.2.1, fun l i hl hi => ⟨h.2.2.1 _, by
  have k4 : (4 : Int32).toInt = 4 := by decide
  rcases h.2.2.2 (13 * l + i) (by have := m l; omega) with e | e
  · exact e
  · obtain ⟨-, -, o⟩ := (sc.2.2.1 l hl).1 i hi
    have e' := congrArg Int32.toInt e
    rw [k4] at e'
    rcases o with o | ⟨g, g4, o, -⟩
    · omega
    · omega⟩⟩
theorem wu_RM_kv {σ σ1 σ2 : wt_St} {F F' : Nat → Nat → Prop} {A A' : Nat → Prop} (r0 : wt_RI σ) (r : wt_RI σ1) (j : wu_RM σ) (f : wt_fr F A σ σ1) (g : wt_fr F' A' σ1 σ2) (kv : wu_KV σ1 σ2) (h1 : ∀ i k, wu_mF i k → ¬ F i k) (h2 : ∀ i, wu_mA i → ¬ A i) (h3 : ∀ k, ¬ F 108 k) (h4 : ∀ i, 108 ≤ i → ¬ A i) (h5 : ∀ i k, i < 108 → ¬ F' i k) (h6 : ∀ i, i < 108 → ¬ A' i) (h7 : ∀ k, wu_mG k → ¬ F' 108 k) (h8 : ∀ i, wu_mB i → ¬ (i = 121 ∨ i = 124 ∨ i = 111) → ¬ A' i) : wu_RM σ2 := by
  have g' := wt_fr_less g kv.1
  obtain ⟨a, b⟩ := wu_LI_fr r0 r j f g' (fun i k h => h1 i k (by unfold wu_iF at h; unfold wu_mF; omega)) (fun i h => h2 i (by unfold wu_iA at h; unfold wu_mA; omega)) h3 h4 h5 (fun i h a => h6 i h a.1) (fun k h => h7 k (by unfold wu_iG at h; unfold wu_mG; omega)) (fun i h a => h8 i (by unfold wu_iB at h; unfold wu_mB; omega) (by unfold wu_iB at h; have := a.2; omega) a.1)
  have c1 : wu_SC σ1 σ1 := wu_SC_fr j.2.1 f f (fun k hk => h1 39 k (by unfold wu_mF; omega)) (fun k _ => h3 k) (fun i p q => h2 i (by unfold wu_mA; omega)) (fun i hi => h4 i (by omega))
  have c2 : wu_SC σ1 σ2 := wu_SC_kv c1 kv g (fun k hk => h7 k (by unfold wu_mG; omega)) (fun i hi => h8 i (by unfold wu_mB; omega) (by omega))
  exact ⟨a, wu_endSC c2 g h5 h6, b⟩
