/-! words, texts, the place of the fault, how many images: alike on both sides between the calls -/
def wu_Q1 (σ : wt_St) : Prop := wt_TO σ σ ∧ wu_TX σ σ ∧ wt_gf σ 1 7 = wt_gf σ 108 3 ∧ wt_gf σ 0 14 = wt_gf σ 108 41
def wu_qF (i k : Nat) : Prop := (i = 20 ∧ (k = 6 ∨ k = 7)) ∨ (i = 34 ∧ k = 4) ∨ (i = 1 ∧ k = 7) ∨ (i = 0 ∧ k = 14)
def wu_qA (i : Nat) : Prop := (20 < i ∧ i < 27) ∨ (34 < i ∧ i < 38)
def wu_qG (k : Nat) : Prop := k = 28 ∨ k = 30 ∨ k = 39 ∨ k = 3 ∨ k = 41
def wu_qB (i : Nat) : Prop := i = 126 ∨ i = 128 ∨ i = 130 ∨ (193 ≤ i ∧ i < 254) ∨ (255 ≤ i ∧ i < 263)
theorem wu_TT_fr {σ σ1 σ2 : wt_St} {F F' : Nat → Nat → Prop} {A A' : Nat → Prop} (r0 : wt_RI σ) (r : wt_RI σ1) (a : wt_TO σ σ) (b : wu_TX σ σ) (f : wt_fr F A σ σ1) (g : wt_fr F' A' σ1 σ2) (h1 : ∀ i k, (i = 20 ∧ (k = 6 ∨ k = 7)) ∨ (i = 34 ∧ k = 4) → ¬ F i k) (h2 : ∀ i, wu_qA i → ¬ A i) (h3 : ∀ k, ¬ F 108 k) (h4 : ∀ i, 108 ≤ i → ¬ A i) (h5 : ∀ i k, i < 108 → ¬ F' i k) (h6 : ∀ i, i < 108 → ¬ A' i) (h7 : ∀ k, k = 28 ∨ k = 30 ∨ k = 39 → ¬ F' 108 k) (h8 : ∀ i, wu_qB i → ¬ A' i) : wt_TO σ2 σ2 ∧ wu_TX σ2 σ2 := by
  have a1 : wt_TO σ1 σ1 := wt_TO_fr a f f ⟨h1 _ _ (by omega), h1 _ _ (by omega)⟩ (fun i p q => h2 _ (by unfold wu_qA; omega)) ⟨h3 _, h3 _⟩ (fun i hi => h4 _ (by omega))
  have b1 : wu_TX σ1 σ1 := wu_TX_fr b r0 f f (h1 _ _ (by omega)) (fun i p q => h2 _ (by unfold wu_qA; omega)) ⟨h3 _, h3 _⟩ (fun i hi => h4 _ (by omega))
  exact ⟨wt_TO_fr a1 g g ⟨h5 _ _ (by omega), h5 _ _ (by omega)⟩ (fun i p q => h6 _ (by omega)) ⟨h7 _ (by omega), h7 _ (by omega)⟩ (fun i hi => h8 _ (by unfold wu_qB; omega)), wu_TX_fr b1 r g g (h5 _ _ (by omega)) (fun i p q => h6 _ (by omega)) ⟨h7 _ (by omega), h7 _ (by omega)⟩ (fun i hi => h8 _ (by unfold wu_qB; omega))⟩
theorem wu_Q1_fr {σ σ1 σ2 : wt_St} {F F' : Nat → Nat → Prop} {A A' : Nat → Prop} (r0 : wt_RI σ) (r : wt_RI σ1) (j : wu_Q1 σ) (f : wt_fr F A σ σ1) (g : wt_fr F' A' σ1 σ2) (h1 : ∀ i k, wu_qF i k → ¬ F i k) (h2 : ∀ i, wu_qA i → ¬ A i) (h3 : ∀ k, ¬ F 108 k) (h4 : ∀ i, 108 ≤ i → ¬ A i) (h5 : ∀ i k, i < 108 → ¬ F' i k) (h6 : ∀ i, i < 108 → ¬ A' i) (h7 : ∀ k, wu_qG k → ¬ F' 108 k) (h8 : ∀ i, wu_qB i → ¬ A' i) : wu_Q1 σ2 := by
  obtain ⟨a, b, c, d⟩ := j
  obtain ⟨a2, b2⟩ := wu_TT_fr r0 r a b f g (fun i k h => h1 i k (by unfold wu_qF; omega)) h2 h3 h4 h5 h6 (fun k h => h7 k (by unfold wu_qG; omega)) h8
  refine ⟨a2, b2, ?_, ?_⟩
  · rw [g.1 1 7 (h5 _ _ (by omega)), f.1 1 7 (h1 _ _ (by unfold wu_qF; omega)), g.1 108 3 (h7 _ (by unfold wu_qG; omega)), f.1 108 3 (h3 _)]; exact c
  · rw [g.1 0 14 (h5 _ _ (by omega)), f.1 0 14 (h1 _ _ (by unfold wu_qF; omega)), g.1 108 41 (h7 _ (by unfold wu_qG; omega)), f.1 108 41 (h3 _)]; exact d
/-- the class has run: its cells are new, the reference's old -/
theorem wu_mid {σ σ1 : wt_St} {F : Nat → Nat → Prop} {A : Nat → Prop} (to : wt_TO σ σ) (tx : wu_TX σ σ) (r0 : wt_RI σ) (f : wt_fr F A σ σ1) (h3 : ∀ k, ¬ F 108 k) (h4 : ∀ i, 108 ≤ i → ¬ A i) : wt_TO σ σ1 ∧ wu_TX σ σ1 := ⟨wt_TO_fr to (wt_fr.rf (F := fun _ _ => False) (A := fun _ => False)) f ⟨fun h => h, fun h => h⟩ (fun _ _ _ h => h) ⟨h3 _, h3 _⟩ (fun i hi => h4 _ (by omega)), wu_TX_fr tx r0 (wt_fr.rf (F := fun _ _ => False) (A := fun _ => False)) f (fun h => h) (fun _ _ _ h => h) ⟨h3 _, h3 _⟩ (fun i hi => h4 _ (by omega))⟩
theorem wu_endTO {q r : wt_St} {F : Nat → Nat → Prop} {A : Nat → Prop} (to : wt_TO q r) (g : wt_fr F A q r) (h5 : ∀ i k, i < 108 → ¬ F i k) (h6 : ∀ i, i < 108 → ¬ A i) : wt_TO r r := wt_TO_fr to g (wt_fr.rf (F := fun _ _ => False) (A := fun _ => False)) ⟨h5 _ _ (by omega), h5 _ _ (by omega)⟩ (fun i p q => h6 _ (by omega)) ⟨fun h => h, fun h => h⟩ (fun _ _ h => h)
theorem wu_endTX {q r : wt_St} {F : Nat → Nat → Prop} {A : Nat → Prop} (rr : wt_RI r) (tx : wu_TX q r) (g : wt_fr F A q r) (h5 : ∀ i k, i < 108 → ¬ F i k) (h6 : ∀ i, i < 108 → ¬ A i) : wu_TX r r := wu_TX_fr tx rr g (wt_fr.rf (F := fun _ _ => False) (A := fun _ => False)) (h5 _ _ (by omega)) (fun i p q => h6 _ (by omega)) ⟨fun h => h, fun h => h⟩ (fun _ _ h => h)
