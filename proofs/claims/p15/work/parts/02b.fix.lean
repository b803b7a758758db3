/-! what stands fixed outside the world: String constants, statics that nobody writes -/
/-- a predicate of a place outside A: it stays where what is outside A stays -/
def wt_Fx (S : (Nat → Prop) → State → Heap → Prop) : Prop := (∀ A U H H1, S A U H → (∀ a : Nat, a < H.size → ¬ A a → H1[a]? = H[a]?) → S A U H1) ∧ (∀ A B U H, S A U H → (∀ q, B q → A q) → S B U H) ∧ (∀ A s U H, s.WarmedH U.vm → S A s H → S A U H) ∧ (∀ A u U H, u.vm = U.vm → S A u H → S A U H)
def wt_Str (q : Nat) (bs : List Int32) (A : Nat → Prop) (U : State) (H : Heap) : Prop := va_O "java/lang/String" q A U H ∧ va_OF "java/lang/String" "coder" "B" (.int 0) q A U H ∧ ∃ v : Nat, va_OF "java/lang/String" "value" "[B" (.ref v) q A U H ∧ va_T .byte v bs.length (fun j => .int (bs.getD j 0)) A U H
theorem wt_alR {u U : State} (h : u.vm = U.vm) : u.vm.Alike U.vm := by rw [h]; exact Vm.Alike.refl U.vm
theorem wt_Str_fx (q : Nat) (bs : List Int32) : wt_Fx (wt_Str q bs) :=
  ⟨fun A U H H1 ⟨h1, h2, v, h3, h4⟩ hq => ⟨h1.kept hq, h2.kept hq, v, h3.kept hq, h4.kept hq⟩, fun A B U H ⟨h1, h2, v, h3, h4⟩ hq => ⟨h1.narrow hq, h2.narrow hq, v, h3.narrow hq, h4.narrow hq⟩, fun A s U H hW ⟨h1, h2, v, h3, h4⟩ => ⟨va_O.moved hW.alike h1, va_OF.moved hW.alike h2, v, va_OF.moved hW.alike h3, va_T.moved hW.alike h4⟩, fun A u U H hv ⟨h1, h2, v, h3, h4⟩ => ⟨va_O.moved (wt_alR hv) h1, va_OF.moved (wt_alR hv) h2, v, va_OF.moved (wt_alR hv) h3, va_T.moved (wt_alR hv) h4⟩⟩
theorem wt_T_fx (v : Nat) (bs : List Int32) : wt_Fx (fun A U H => va_T .byte v bs.length (fun j => .int (bs.getD j 0)) A U H) :=
  ⟨fun A U H H1 h hq => h.kept hq, fun A B U H h hq => h.narrow hq, fun A s U H hW h => va_T.moved hW.alike h, fun A u U H hv h => va_T.moved (wt_alR hv) h⟩
theorem wt_True_fx : wt_Fx (fun _ _ _ => True) := ⟨fun _ _ _ _ _ _ => trivial, fun _ _ _ _ _ _ => trivial, fun _ _ _ _ _ _ => trivial, fun _ _ _ _ _ _ => trivial⟩
def wt_lits : List (Nat × String × List Int32) := [(82, "letter", [108, 101, 116, 116, 101, 114]), (92, "there", [116, 104, 101, 114, 101]), (94, "price", [112, 114, 105, 99, 101]), (99, "faint", [102, 97, 105, 110, 116]), (103, "like", [108, 105, 107, 101]), (111, "follow", [102, 111, 108, 108, 111, 119])]
def wt_xlits : List (Nat × String) := [(169, "what is told is 0 to 7"), (203, "of a letter 0 to 7 is told"), (207, "no such piece"), (242, "of a word 0 to 4 is told"), (287, "of a page 0 to 4 is told"), (358, "out of its bounds"), (362, "no such word, text or page")]
def wt_FX (A : Nat → Prop) (U : State) (H : Heap) : Prop := (∀ q ∈ wt_lits, ∃ a : Nat, vk_R "WornType$Lead" q.1 q.2.1 a U ∧ wt_Str a q.2.2 A U H) ∧ (∀ q ∈ wt_xlits, ∃ a : Nat, vk_R "WornType" q.1 q.2 a U) ∧ va_Z "java/lang/String" "COMPACT_STRINGS" "Z" (.int 1) A U H ∧ va_Zq "jdk/internal/util/Preconditions" "SIOOBE_FORMATTER" "Ljava/util/function/BiFunction;" A U H ∧ vx_Zq Bundle.tN "UNASSIGNED_STACK" Bundle.steD A U H ∧ vx_Zq Bundle.tN "SUPPRESSED_SENTINEL" Bundle.listD A U H
theorem wt_FX_fx : wt_Fx wt_FX := by
  refine ⟨fun A U H H1 ⟨h1, h2, h3, h4, h5, h6⟩ hq => ⟨fun q hm => ?_, h2, h3.kept hq, h4.kept hq, h5.kept hq, h6.kept hq⟩, fun A B U H ⟨h1, h2, h3, h4, h5, h6⟩ hq => ⟨fun q hm => ?_, h2, h3.narrow hq, h4.narrow hq, h5.narrow hq, h6.narrow hq⟩, fun A s U H hW ⟨h1, h2, h3, h4, h5, h6⟩ => ⟨fun q hm => ?_, fun q hm => ?_, va_Z.moved hW.alike h3, va_Zq.moved hW.alike h4, vx_Zq.moved hW.alike h5, vx_Zq.moved hW.alike h6⟩, fun A u U H hv ⟨h1, h2, h3, h4, h5, h6⟩ => ⟨fun q hm => ?_, fun q hm => ?_, va_Z.moved (wt_alR hv) h3, va_Zq.moved (wt_alR hv) h4, vx_Zq.moved (wt_alR hv) h5, vx_Zq.moved (wt_alR hv) h6⟩⟩
  · obtain ⟨a, g1, g2⟩ := h1 q hm
    exact ⟨a, g1, (wt_Str_fx a _).1 _ _ _ _ g2 hq⟩
  · obtain ⟨a, g1, g2⟩ := h1 q hm
    exact ⟨a, g1, (wt_Str_fx a _).2.1 _ _ _ _ g2 hq⟩
  · obtain ⟨a, g1, g2⟩ := h1 q hm
    exact ⟨a, vk_R.warm hW g1, (wt_Str_fx a _).2.2.1 _ _ _ _ hW g2⟩
  · obtain ⟨a, g1⟩ := h2 q hm
    exact ⟨a, vk_R.warm hW g1⟩
  · obtain ⟨a, g1, g2⟩ := h1 q hm
    exact ⟨a, vk_R.same hv.symm g1, (wt_Str_fx a _).2.2.2 _ _ _ _ hv g2⟩
  · obtain ⟨a, g1⟩ := h2 q hm
    exact ⟨a, vk_R.same hv.symm g1⟩
