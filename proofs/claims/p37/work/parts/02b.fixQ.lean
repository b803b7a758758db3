-- 02b.fix.lean.txt
section WTQ0
/-! what stands fixed outside the world: String constants, statics that nobody writes -/
/-- a predicate of a place outside A: it stays where what is outside A stays -/
def wt_Fx (S : (Nat → Prop) → State → Heap → Prop) : Prop := (∀ A U H H1, S A U H → (∀ a : Nat, a < H.size → ¬ A a → H1[a]? = H[a]?) → S A U H1) ∧ (∀ A B U H, S A U H → (∀ q, B q → A q) → S B U H) ∧ (∀ A s U H, s.WarmedH U.vm → S A s H → S A U H) ∧ (∀ A u U H, u.vm = U.vm → S A u H → S A U H)
def wt_Str (q : Nat) (bs : List Int32) (A : Nat → Prop) (U : State) (H : Heap) : Prop := va_O "java/lang/String" q A U H ∧ va_OF "java/lang/String" "coder" "B" (.int 0) q A U H ∧ ∃ v : Nat, va_OF "java/lang/String" "value" "[B" (.ref v) q A U H ∧ va_T .byte v bs.length (fun j => .int (bs.getD j 0)) A U H
theorem wt_alR {u U : State} (h : u.vm = U.vm) : u.vm.Alike U.vm := by rw [h]; exact Vm.Alike.refl U.vm
theorem wt_Str_fx (q : Nat) (bs : List Int32) : wt_Fx (wt_Str q bs) :=
  ⟨fun A U H H1 ⟨h1, h2, v, h3, h4⟩ hq => ⟨h1.kept hq, h2.kept hq, v, h3.kept hq, h4.kept hq⟩, fun A B U H ⟨h1, h2, v, h3, h4⟩ hq => ⟨h1.narrow hq, h2.narrow hq, v, h3.narrow hq, h4.narrow hq⟩, fun A s U H hW ⟨h1, h2, v, h3, h4⟩ => ⟨va_O.moved hW.alike h1, va_OF.moved hW.alike h2, v, va_OF.moved hW.alike h3, va_T.moved hW.alike h4⟩, fun A u U H hv ⟨h1, h2, v, h3, h4⟩ => ⟨va_O.moved (wt_alR hv) h1, va_OF.moved (wt_alR hv) h2, v, va_OF.moved (wt_alR hv) h3, va_T.moved (wt_alR hv) h4⟩⟩
theorem wt_T_fx (v : Nat) (bs : List Int32) : wt_Fx (fun A U H => va_T .byte v bs.length (fun j => .int (bs.getD j 0)) A U H) :=
  ⟨fun A U H H1 h hq => h.kept hq, fun A B U H h hq => h.narrow hq, fun A s U H hW h => va_T.moved hW.alike h, fun A u U H hv h => va_T.moved (wt_alR hv) h⟩
theorem wt_True_fx : wt_Fx (fun _ _ _ => True) := ⟨fun _ _ _ _ _ _ => trivial, fun _ _ _ _ _ _ => trivial, fun _ _ _ _ _ _ => trivial, fun _ _ _ _ _ _ => trivial⟩
def wt_lits : List (Nat × String × List Int32) := [(82, "letter", [108, 101, 116, 116, 101, 114]), (92, "there", [116, 104, 101, 114, 101]), (94, "price", [112, 114, 105, 99, 101]), (99, "faint", [102, 97, 105, 110, 116]), (103, "like", [108, 105, 107, 101]), (111, "follow", [102, 111, 108, 108, 111, 119])]
def wt_xlits : List (Nat × String) := [(169, "what is told is 0 to 7"), (203, "of a letter 0 to 7 is told"), (207, "no such piece"), (242, "of a word 0 to 4 is told"), (287, "of a page 0 to 4 is told"), (358, "out of its bounds"), (362, "no such word, text or page")]
def wt_FX (A : Nat → Prop) (U : State) (H : Heap) : Prop := (∀ q ∈ wt_lits, ∃ a : Nat, vk_R "WornType$Lead" q.1 q.2.1 a U ∧ wt_Str a q.2.2 A U H) ∧ (∀ q ∈ wt_xlits, ∃ a : Nat, vk_R "WornType" q.1 q.2 a U) ∧ va_Z "java/lang/String" "COMPACT_STRINGS" "Z" (.int 1) A U H ∧ va_Zq "jdk/internal/util/Preconditions" "SIOOBE_FORMATTER" "Ljava/util/function/BiFunction;" A U H ∧ vx_Zq Bundle.tN "UNASSIGNED_STACK" Bundle.steD A U H ∧ vx_Zq Bundle.tN "SUPPRESSED_SENTINEL" Bundle.listD A U H
theorem wt_FX_fx : wt_Fx wt_FX := by
  refine ⟨fun A U H H1 ⟨h1, h2, h3, h4, h5, h6⟩ hq => ⟨fun q hm => ?_, h2, h3.kept hq, h4.kept hq, h5.kept hq, h6.kept hq⟩, fun A B U H ⟨h1, h2, h3, h4, h5, h6⟩ hq => ⟨fun q hm => ?_, h2, h3.narrow hq, h4.narrow hq, h5.narrow hq, h6.narrow hq⟩, fun A s U H hW ⟨h1, h2, h3, h4, h5, h6⟩ => ⟨fun q hm => ?_, fun q hm => ?_, va_Z.moved hW.alike h3, va_Zq.moved hW.alike h4, vx_Zq.moved hW.alike h5, vx_Zq.moved hW.alike h6⟩, fun A u U H hv ⟨h1, h2, h3, h4, h5, h6⟩ => ⟨fun q hm => ?_, fun q hm => ?_, va_Z.moved (wt_alR hv) h3, va_Zq.moved (wt_alR hv) h4, vx_Zq.moved (wt_alR hv) h5, vx_Zq.moved (wt_alR hv) h6⟩⟩
  · obtain ⟨a, g1, g2⟩ := h1 q hm
    exact ⟨a, g1, (wt_Str_fx a _).1 _ _ _ _ g2 hq⟩
  · obtain ⟨a, g1, g2⟩ := h1 q hm
    exact ⟨a, g1, (wt_Str_fx a _).2.1 _ _ _ _ g2 hq⟩
  · obtain ⟨a, g1, g2⟩ := h1 q hm
    exact ⟨a, vk_R.warm hW g1, (wt_Str_fx a _).2.2.1 _ _ _ _ hW g2⟩
  · obtain ⟨a, g1⟩ := h2 q hm
    exact ⟨a, vk_R.warm hW g1⟩
  · obtain ⟨a, g1, g2⟩ := h1 q hm
    exact ⟨a, vk_R.same hv.symm g1, (wt_Str_fx a _).2.2.2 _ _ _ _ hv g2⟩
  · obtain ⟨a, g1⟩ := h2 q hm
    exact ⟨a, vk_R.same hv.symm g1⟩
end WTQ0
-- 02c.dec.lean.txt
section WTQ1
/-! a code read by the rows of its bytes: a piece for each few instructions, a lemma for each instruction -/
section WTDEC
def wt_nb (c : ByteArray) (P b : Nat) : Prop := ∃ h : P < c.size, c[P].toNat = b
def wt_bs (c : ByteArray) : List Nat := c.data.toList.map UInt8.toNat
/-- the pieces stand in the code from a place on -/
def wt_cs (c : ByteArray) (k : Nat) (LL : List (List Nat)) : Prop := ∀ (i b : Nat), LL.flatten[i]? = some b → wt_nb c (k + i) b
variable {c : ByteArray} {k P : Nat} {L : List Nat} {r : List (List Nat)}
theorem wt_cs_of {LL : List (List Nat)} (h : wt_bs c = LL.flatten) : wt_cs c 0 LL := by
  intro i b e
  rw [← h] at e
  unfold wt_bs at e
  rw [List.getElem?_map] at e
  obtain ⟨u, hu, hb⟩ := Option.map_eq_some_iff.mp e
  have hi : i < c.data.toList.length := (List.getElem?_eq_some_iff.mp hu).1
  have e2 : c.data.toList[i]? = some c[i] := List.getElem?_eq_getElem (l := c.data.toList) (i := i) hi
  rw [hu] at e2
  have e3 := Option.some.inj e2
  rw [Nat.zero_add]
  exact ⟨hi, by rw [← e3]; exact hb⟩
theorem wt_cs_tl {m k' : Nat} (h : wt_cs c k (L :: r)) (hm : L.length = m) (hk : k + m = k') : wt_cs c k' r := by
  intro i b e
  have q := h (m + i) b (by rw [List.flatten_cons, List.getElem?_append_right (by omega), hm, Nat.add_sub_cancel_left]; exact e)
  rw [← hk, Nat.add_assoc]
  exact q
theorem wt_cs_at (h : wt_cs c k (L :: r)) {i : Nat} (hP : k + i = P) {D : List Nat} (e : L.drop i = D) (j b : Nat) (hb : D[j]? = some b) : wt_nb c (P + j) b := by
  rw [← e, List.getElem?_drop] at hb
  have q := h (i + j) b (by rw [List.flatten_cons, List.getElem?_append_left (List.getElem?_eq_some_iff.mp hb).1]; exact hb)
  rw [← hP, Nat.add_assoc]
  exact q
theorem wt_r1 {p b : Nat} (h : wt_nb c p b) : (Jvm.ClassFile.Reader.u1 : Jvm.ClassFile.Decoder Nat) c p = .ok (b, p + 1) := by
  obtain ⟨h1, h2⟩ := h
  have e : (Jvm.ClassFile.Reader.u1 : Jvm.ClassFile.Decoder Nat) c p = (if h : p < c.size then (do set (p + 1); pure c[p].toNat : Jvm.ClassFile.Decoder Nat) else throw (Jvm.ClassFile.HasTruncated.truncated p)) c p := rfl
  rw [e, dif_pos h1]
  show (.ok (c[p].toNat, p + 1) : Except Jvm.ClassFile.DecodeError (Nat × Nat)) = _
  rw [h2]
theorem wt_r2 {p a b : Nat} (ha : wt_nb c p a) (hb : wt_nb c (p + 1) b) : (Jvm.ClassFile.Reader.u2 : Jvm.ClassFile.Decoder Nat) c p = .ok (a * 256 + b, p + 2) := by
  have e : (Jvm.ClassFile.Reader.u2 : Jvm.ClassFile.Decoder Nat) c p = Except.bind ((Jvm.ClassFile.Reader.u1 : Jvm.ClassFile.Decoder Nat) c p) (fun r => Except.bind ((Jvm.ClassFile.Reader.u1 : Jvm.ClassFile.Decoder Nat) c r.2) (fun t => .ok (r.1 * 256 + t.1, t.2))) := rfl
  rw [e, wt_r1 ha]
  show Except.bind ((Jvm.ClassFile.Reader.u1 : Jvm.ClassFile.Decoder Nat) c (p + 1)) _ = _
  rw [wt_r1 hb]
  rfl
theorem wt_rs1 {p b : Nat} (h : wt_nb c p b) : (Jvm.ClassFile.Reader.s1 : Jvm.ClassFile.Decoder Int) c p = .ok (Jvm.ClassFile.Reader.signed 8 b, p + 1) := by
  have e : (Jvm.ClassFile.Reader.s1 : Jvm.ClassFile.Decoder Int) c p = Except.bind ((Jvm.ClassFile.Reader.u1 : Jvm.ClassFile.Decoder Nat) c p) (fun r => .ok (Jvm.ClassFile.Reader.signed 8 r.1, r.2)) := rfl
  rw [e, wt_r1 h]
  rfl
theorem wt_rs2 {p a b : Nat} (ha : wt_nb c p a) (hb : wt_nb c (p + 1) b) : (Jvm.ClassFile.Reader.s2 : Jvm.ClassFile.Decoder Int) c p = .ok (Jvm.ClassFile.Reader.signed 16 (a * 256 + b), p + 2) := by
  have e : (Jvm.ClassFile.Reader.s2 : Jvm.ClassFile.Decoder Int) c p = Except.bind ((Jvm.ClassFile.Reader.u2 : Jvm.ClassFile.Decoder Nat) c p) (fun r => .ok (Jvm.ClassFile.Reader.signed 16 r.1, r.2)) := rfl
  rw [e, wt_r2 ha hb]
  rfl
variable {n l : Nat} {F : Nat → Jvm.ClassFile.Decoder Jvm.ClassFile.Instr}
theorem wt_oI {x : Jvm.ClassFile.Instr} (hn : wt_nb c (P + 0) n) (hF : Jvm.ClassFile.Decoder.instr P = (Jvm.ClassFile.Reader.u1 >>= F)) (h : F n c (P + 1) = .ok (x, P + l)) : Jvm.ClassFile.decode c P = .ok (x, l) := by
  have e : Jvm.ClassFile.decode c P = Except.bind (Jvm.ClassFile.Decoder.instr P c P) (fun r => .ok (r.1, r.2 - P)) := rfl
  have e2 : (Jvm.ClassFile.Reader.u1 >>= F) c P = Except.bind ((Jvm.ClassFile.Reader.u1 : Jvm.ClassFile.Decoder Nat) c P) (fun r => F r.1 c r.2) := rfl
  rw [e, hF, e2, wt_r1 (p := P) hn]
  show Except.bind (F n c (P + 1)) _ = _
  rw [h]
  show (.ok (x, P + l - P) : Except Jvm.ClassFile.DecodeError (Jvm.ClassFile.Instr × Nat)) = _
  rw [Nat.add_sub_cancel_left]
theorem wt_o0 {x : Jvm.ClassFile.Instr} (hF : Jvm.ClassFile.Decoder.instr P = (Jvm.ClassFile.Reader.u1 >>= F)) (h : F n = Pure.pure x) (hn : wt_nb c (P + 0) n) : Jvm.ClassFile.decode c P = .ok (x, 1) := wt_oI hn hF (by rw [h]; rfl)
theorem wt_o1 {a : Nat} (g : Nat → Jvm.ClassFile.Instr) (hF : Jvm.ClassFile.Decoder.instr P = (Jvm.ClassFile.Reader.u1 >>= F)) (h : F n = (Jvm.ClassFile.Reader.u1 >>= fun x => pure (g x))) (hn : wt_nb c (P + 0) n) (ha : wt_nb c (P + 1) a) : Jvm.ClassFile.decode c P = .ok (g a, 2) := wt_oI hn hF (by
  have e : (Jvm.ClassFile.Reader.u1 >>= fun x => (pure (g x) : Jvm.ClassFile.Decoder Jvm.ClassFile.Instr)) c (P + 1) = Except.bind ((Jvm.ClassFile.Reader.u1 : Jvm.ClassFile.Decoder Nat) c (P + 1)) (fun r => .ok (g r.1, r.2)) := rfl
  rw [h, e, wt_r1 ha]
  rfl)
theorem wt_o1s {a : Nat} (g : Int → Jvm.ClassFile.Instr) (hF : Jvm.ClassFile.Decoder.instr P = (Jvm.ClassFile.Reader.u1 >>= F)) (h : F n = (Jvm.ClassFile.Reader.s1 >>= fun x => pure (g x))) (hn : wt_nb c (P + 0) n) (ha : wt_nb c (P + 1) a) : Jvm.ClassFile.decode c P = .ok (g (Jvm.ClassFile.Reader.signed 8 a), 2) := wt_oI hn hF (by
  have e : (Jvm.ClassFile.Reader.s1 >>= fun x => (pure (g x) : Jvm.ClassFile.Decoder Jvm.ClassFile.Instr)) c (P + 1) = Except.bind ((Jvm.ClassFile.Reader.s1 : Jvm.ClassFile.Decoder Int) c (P + 1)) (fun r => .ok (g r.1, r.2)) := rfl
  rw [h, e, wt_rs1 ha]
  rfl)
theorem wt_o2 {a b : Nat} (g : Nat → Jvm.ClassFile.Instr) (hF : Jvm.ClassFile.Decoder.instr P = (Jvm.ClassFile.Reader.u1 >>= F)) (h : F n = (Jvm.ClassFile.Reader.u2 >>= fun x => pure (g x))) (hn : wt_nb c (P + 0) n) (ha : wt_nb c (P + 1) a) (hb : wt_nb c (P + 2) b) : Jvm.ClassFile.decode c P = .ok (g (a * 256 + b), 3) := wt_oI hn hF (by
  have e : (Jvm.ClassFile.Reader.u2 >>= fun x => (pure (g x) : Jvm.ClassFile.Decoder Jvm.ClassFile.Instr)) c (P + 1) = Except.bind ((Jvm.ClassFile.Reader.u2 : Jvm.ClassFile.Decoder Nat) c (P + 1)) (fun r => .ok (g r.1, r.2)) := rfl
  rw [h, e, wt_r2 ha hb]
  rfl)
theorem wt_o2s {a b : Nat} (g : Int → Jvm.ClassFile.Instr) (hF : Jvm.ClassFile.Decoder.instr P = (Jvm.ClassFile.Reader.u1 >>= F)) (h : F n = (Jvm.ClassFile.Reader.s2 >>= fun x => pure (g x))) (hn : wt_nb c (P + 0) n) (ha : wt_nb c (P + 1) a) (hb : wt_nb c (P + 2) b) : Jvm.ClassFile.decode c P = .ok (g (Jvm.ClassFile.Reader.signed 16 (a * 256 + b)), 3) := wt_oI hn hF (by
  have e : (Jvm.ClassFile.Reader.s2 >>= fun x => (pure (g x) : Jvm.ClassFile.Decoder Jvm.ClassFile.Instr)) c (P + 1) = Except.bind ((Jvm.ClassFile.Reader.s2 : Jvm.ClassFile.Decoder Int) c (P + 1)) (fun r => .ok (g r.1, r.2)) := rfl
  rw [h, e, wt_rs2 ha hb]
  rfl)
theorem wt_o11 {a b : Nat} (g : Nat → Int → Jvm.ClassFile.Instr) (hF : Jvm.ClassFile.Decoder.instr P = (Jvm.ClassFile.Reader.u1 >>= F)) (h : F n = (Jvm.ClassFile.Reader.u1 >>= fun x => Jvm.ClassFile.Reader.s1 >>= fun y => pure (g x y))) (hn : wt_nb c (P + 0) n) (ha : wt_nb c (P + 1) a) (hb : wt_nb c (P + 2) b) : Jvm.ClassFile.decode c P = .ok (g a (Jvm.ClassFile.Reader.signed 8 b), 3) := wt_oI hn hF (by
  have e : (Jvm.ClassFile.Reader.u1 >>= fun x => Jvm.ClassFile.Reader.s1 >>= fun y => (pure (g x y) : Jvm.ClassFile.Decoder Jvm.ClassFile.Instr)) c (P + 1) = Except.bind ((Jvm.ClassFile.Reader.u1 : Jvm.ClassFile.Decoder Nat) c (P + 1)) (fun r => Except.bind ((Jvm.ClassFile.Reader.s1 : Jvm.ClassFile.Decoder Int) c r.2) (fun t => .ok (g r.1 t.1, t.2))) := rfl
  rw [h, e, wt_r1 ha]
  show Except.bind ((Jvm.ClassFile.Reader.s1 : Jvm.ClassFile.Decoder Int) c (P + 2)) _ = _
  rw [wt_rs1 hb]
  rfl)
theorem wt_oN {x : Jvm.ClassFile.Instr} {G : Nat → Jvm.ClassFile.Decoder Jvm.ClassFile.Instr} {a : Nat} (hF : Jvm.ClassFile.Decoder.instr P = (Jvm.ClassFile.Reader.u1 >>= F)) (h : F n = (Jvm.ClassFile.Reader.u1 >>= G)) (hG : G a = Pure.pure x) (hn : wt_nb c (P + 0) n) (ha : wt_nb c (P + 1) a) : Jvm.ClassFile.decode c P = .ok (x, 2) := wt_oI hn hF (by
  have e : (Jvm.ClassFile.Reader.u1 >>= G) c (P + 1) = Except.bind ((Jvm.ClassFile.Reader.u1 : Jvm.ClassFile.Decoder Nat) c (P + 1)) (fun r => G r.1 c r.2) := rfl
  rw [h, e, wt_r1 ha]
  show G a c (P + 1 + 1) = _
  rw [hG]
  rfl)
theorem wt_op2 (h : wt_cs c k (L :: r)) (i : Nat) (hP : k + i = P) {R : List Nat} (e : L.drop i = 2 :: R) : Jvm.ClassFile.decode c P = .ok (.iconst (-1), 1) := wt_o0 (n := 2) rfl rfl (wt_cs_at h hP e 0 2 rfl)
theorem wt_op3 (h : wt_cs c k (L :: r)) (i : Nat) (hP : k + i = P) {R : List Nat} (e : L.drop i = 3 :: R) : Jvm.ClassFile.decode c P = .ok (.iconst 0, 1) := wt_o0 (n := 3) rfl rfl (wt_cs_at h hP e 0 3 rfl)
theorem wt_op4 (h : wt_cs c k (L :: r)) (i : Nat) (hP : k + i = P) {R : List Nat} (e : L.drop i = 4 :: R) : Jvm.ClassFile.decode c P = .ok (.iconst 1, 1) := wt_o0 (n := 4) rfl rfl (wt_cs_at h hP e 0 4 rfl)
theorem wt_op5 (h : wt_cs c k (L :: r)) (i : Nat) (hP : k + i = P) {R : List Nat} (e : L.drop i = 5 :: R) : Jvm.ClassFile.decode c P = .ok (.iconst 2, 1) := wt_o0 (n := 5) rfl rfl (wt_cs_at h hP e 0 5 rfl)
theorem wt_op6 (h : wt_cs c k (L :: r)) (i : Nat) (hP : k + i = P) {R : List Nat} (e : L.drop i = 6 :: R) : Jvm.ClassFile.decode c P = .ok (.iconst 3, 1) := wt_o0 (n := 6) rfl rfl (wt_cs_at h hP e 0 6 rfl)
theorem wt_op7 (h : wt_cs c k (L :: r)) (i : Nat) (hP : k + i = P) {R : List Nat} (e : L.drop i = 7 :: R) : Jvm.ClassFile.decode c P = .ok (.iconst 4, 1) := wt_o0 (n := 7) rfl rfl (wt_cs_at h hP e 0 7 rfl)
theorem wt_op8 (h : wt_cs c k (L :: r)) (i : Nat) (hP : k + i = P) {R : List Nat} (e : L.drop i = 8 :: R) : Jvm.ClassFile.decode c P = .ok (.iconst 5, 1) := wt_o0 (n := 8) rfl rfl (wt_cs_at h hP e 0 8 rfl)
theorem wt_op26 (h : wt_cs c k (L :: r)) (i : Nat) (hP : k + i = P) {R : List Nat} (e : L.drop i = 26 :: R) : Jvm.ClassFile.decode c P = .ok (.iload_n 0, 1) := wt_o0 (n := 26) rfl rfl (wt_cs_at h hP e 0 26 rfl)
theorem wt_op27 (h : wt_cs c k (L :: r)) (i : Nat) (hP : k + i = P) {R : List Nat} (e : L.drop i = 27 :: R) : Jvm.ClassFile.decode c P = .ok (.iload_n 1, 1) := wt_o0 (n := 27) rfl rfl (wt_cs_at h hP e 0 27 rfl)
theorem wt_op28 (h : wt_cs c k (L :: r)) (i : Nat) (hP : k + i = P) {R : List Nat} (e : L.drop i = 28 :: R) : Jvm.ClassFile.decode c P = .ok (.iload_n 2, 1) := wt_o0 (n := 28) rfl rfl (wt_cs_at h hP e 0 28 rfl)
theorem wt_op29 (h : wt_cs c k (L :: r)) (i : Nat) (hP : k + i = P) {R : List Nat} (e : L.drop i = 29 :: R) : Jvm.ClassFile.decode c P = .ok (.iload_n 3, 1) := wt_o0 (n := 29) rfl rfl (wt_cs_at h hP e 0 29 rfl)
theorem wt_op42 (h : wt_cs c k (L :: r)) (i : Nat) (hP : k + i = P) {R : List Nat} (e : L.drop i = 42 :: R) : Jvm.ClassFile.decode c P = .ok (.aload_n 0, 1) := wt_o0 (n := 42) rfl rfl (wt_cs_at h hP e 0 42 rfl)
theorem wt_op43 (h : wt_cs c k (L :: r)) (i : Nat) (hP : k + i = P) {R : List Nat} (e : L.drop i = 43 :: R) : Jvm.ClassFile.decode c P = .ok (.aload_n 1, 1) := wt_o0 (n := 43) rfl rfl (wt_cs_at h hP e 0 43 rfl)
theorem wt_op44 (h : wt_cs c k (L :: r)) (i : Nat) (hP : k + i = P) {R : List Nat} (e : L.drop i = 44 :: R) : Jvm.ClassFile.decode c P = .ok (.aload_n 2, 1) := wt_o0 (n := 44) rfl rfl (wt_cs_at h hP e 0 44 rfl)
theorem wt_op45 (h : wt_cs c k (L :: r)) (i : Nat) (hP : k + i = P) {R : List Nat} (e : L.drop i = 45 :: R) : Jvm.ClassFile.decode c P = .ok (.aload_n 3, 1) := wt_o0 (n := 45) rfl rfl (wt_cs_at h hP e 0 45 rfl)
theorem wt_op46 (h : wt_cs c k (L :: r)) (i : Nat) (hP : k + i = P) {R : List Nat} (e : L.drop i = 46 :: R) : Jvm.ClassFile.decode c P = .ok (.iaload, 1) := wt_o0 (n := 46) rfl rfl (wt_cs_at h hP e 0 46 rfl)
theorem wt_op47 (h : wt_cs c k (L :: r)) (i : Nat) (hP : k + i = P) {R : List Nat} (e : L.drop i = 47 :: R) : Jvm.ClassFile.decode c P = .ok (.laload, 1) := wt_o0 (n := 47) rfl rfl (wt_cs_at h hP e 0 47 rfl)
theorem wt_op50 (h : wt_cs c k (L :: r)) (i : Nat) (hP : k + i = P) {R : List Nat} (e : L.drop i = 50 :: R) : Jvm.ClassFile.decode c P = .ok (.aaload, 1) := wt_o0 (n := 50) rfl rfl (wt_cs_at h hP e 0 50 rfl)
theorem wt_op51 (h : wt_cs c k (L :: r)) (i : Nat) (hP : k + i = P) {R : List Nat} (e : L.drop i = 51 :: R) : Jvm.ClassFile.decode c P = .ok (.baload, 1) := wt_o0 (n := 51) rfl rfl (wt_cs_at h hP e 0 51 rfl)
theorem wt_op59 (h : wt_cs c k (L :: r)) (i : Nat) (hP : k + i = P) {R : List Nat} (e : L.drop i = 59 :: R) : Jvm.ClassFile.decode c P = .ok (.istore_n 0, 1) := wt_o0 (n := 59) rfl rfl (wt_cs_at h hP e 0 59 rfl)
theorem wt_op60 (h : wt_cs c k (L :: r)) (i : Nat) (hP : k + i = P) {R : List Nat} (e : L.drop i = 60 :: R) : Jvm.ClassFile.decode c P = .ok (.istore_n 1, 1) := wt_o0 (n := 60) rfl rfl (wt_cs_at h hP e 0 60 rfl)
theorem wt_op61 (h : wt_cs c k (L :: r)) (i : Nat) (hP : k + i = P) {R : List Nat} (e : L.drop i = 61 :: R) : Jvm.ClassFile.decode c P = .ok (.istore_n 2, 1) := wt_o0 (n := 61) rfl rfl (wt_cs_at h hP e 0 61 rfl)
theorem wt_op62 (h : wt_cs c k (L :: r)) (i : Nat) (hP : k + i = P) {R : List Nat} (e : L.drop i = 62 :: R) : Jvm.ClassFile.decode c P = .ok (.istore_n 3, 1) := wt_o0 (n := 62) rfl rfl (wt_cs_at h hP e 0 62 rfl)
theorem wt_op75 (h : wt_cs c k (L :: r)) (i : Nat) (hP : k + i = P) {R : List Nat} (e : L.drop i = 75 :: R) : Jvm.ClassFile.decode c P = .ok (.astore_n 0, 1) := wt_o0 (n := 75) rfl rfl (wt_cs_at h hP e 0 75 rfl)
theorem wt_op76 (h : wt_cs c k (L :: r)) (i : Nat) (hP : k + i = P) {R : List Nat} (e : L.drop i = 76 :: R) : Jvm.ClassFile.decode c P = .ok (.astore_n 1, 1) := wt_o0 (n := 76) rfl rfl (wt_cs_at h hP e 0 76 rfl)
theorem wt_op77 (h : wt_cs c k (L :: r)) (i : Nat) (hP : k + i = P) {R : List Nat} (e : L.drop i = 77 :: R) : Jvm.ClassFile.decode c P = .ok (.astore_n 2, 1) := wt_o0 (n := 77) rfl rfl (wt_cs_at h hP e 0 77 rfl)
theorem wt_op78 (h : wt_cs c k (L :: r)) (i : Nat) (hP : k + i = P) {R : List Nat} (e : L.drop i = 78 :: R) : Jvm.ClassFile.decode c P = .ok (.astore_n 3, 1) := wt_o0 (n := 78) rfl rfl (wt_cs_at h hP e 0 78 rfl)
theorem wt_op79 (h : wt_cs c k (L :: r)) (i : Nat) (hP : k + i = P) {R : List Nat} (e : L.drop i = 79 :: R) : Jvm.ClassFile.decode c P = .ok (.iastore, 1) := wt_o0 (n := 79) rfl rfl (wt_cs_at h hP e 0 79 rfl)
theorem wt_op80 (h : wt_cs c k (L :: r)) (i : Nat) (hP : k + i = P) {R : List Nat} (e : L.drop i = 80 :: R) : Jvm.ClassFile.decode c P = .ok (.lastore, 1) := wt_o0 (n := 80) rfl rfl (wt_cs_at h hP e 0 80 rfl)
theorem wt_op83 (h : wt_cs c k (L :: r)) (i : Nat) (hP : k + i = P) {R : List Nat} (e : L.drop i = 83 :: R) : Jvm.ClassFile.decode c P = .ok (.aastore, 1) := wt_o0 (n := 83) rfl rfl (wt_cs_at h hP e 0 83 rfl)
theorem wt_op87 (h : wt_cs c k (L :: r)) (i : Nat) (hP : k + i = P) {R : List Nat} (e : L.drop i = 87 :: R) : Jvm.ClassFile.decode c P = .ok (.pop, 1) := wt_o0 (n := 87) rfl rfl (wt_cs_at h hP e 0 87 rfl)
theorem wt_op89 (h : wt_cs c k (L :: r)) (i : Nat) (hP : k + i = P) {R : List Nat} (e : L.drop i = 89 :: R) : Jvm.ClassFile.decode c P = .ok (.dup, 1) := wt_o0 (n := 89) rfl rfl (wt_cs_at h hP e 0 89 rfl)
theorem wt_op92 (h : wt_cs c k (L :: r)) (i : Nat) (hP : k + i = P) {R : List Nat} (e : L.drop i = 92 :: R) : Jvm.ClassFile.decode c P = .ok (.dup2, 1) := wt_o0 (n := 92) rfl rfl (wt_cs_at h hP e 0 92 rfl)
theorem wt_op96 (h : wt_cs c k (L :: r)) (i : Nat) (hP : k + i = P) {R : List Nat} (e : L.drop i = 96 :: R) : Jvm.ClassFile.decode c P = .ok (.iadd, 1) := wt_o0 (n := 96) rfl rfl (wt_cs_at h hP e 0 96 rfl)
theorem wt_op100 (h : wt_cs c k (L :: r)) (i : Nat) (hP : k + i = P) {R : List Nat} (e : L.drop i = 100 :: R) : Jvm.ClassFile.decode c P = .ok (.isub, 1) := wt_o0 (n := 100) rfl rfl (wt_cs_at h hP e 0 100 rfl)
theorem wt_op104 (h : wt_cs c k (L :: r)) (i : Nat) (hP : k + i = P) {R : List Nat} (e : L.drop i = 104 :: R) : Jvm.ClassFile.decode c P = .ok (.imul, 1) := wt_o0 (n := 104) rfl rfl (wt_cs_at h hP e 0 104 rfl)
theorem wt_op108 (h : wt_cs c k (L :: r)) (i : Nat) (hP : k + i = P) {R : List Nat} (e : L.drop i = 108 :: R) : Jvm.ClassFile.decode c P = .ok (.idiv, 1) := wt_o0 (n := 108) rfl rfl (wt_cs_at h hP e 0 108 rfl)
theorem wt_op112 (h : wt_cs c k (L :: r)) (i : Nat) (hP : k + i = P) {R : List Nat} (e : L.drop i = 112 :: R) : Jvm.ClassFile.decode c P = .ok (.irem, 1) := wt_o0 (n := 112) rfl rfl (wt_cs_at h hP e 0 112 rfl)
theorem wt_op120 (h : wt_cs c k (L :: r)) (i : Nat) (hP : k + i = P) {R : List Nat} (e : L.drop i = 120 :: R) : Jvm.ClassFile.decode c P = .ok (.ishl, 1) := wt_o0 (n := 120) rfl rfl (wt_cs_at h hP e 0 120 rfl)
theorem wt_op122 (h : wt_cs c k (L :: r)) (i : Nat) (hP : k + i = P) {R : List Nat} (e : L.drop i = 122 :: R) : Jvm.ClassFile.decode c P = .ok (.ishr, 1) := wt_o0 (n := 122) rfl rfl (wt_cs_at h hP e 0 122 rfl)
theorem wt_op124 (h : wt_cs c k (L :: r)) (i : Nat) (hP : k + i = P) {R : List Nat} (e : L.drop i = 124 :: R) : Jvm.ClassFile.decode c P = .ok (.iushr, 1) := wt_o0 (n := 124) rfl rfl (wt_cs_at h hP e 0 124 rfl)
theorem wt_op126 (h : wt_cs c k (L :: r)) (i : Nat) (hP : k + i = P) {R : List Nat} (e : L.drop i = 126 :: R) : Jvm.ClassFile.decode c P = .ok (.iand, 1) := wt_o0 (n := 126) rfl rfl (wt_cs_at h hP e 0 126 rfl)
theorem wt_op128 (h : wt_cs c k (L :: r)) (i : Nat) (hP : k + i = P) {R : List Nat} (e : L.drop i = 128 :: R) : Jvm.ClassFile.decode c P = .ok (.ior, 1) := wt_o0 (n := 128) rfl rfl (wt_cs_at h hP e 0 128 rfl)
theorem wt_op133 (h : wt_cs c k (L :: r)) (i : Nat) (hP : k + i = P) {R : List Nat} (e : L.drop i = 133 :: R) : Jvm.ClassFile.decode c P = .ok (.i2l, 1) := wt_o0 (n := 133) rfl rfl (wt_cs_at h hP e 0 133 rfl)
theorem wt_op146 (h : wt_cs c k (L :: r)) (i : Nat) (hP : k + i = P) {R : List Nat} (e : L.drop i = 146 :: R) : Jvm.ClassFile.decode c P = .ok (.i2c, 1) := wt_o0 (n := 146) rfl rfl (wt_cs_at h hP e 0 146 rfl)
theorem wt_op148 (h : wt_cs c k (L :: r)) (i : Nat) (hP : k + i = P) {R : List Nat} (e : L.drop i = 148 :: R) : Jvm.ClassFile.decode c P = .ok (.lcmp, 1) := wt_o0 (n := 148) rfl rfl (wt_cs_at h hP e 0 148 rfl)
theorem wt_op172 (h : wt_cs c k (L :: r)) (i : Nat) (hP : k + i = P) {R : List Nat} (e : L.drop i = 172 :: R) : Jvm.ClassFile.decode c P = .ok (.ireturn, 1) := wt_o0 (n := 172) rfl rfl (wt_cs_at h hP e 0 172 rfl)
theorem wt_op176 (h : wt_cs c k (L :: r)) (i : Nat) (hP : k + i = P) {R : List Nat} (e : L.drop i = 176 :: R) : Jvm.ClassFile.decode c P = .ok (.areturn, 1) := wt_o0 (n := 176) rfl rfl (wt_cs_at h hP e 0 176 rfl)
theorem wt_op177 (h : wt_cs c k (L :: r)) (i : Nat) (hP : k + i = P) {R : List Nat} (e : L.drop i = 177 :: R) : Jvm.ClassFile.decode c P = .ok (.return_, 1) := wt_o0 (n := 177) rfl rfl (wt_cs_at h hP e 0 177 rfl)
theorem wt_op190 (h : wt_cs c k (L :: r)) (i : Nat) (hP : k + i = P) {R : List Nat} (e : L.drop i = 190 :: R) : Jvm.ClassFile.decode c P = .ok (.arraylength, 1) := wt_o0 (n := 190) rfl rfl (wt_cs_at h hP e 0 190 rfl)
theorem wt_op191 (h : wt_cs c k (L :: r)) (i : Nat) (hP : k + i = P) {R : List Nat} (e : L.drop i = 191 :: R) : Jvm.ClassFile.decode c P = .ok (.athrow, 1) := wt_o0 (n := 191) rfl rfl (wt_cs_at h hP e 0 191 rfl)
theorem wt_op18 (h : wt_cs c k (L :: r)) (i : Nat) (hP : k + i = P) {x : Nat} {R : List Nat} (e : L.drop i = 18 :: x :: R) : Jvm.ClassFile.decode c P = .ok (.ldc x, 2) := wt_o1 (n := 18) (fun x => .ldc x) rfl rfl (wt_cs_at h hP e 0 18 rfl) (wt_cs_at h hP e 1 x rfl)
theorem wt_op21 (h : wt_cs c k (L :: r)) (i : Nat) (hP : k + i = P) {x : Nat} {R : List Nat} (e : L.drop i = 21 :: x :: R) : Jvm.ClassFile.decode c P = .ok (.iload x, 2) := wt_o1 (n := 21) (fun x => .iload x) rfl rfl (wt_cs_at h hP e 0 21 rfl) (wt_cs_at h hP e 1 x rfl)
theorem wt_op25 (h : wt_cs c k (L :: r)) (i : Nat) (hP : k + i = P) {x : Nat} {R : List Nat} (e : L.drop i = 25 :: x :: R) : Jvm.ClassFile.decode c P = .ok (.aload x, 2) := wt_o1 (n := 25) (fun x => .aload x) rfl rfl (wt_cs_at h hP e 0 25 rfl) (wt_cs_at h hP e 1 x rfl)
theorem wt_op54 (h : wt_cs c k (L :: r)) (i : Nat) (hP : k + i = P) {x : Nat} {R : List Nat} (e : L.drop i = 54 :: x :: R) : Jvm.ClassFile.decode c P = .ok (.istore x, 2) := wt_o1 (n := 54) (fun x => .istore x) rfl rfl (wt_cs_at h hP e 0 54 rfl) (wt_cs_at h hP e 1 x rfl)
theorem wt_op58 (h : wt_cs c k (L :: r)) (i : Nat) (hP : k + i = P) {x : Nat} {R : List Nat} (e : L.drop i = 58 :: x :: R) : Jvm.ClassFile.decode c P = .ok (.astore x, 2) := wt_o1 (n := 58) (fun x => .astore x) rfl rfl (wt_cs_at h hP e 0 58 rfl) (wt_cs_at h hP e 1 x rfl)
theorem wt_op16 (h : wt_cs c k (L :: r)) (i : Nat) (hP : k + i = P) {a : Nat} {R : List Nat} (e : L.drop i = 16 :: a :: R) {x : Int} (hx : Jvm.ClassFile.Reader.signed 8 a = x) : Jvm.ClassFile.decode c P = .ok (.bipush x, 2) := by
  rw [← hx]
  exact wt_o1s (n := 16) (fun x => .bipush x) rfl rfl (wt_cs_at h hP e 0 16 rfl) (wt_cs_at h hP e 1 a rfl)
theorem wt_op19 (h : wt_cs c k (L :: r)) (i : Nat) (hP : k + i = P) {a b : Nat} {R : List Nat} (e : L.drop i = 19 :: a :: b :: R) {x : Nat} (hx : a * 256 + b = x) : Jvm.ClassFile.decode c P = .ok (.ldc_w x, 3) := by
  rw [← hx]
  exact wt_o2 (n := 19) (fun x => .ldc_w x) rfl rfl (wt_cs_at h hP e 0 19 rfl) (wt_cs_at h hP e 1 a rfl) (wt_cs_at h hP e 2 b rfl)
theorem wt_op178 (h : wt_cs c k (L :: r)) (i : Nat) (hP : k + i = P) {a b : Nat} {R : List Nat} (e : L.drop i = 178 :: a :: b :: R) {x : Nat} (hx : a * 256 + b = x) : Jvm.ClassFile.decode c P = .ok (.getstatic x, 3) := by
  rw [← hx]
  exact wt_o2 (n := 178) (fun x => .getstatic x) rfl rfl (wt_cs_at h hP e 0 178 rfl) (wt_cs_at h hP e 1 a rfl) (wt_cs_at h hP e 2 b rfl)
theorem wt_op180 (h : wt_cs c k (L :: r)) (i : Nat) (hP : k + i = P) {a b : Nat} {R : List Nat} (e : L.drop i = 180 :: a :: b :: R) {x : Nat} (hx : a * 256 + b = x) : Jvm.ClassFile.decode c P = .ok (.getfield x, 3) := by
  rw [← hx]
  exact wt_o2 (n := 180) (fun x => .getfield x) rfl rfl (wt_cs_at h hP e 0 180 rfl) (wt_cs_at h hP e 1 a rfl) (wt_cs_at h hP e 2 b rfl)
theorem wt_op181 (h : wt_cs c k (L :: r)) (i : Nat) (hP : k + i = P) {a b : Nat} {R : List Nat} (e : L.drop i = 181 :: a :: b :: R) {x : Nat} (hx : a * 256 + b = x) : Jvm.ClassFile.decode c P = .ok (.putfield x, 3) := by
  rw [← hx]
  exact wt_o2 (n := 181) (fun x => .putfield x) rfl rfl (wt_cs_at h hP e 0 181 rfl) (wt_cs_at h hP e 1 a rfl) (wt_cs_at h hP e 2 b rfl)
theorem wt_op182 (h : wt_cs c k (L :: r)) (i : Nat) (hP : k + i = P) {a b : Nat} {R : List Nat} (e : L.drop i = 182 :: a :: b :: R) {x : Nat} (hx : a * 256 + b = x) : Jvm.ClassFile.decode c P = .ok (.invokevirtual x, 3) := by
  rw [← hx]
  exact wt_o2 (n := 182) (fun x => .invokevirtual x) rfl rfl (wt_cs_at h hP e 0 182 rfl) (wt_cs_at h hP e 1 a rfl) (wt_cs_at h hP e 2 b rfl)
theorem wt_op183 (h : wt_cs c k (L :: r)) (i : Nat) (hP : k + i = P) {a b : Nat} {R : List Nat} (e : L.drop i = 183 :: a :: b :: R) {x : Nat} (hx : a * 256 + b = x) : Jvm.ClassFile.decode c P = .ok (.invokespecial x, 3) := by
  rw [← hx]
  exact wt_o2 (n := 183) (fun x => .invokespecial x) rfl rfl (wt_cs_at h hP e 0 183 rfl) (wt_cs_at h hP e 1 a rfl) (wt_cs_at h hP e 2 b rfl)
theorem wt_op184 (h : wt_cs c k (L :: r)) (i : Nat) (hP : k + i = P) {a b : Nat} {R : List Nat} (e : L.drop i = 184 :: a :: b :: R) {x : Nat} (hx : a * 256 + b = x) : Jvm.ClassFile.decode c P = .ok (.invokestatic x, 3) := by
  rw [← hx]
  exact wt_o2 (n := 184) (fun x => .invokestatic x) rfl rfl (wt_cs_at h hP e 0 184 rfl) (wt_cs_at h hP e 1 a rfl) (wt_cs_at h hP e 2 b rfl)
theorem wt_op187 (h : wt_cs c k (L :: r)) (i : Nat) (hP : k + i = P) {a b : Nat} {R : List Nat} (e : L.drop i = 187 :: a :: b :: R) {x : Nat} (hx : a * 256 + b = x) : Jvm.ClassFile.decode c P = .ok (.new x, 3) := by
  rw [← hx]
  exact wt_o2 (n := 187) (fun x => .new x) rfl rfl (wt_cs_at h hP e 0 187 rfl) (wt_cs_at h hP e 1 a rfl) (wt_cs_at h hP e 2 b rfl)
theorem wt_op189 (h : wt_cs c k (L :: r)) (i : Nat) (hP : k + i = P) {a b : Nat} {R : List Nat} (e : L.drop i = 189 :: a :: b :: R) {x : Nat} (hx : a * 256 + b = x) : Jvm.ClassFile.decode c P = .ok (.anewarray x, 3) := by
  rw [← hx]
  exact wt_o2 (n := 189) (fun x => .anewarray x) rfl rfl (wt_cs_at h hP e 0 189 rfl) (wt_cs_at h hP e 1 a rfl) (wt_cs_at h hP e 2 b rfl)
theorem wt_op17 (h : wt_cs c k (L :: r)) (i : Nat) (hP : k + i = P) {a b : Nat} {R : List Nat} (e : L.drop i = 17 :: a :: b :: R) {x : Int} (hx : Jvm.ClassFile.Reader.signed 16 (a * 256 + b) = x) : Jvm.ClassFile.decode c P = .ok (.sipush x, 3) := by
  rw [← hx]
  exact wt_o2s (n := 17) (fun x => .sipush x) rfl rfl (wt_cs_at h hP e 0 17 rfl) (wt_cs_at h hP e 1 a rfl) (wt_cs_at h hP e 2 b rfl)
theorem wt_op167 (h : wt_cs c k (L :: r)) (i : Nat) (hP : k + i = P) {a b : Nat} {R : List Nat} (e : L.drop i = 167 :: a :: b :: R) {x : Int} (hx : Jvm.ClassFile.Reader.signed 16 (a * 256 + b) = x) : Jvm.ClassFile.decode c P = .ok (.goto x, 3) := by
  rw [← hx]
  exact wt_o2s (n := 167) (fun x => .goto x) rfl rfl (wt_cs_at h hP e 0 167 rfl) (wt_cs_at h hP e 1 a rfl) (wt_cs_at h hP e 2 b rfl)
theorem wt_op153 (h : wt_cs c k (L :: r)) (i : Nat) (hP : k + i = P) {a b : Nat} {R : List Nat} (e : L.drop i = 153 :: a :: b :: R) {x : Int} (hx : Jvm.ClassFile.Reader.signed 16 (a * 256 + b) = x) : Jvm.ClassFile.decode c P = .ok (.ifCond .eq x, 3) := by
  rw [← hx]
  exact wt_o2s (n := 153) (fun x => .ifCond .eq x) rfl rfl (wt_cs_at h hP e 0 153 rfl) (wt_cs_at h hP e 1 a rfl) (wt_cs_at h hP e 2 b rfl)
theorem wt_op159 (h : wt_cs c k (L :: r)) (i : Nat) (hP : k + i = P) {a b : Nat} {R : List Nat} (e : L.drop i = 159 :: a :: b :: R) {x : Int} (hx : Jvm.ClassFile.Reader.signed 16 (a * 256 + b) = x) : Jvm.ClassFile.decode c P = .ok (.if_icmp .eq x, 3) := by
  rw [← hx]
  exact wt_o2s (n := 159) (fun x => .if_icmp .eq x) rfl rfl (wt_cs_at h hP e 0 159 rfl) (wt_cs_at h hP e 1 a rfl) (wt_cs_at h hP e 2 b rfl)
theorem wt_op154 (h : wt_cs c k (L :: r)) (i : Nat) (hP : k + i = P) {a b : Nat} {R : List Nat} (e : L.drop i = 154 :: a :: b :: R) {x : Int} (hx : Jvm.ClassFile.Reader.signed 16 (a * 256 + b) = x) : Jvm.ClassFile.decode c P = .ok (.ifCond .ne x, 3) := by
  rw [← hx]
  exact wt_o2s (n := 154) (fun x => .ifCond .ne x) rfl rfl (wt_cs_at h hP e 0 154 rfl) (wt_cs_at h hP e 1 a rfl) (wt_cs_at h hP e 2 b rfl)
theorem wt_op160 (h : wt_cs c k (L :: r)) (i : Nat) (hP : k + i = P) {a b : Nat} {R : List Nat} (e : L.drop i = 160 :: a :: b :: R) {x : Int} (hx : Jvm.ClassFile.Reader.signed 16 (a * 256 + b) = x) : Jvm.ClassFile.decode c P = .ok (.if_icmp .ne x, 3) := by
  rw [← hx]
  exact wt_o2s (n := 160) (fun x => .if_icmp .ne x) rfl rfl (wt_cs_at h hP e 0 160 rfl) (wt_cs_at h hP e 1 a rfl) (wt_cs_at h hP e 2 b rfl)
theorem wt_op155 (h : wt_cs c k (L :: r)) (i : Nat) (hP : k + i = P) {a b : Nat} {R : List Nat} (e : L.drop i = 155 :: a :: b :: R) {x : Int} (hx : Jvm.ClassFile.Reader.signed 16 (a * 256 + b) = x) : Jvm.ClassFile.decode c P = .ok (.ifCond .lt x, 3) := by
  rw [← hx]
  exact wt_o2s (n := 155) (fun x => .ifCond .lt x) rfl rfl (wt_cs_at h hP e 0 155 rfl) (wt_cs_at h hP e 1 a rfl) (wt_cs_at h hP e 2 b rfl)
theorem wt_op161 (h : wt_cs c k (L :: r)) (i : Nat) (hP : k + i = P) {a b : Nat} {R : List Nat} (e : L.drop i = 161 :: a :: b :: R) {x : Int} (hx : Jvm.ClassFile.Reader.signed 16 (a * 256 + b) = x) : Jvm.ClassFile.decode c P = .ok (.if_icmp .lt x, 3) := by
  rw [← hx]
  exact wt_o2s (n := 161) (fun x => .if_icmp .lt x) rfl rfl (wt_cs_at h hP e 0 161 rfl) (wt_cs_at h hP e 1 a rfl) (wt_cs_at h hP e 2 b rfl)
theorem wt_op156 (h : wt_cs c k (L :: r)) (i : Nat) (hP : k + i = P) {a b : Nat} {R : List Nat} (e : L.drop i = 156 :: a :: b :: R) {x : Int} (hx : Jvm.ClassFile.Reader.signed 16 (a * 256 + b) = x) : Jvm.ClassFile.decode c P = .ok (.ifCond .ge x, 3) := by
  rw [← hx]
  exact wt_o2s (n := 156) (fun x => .ifCond .ge x) rfl rfl (wt_cs_at h hP e 0 156 rfl) (wt_cs_at h hP e 1 a rfl) (wt_cs_at h hP e 2 b rfl)
theorem wt_op162 (h : wt_cs c k (L :: r)) (i : Nat) (hP : k + i = P) {a b : Nat} {R : List Nat} (e : L.drop i = 162 :: a :: b :: R) {x : Int} (hx : Jvm.ClassFile.Reader.signed 16 (a * 256 + b) = x) : Jvm.ClassFile.decode c P = .ok (.if_icmp .ge x, 3) := by
  rw [← hx]
  exact wt_o2s (n := 162) (fun x => .if_icmp .ge x) rfl rfl (wt_cs_at h hP e 0 162 rfl) (wt_cs_at h hP e 1 a rfl) (wt_cs_at h hP e 2 b rfl)
theorem wt_op157 (h : wt_cs c k (L :: r)) (i : Nat) (hP : k + i = P) {a b : Nat} {R : List Nat} (e : L.drop i = 157 :: a :: b :: R) {x : Int} (hx : Jvm.ClassFile.Reader.signed 16 (a * 256 + b) = x) : Jvm.ClassFile.decode c P = .ok (.ifCond .gt x, 3) := by
  rw [← hx]
  exact wt_o2s (n := 157) (fun x => .ifCond .gt x) rfl rfl (wt_cs_at h hP e 0 157 rfl) (wt_cs_at h hP e 1 a rfl) (wt_cs_at h hP e 2 b rfl)
theorem wt_op163 (h : wt_cs c k (L :: r)) (i : Nat) (hP : k + i = P) {a b : Nat} {R : List Nat} (e : L.drop i = 163 :: a :: b :: R) {x : Int} (hx : Jvm.ClassFile.Reader.signed 16 (a * 256 + b) = x) : Jvm.ClassFile.decode c P = .ok (.if_icmp .gt x, 3) := by
  rw [← hx]
  exact wt_o2s (n := 163) (fun x => .if_icmp .gt x) rfl rfl (wt_cs_at h hP e 0 163 rfl) (wt_cs_at h hP e 1 a rfl) (wt_cs_at h hP e 2 b rfl)
theorem wt_op158 (h : wt_cs c k (L :: r)) (i : Nat) (hP : k + i = P) {a b : Nat} {R : List Nat} (e : L.drop i = 158 :: a :: b :: R) {x : Int} (hx : Jvm.ClassFile.Reader.signed 16 (a * 256 + b) = x) : Jvm.ClassFile.decode c P = .ok (.ifCond .le x, 3) := by
  rw [← hx]
  exact wt_o2s (n := 158) (fun x => .ifCond .le x) rfl rfl (wt_cs_at h hP e 0 158 rfl) (wt_cs_at h hP e 1 a rfl) (wt_cs_at h hP e 2 b rfl)
theorem wt_op164 (h : wt_cs c k (L :: r)) (i : Nat) (hP : k + i = P) {a b : Nat} {R : List Nat} (e : L.drop i = 164 :: a :: b :: R) {x : Int} (hx : Jvm.ClassFile.Reader.signed 16 (a * 256 + b) = x) : Jvm.ClassFile.decode c P = .ok (.if_icmp .le x, 3) := by
  rw [← hx]
  exact wt_o2s (n := 164) (fun x => .if_icmp .le x) rfl rfl (wt_cs_at h hP e 0 164 rfl) (wt_cs_at h hP e 1 a rfl) (wt_cs_at h hP e 2 b rfl)
theorem wt_op132 (h : wt_cs c k (L :: r)) (i : Nat) (hP : k + i = P) {a b : Nat} {R : List Nat} (e : L.drop i = 132 :: a :: b :: R) {x : Int} (hx : Jvm.ClassFile.Reader.signed 8 b = x) : Jvm.ClassFile.decode c P = .ok (.iinc a x, 3) := by
  rw [← hx]
  exact wt_o11 (n := 132) (fun x y => .iinc x y) rfl rfl (wt_cs_at h hP e 0 132 rfl) (wt_cs_at h hP e 1 a rfl) (wt_cs_at h hP e 2 b rfl)
theorem wt_op188 (h : wt_cs c k (L :: r)) (i : Nat) (hP : k + i = P) {R : List Nat} (e : L.drop i = 188 :: 10 :: R) : Jvm.ClassFile.decode c P = .ok (.newarray .int, 2) := wt_oN (n := 188) (a := 10) rfl rfl rfl (wt_cs_at h hP e 0 188 rfl) (wt_cs_at h hP e 1 10 rfl)
end WTDEC
end WTQ1
-- 03.fw.lean.txt
section WTQ2
/-! The world of numbers: what the class's and the reference's cells hold, by ids; a judgement wt_V of a method's rows over it, and a row an instruction. -/
abbrev wt_St : Type := (Nat → Nat → Int32) × (Nat → Nat → Int32)
def wt_gf (σ : wt_St) (i k : Nat) : Int32 := σ.1 i k
def wt_ga (σ : wt_St) (i j : Nat) : Int32 := σ.2 i j
def wt_sf (σ : wt_St) (i k : Nat) (v : Int32) : wt_St := (fun i' k' => if i' = i ∧ k' = k then v else σ.1 i' k', σ.2)
def wt_sa (σ : wt_St) (i j : Nat) (v : Int32) : wt_St := (σ.1, fun i' j' => if i' = i ∧ j' = j then v else σ.2 i' j')
theorem wt_gf_sf (σ : wt_St) (i k i' k' : Nat) (v : Int32) : wt_gf (wt_sf σ i k v) i' k' = if i' = i ∧ k' = k then v else wt_gf σ i' k' := rfl
theorem wt_ga_sa (σ : wt_St) (i k i' k' : Nat) (v : Int32) : wt_ga (wt_sa σ i k v) i' k' = if i' = i ∧ k' = k then v else wt_ga σ i' k' := rfl
theorem wt_gf_sa (σ : wt_St) (i k i' k' : Nat) (v : Int32) : wt_gf (wt_sa σ i k v) i' k' = wt_gf σ i' k' := rfl
theorem wt_ga_sf (σ : wt_St) (i k i' k' : Nat) (v : Int32) : wt_ga (wt_sf σ i k v) i' k' = wt_ga σ i' k' := rfl
def wt_fv (ad : Nat → Nat) (σ : wt_St) (i k r : Nat) : Value := if r = 0 then .int (wt_gf σ i k) else .ref (ad (r - 1))
def wt_ce (cI cII cS : ClassId) (ad : Nat → Nat) (σ : wt_St) (i : Nat) : va_E := match wt_LAY[i]? with
  | some (0, n, _) => .inl (cI, n, .inl (wt_ga σ i))
  | some (1, n, rs) => .inl (cII, n, .inr (.inr (.inr (.inr (fun j => if j < n then some (ad (rs.getD 0 0 + j)) else none)))))
  | some (2, n, rs) => .inl (cS, n, .inr (.inr (.inr (.inr (fun j => if j < n then some (ad (rs.getD 0 0 + rs.getD 1 0 * j)) else none)))))
  | some (k + 3, _, rs) => .inr (k, (List.range rs.length).map (fun q => wt_fv ad σ i q (rs.getD q 0)))
  | none => .inl (cI, 0, .inl (fun _ => 0))
/-- the world's fixed things: the classes' numbers, the array classes, the addresses, which ids are there -/
abbrev wt_E : Type := va_G × ClassId × ClassId × ClassId × (Nat → Nat) × (Nat → Prop)
abbrev wt_wD (w : wt_E) : va_G := w.1
abbrev wt_wI (w : wt_E) : ClassId := w.2.1
abbrev wt_wJ (w : wt_E) : ClassId := w.2.2.1
abbrev wt_wS (w : wt_E) : ClassId := w.2.2.2.1
abbrev wt_ad (w : wt_E) : Nat → Nat := w.2.2.2.2.1
abbrev wt_dom (w : wt_E) : Nat → Prop := w.2.2.2.2.2
abbrev wt_cell (w : wt_E) (σ : wt_St) (i : Nat) : va_E := wt_ce (wt_wI w) (wt_wJ w) (wt_wS w) (wt_ad w) σ i
abbrev wt_tys (w : wt_E) : List (ClassId × FieldType) := [(wt_wI w, .int), (wt_wJ w, .array .int), (wt_wS w, .object "WornType$State")]
def wt_Wd (w : wt_E) (σ : wt_St) (H : Heap) : Prop := (∀ i, wt_dom w i → va_at (wt_wD w) wt_cl (wt_ad w i, wt_cell w σ i) H) ∧ ∀ i j, wt_dom w i → wt_dom w j → wt_ad w i = wt_ad w j → i = j
def wt_A (w : wt_E) (sz : Nat) : Nat → Prop := fun q => (∃ i, wt_dom w i ∧ q = wt_ad w i) ∨ sz ≤ q
theorem wt_Wd.one {w : wt_E} {σ : wt_St} {H : Heap} (h : wt_Wd w σ H) {i : Nat} (hi : wt_dom w i) : va_P (wt_wD w) wt_cl [(wt_ad w i, wt_cell w σ i)] H := fun k q hk => by
  have h0 : k = 0 := by
    have := (List.getElem?_eq_some_iff.mp hk).1
    simp at this
    exact this
  subst h0
  cases hk
  exact h.1 i hi
/-- one cell is another one: all else stays -/
theorem wt_Wd.put {w : wt_E} {σ σ' : wt_St} {H H1 : Heap} (h : wt_Wd w σ H) {i : Nat} (hi : wt_dom w i) (hc : va_at (wt_wD w) wt_cl (wt_ad w i, wt_cell w σ' i) H1) (ho : ∀ j, j ≠ i → wt_cell w σ' j = wt_cell w σ j) (hq : ∀ q, q ≠ wt_ad w i → H1[q]? = H[q]?) : wt_Wd w σ' H1 := by
  refine ⟨fun j hj => ?_, h.2⟩
  by_cases e : j = i
  · subst e
    exact hc
  · rw [ho j e]
    exact (h.1 j hj).kept (hq _ (fun z => e (h.2 j i hj hi z)))
theorem wt_ce_arr {cI cII cS : ClassId} {ad : Nat → Nat} {σ : wt_St} {i n : Nat} {rs : List Nat} (h : wt_LAY[i]? = some (0, n, rs)) : wt_ce cI cII cS ad σ i = .inl (cI, n, .inl (wt_ga σ i)) := by
  unfold wt_ce
  rw [h]
theorem wt_ce_gr {cI cII cS : ClassId} {ad : Nat → Nat} {σ : wt_St} {i n : Nat} {rs : List Nat} (h : wt_LAY[i]? = some (1, n, rs)) : wt_ce cI cII cS ad σ i = .inl (cII, n, .inr (.inr (.inr (.inr (fun j => if j < n then some (ad (rs.getD 0 0 + j)) else none))))) := by
  unfold wt_ce
  rw [h]
theorem wt_ce_st {cI cII cS : ClassId} {ad : Nat → Nat} {σ : wt_St} {i n : Nat} {rs : List Nat} (h : wt_LAY[i]? = some (2, n, rs)) : wt_ce cI cII cS ad σ i = .inl (cS, n, .inr (.inr (.inr (.inr (fun j => if j < n then some (ad (rs.getD 0 0 + rs.getD 1 0 * j)) else none))))) := by
  unfold wt_ce
  rw [h]
theorem wt_ce_ob {cI cII cS : ClassId} {ad : Nat → Nat} {σ : wt_St} {i n k : Nat} {rs : List Nat} (h : wt_LAY[i]? = some (k + 3, n, rs)) : wt_ce cI cII cS ad σ i = .inr (k, (List.range rs.length).map (fun q => wt_fv ad σ i q (rs.getD q 0))) := by
  unfold wt_ce
  rw [h]
/-- a field's or a place's change is seen in its own cell alone -/
theorem wt_ce_sf {cI cII cS : ClassId} {ad : Nat → Nat} {σ : wt_St} {i k j : Nat} {v : Int32} (h : j ≠ i) : wt_ce cI cII cS ad (wt_sf σ i k v) j = wt_ce cI cII cS ad σ j := by
  have e : ∀ q, wt_gf (wt_sf σ i k v) j q = wt_gf σ j q := fun q => by rw [wt_gf_sf, if_neg (fun z => h z.1)]
  have e2 : wt_ga (wt_sf σ i k v) j = wt_ga σ j := rfl
  unfold wt_ce wt_fv
  simp only [e, e2]
theorem wt_ce_sa {cI cII cS : ClassId} {ad : Nat → Nat} {σ : wt_St} {i k j : Nat} {v : Int32} (h : j ≠ i) : wt_ce cI cII cS ad (wt_sa σ i k v) j = wt_ce cI cII cS ad σ j := by
  have e : wt_ga (wt_sa σ i k v) j = wt_ga σ j := by
    funext q
    rw [wt_ga_sa, if_neg (fun z => h z.1)]
  have e2 : ∀ q, wt_gf (wt_sa σ i k v) j q = wt_gf σ j q := fun q => rfl
  unfold wt_ce wt_fv
  simp only [e, e2]
theorem wt_fs_get {ad : Nat → Nat} {σ : wt_St} {i k r : Nat} {rs : List Nat} (h : rs[k]? = some r) : ((List.range rs.length).map (fun q => wt_fv ad σ i q (rs.getD q 0)))[k]? = some (wt_fv ad σ i k r) := by
  have hk := (List.getElem?_eq_some_iff.mp h).1
  rw [List.getElem?_map, List.getElem?_range hk]
  simp [List.getD_eq_getElem?_getD, h]
theorem wt_fs_set {ad : Nat → Nat} {σ : wt_St} {i k : Nat} {v : Int32} {rs : List Nat} (h : rs[k]? = some 0) : ((List.range rs.length).map (fun q => wt_fv ad σ i q (rs.getD q 0))).set k (.int v) = (List.range rs.length).map (fun q => wt_fv ad (wt_sf σ i k v) i q (rs.getD q 0)) := by
  have hk := (List.getElem?_eq_some_iff.mp h).1
  apply List.ext_getElem?
  intro q
  by_cases hq : q < rs.length
  · by_cases e : q = k
    · subst e
      rw [List.getElem?_set_self (by simpa using hk), List.getElem?_map, List.getElem?_range hk]
      simp [List.getD_eq_getElem?_getD, h, wt_fv, wt_gf_sf]
    · rw [List.getElem?_set_ne (fun z => e z.symm), List.getElem?_map, List.getElem?_range hq, List.getElem?_map, List.getElem?_range hq]
      simp [wt_fv, wt_gf_sf, e]
  · rw [List.getElem?_eq_none (by simpa using hq), List.getElem?_eq_none (by simpa using hq)]
/-! locals: a list, by their places; a place that isn't known is none -/
def wt_lo (ls : Array Slot) (nL : Nat) (lv : List (Option Value)) : Prop := ls.size = nL ∧ lv_wf ls ∧ ∀ (j : Nat) (v : Value), lv[j]? = some (some v) → v.category = 1 ∧ ls[j]? = some (.val v)
theorem wt_lo.store {ls : Array Slot} {nL : Nat} {lv : List (Option Value)} {i : Nat} {v : Value} (h : wt_lo ls nL lv) (hi : i < nL) (hc : v.category = 1) : ∃ ls', storeLocals ls i v = some ls' ∧ wt_lo ls' nL (lv.set i (some v)) := by
  obtain ⟨h1, h2, h3⟩ := h
  obtain ⟨ls', e, hh⟩ := lv_store1 (l := []) ⟨h1, h2, fun q hq => by cases hq⟩ hi hc
  refine ⟨ls', e, hh.1, hh.2.1, fun j w hj => ?_⟩
  by_cases hji : j = i
  · subst hji
    have hw : w = v := by
      by_cases hl : j < lv.length
      · rw [List.getElem?_set_self hl] at hj
        cases hj
        rfl
      · rw [List.getElem?_eq_none (by simpa using hl)] at hj
        cases hj
    subst hw
    exact ⟨hc, hh.2.2 (j, w) List.mem_cons_self⟩
  · rw [List.getElem?_set_ne (fun z => hji z.symm)] at hj
    obtain ⟨c, hl⟩ := h3 j w hj
    obtain ⟨ls2, e2, hh2⟩ := lv_store1 (l := [(j, w)]) ⟨h1, h2, fun q hq => by
      rw [List.mem_singleton] at hq
      subst hq
      exact hl⟩ hi hc
    cases e.symm.trans e2
    refine ⟨c, hh2.2.2 (j, w) (List.mem_cons_of_mem _ ?_)⟩
    simp [hji, c]
theorem wt_lo.sub {ls : Array Slot} {nL : Nat} {lv lv' : List (Option Value)} (h : wt_lo ls nL lv) (hs : ∀ (j : Nat) (v : Value), lv'[j]? = some (some v) → lv[j]? = some (some v)) : wt_lo ls nL lv' := ⟨h.1, h.2.1, fun j v hj => h.2.2 j v (hs j v hj)⟩
/-! the words of one nest -/
def wt_NW (U : State) : Prop := ∀ w ∈ wt_NT, va_Nw w U
theorem wt_NW.warm {s U : State} (hW : s.WarmedH U.vm) (h : wt_NW s) : wt_NW U := by
  intro w hw
  have h1 := (List.mem_filter.mp hw).2
  have h2 := h w hw
  cases w <;> first | exact va_Nw.warmF hW h2 | exact va_Nw.warmM hW h2 | exact va_Nw.warmC hW h2 | exact va_Nw.warmD hW h2 | cases h1
/-! the judgement -/
abbrev wt_X : Type := (Program × Launch × Jvm.Env × Room × State × MethodId × Array Value × List Frame × Method × Code) × wt_E × Nat × (State → Prop)
abbrev wt_xp (X : wt_X) : Program := X.1.1
abbrev wt_xl (X : wt_X) : Launch := X.1.2.1
abbrev wt_xe (X : wt_X) : Jvm.Env := X.1.2.2.1
abbrev wt_xR (X : wt_X) : Room := X.1.2.2.2.1
abbrev wt_xs (X : wt_X) : State := X.1.2.2.2.2.1
abbrev wt_xm (X : wt_X) : MethodId := X.1.2.2.2.2.2.1
abbrev wt_xa (X : wt_X) : Array Value := X.1.2.2.2.2.2.2.1
abbrev wt_xb (X : wt_X) : List Frame := X.1.2.2.2.2.2.2.2.1
abbrev wt_xM (X : wt_X) : Method := X.1.2.2.2.2.2.2.2.2.1
abbrev wt_xc (X : wt_X) : Code := X.1.2.2.2.2.2.2.2.2.2
abbrev wt_xw (X : wt_X) : wt_E := X.2.1
abbrev wt_xn (X : wt_X) : Nat := X.2.2.1
abbrev wt_xQ (X : wt_X) : State → Prop := X.2.2.2
abbrev wt_W (X : wt_X) (H : Heap) (locs : List Loc) (ce sl : Nat) (g : JFrame) : Prop := W (wt_xp X) (wt_xl X) (wt_xe X) (wt_xR X) (wt_xs X) (wt_xm X) (wt_xa X) (wt_xb X) (wt_xM X) (wt_xc X) H locs ce sl (wt_xQ X) g
/-- at pc, with these locals and this stack, the numbers being σ, at most K objects made: the method comes to its end -/
def wt_V (X : wt_X) (K : Nat) (σ : wt_St) (pc : Nat) (lv : List (Option Value)) (st : List Value) : Prop :=
  ∀ (H : Heap) (locs : List Loc) (ls : Array Slot) (ce sl : Nat), ce ≤ K → sl ≤ 16 * K → wt_Wd (wt_xw X) σ H → va_S (wt_A (wt_xw X) (wt_xs X).heap.size) (wt_xs X).heap H locs → wt_lo ls (wt_xn X) lv → wt_W X H locs ce sl (F0 (wt_xm X) pc ls st)
/-- what holds of a method's body: the machine, its code, its words, the classes, its room (d frames below it, Km objects) -/
def wt_Ok (X : wt_X) (cc : ByteArray) (nL : Nat) (own : String) (d Km : Nat) : Prop :=
  (wt_xp X).tables.exec = Jvm.exec ∧ (wt_xc X).code = cc ∧ (wt_xc X).maxLocals = nL ∧ wt_xn X = nL ∧ (wt_xs X).vm.findClass own = some (wt_xm X).cls ∧ (∀ w ∈ wt_GT, w.before (wt_xa X) (wt_xs X) = true) ∧ va_K (wt_wD (wt_xw X)) wt_cl (wt_tys (wt_xw X)) (wt_xs X) ∧ wt_NW (wt_xs X) ∧ d ≤ (wt_xR X).frames ∧ 64 * d ≤ (wt_xR X).locals ∧ Km ≤ (wt_xR X).cells ∧ 16 * Km ≤ (wt_xR X).slots ∧ (wt_xM X).locks = false ∧ wt_FX (wt_A (wt_xw X) (wt_xs X).heap.size) (wt_xs X) (wt_xs X).heap
section WT1
variable {X : wt_X} {cc : ByteArray} {nL : Nat} {own : String} {d Km K : Nat} {σ : wt_St} {pc : Nat} {lv : List (Option Value)} {st : List Value}
theorem wt_iconst (h : wt_Ok X cc nL own d Km) {n : Int} (v : Int32) (hd : decode cc pc = .ok (.iconst n, 1)) (hv : Int32.ofInt n = v) (k : wt_V X K σ (pc + 1) lv (.int v :: st)) : wt_V X K σ pc lv st :=
  fun H locs ls ce sl h1 h2 hw hS hl => lv_iconst h.1 h.2.1 hd hv (k H locs ls ce sl h1 h2 hw hS hl)
theorem wt_bipush (h : wt_Ok X cc nL own d Km) {n : Int} (v : Int32) (hd : decode cc pc = .ok (.bipush n, 2)) (hv : (Int8.ofInt n).toInt32 = v) (k : wt_V X K σ (pc + 2) lv (.int v :: st)) : wt_V X K σ pc lv st :=
  fun H locs ls ce sl h1 h2 hw hS hl => lv_bipush h.1 h.2.1 hd hv (k H locs ls ce sl h1 h2 hw hS hl)
theorem wt_sipush (h : wt_Ok X cc nL own d Km) {n : Int} (v : Int32) (hd : decode cc pc = .ok (.sipush n, 3)) (hv : (Int16.ofInt n).toInt32 = v) (k : wt_V X K σ (pc + 3) lv (.int v :: st)) : wt_V X K σ pc lv st :=
  fun H locs ls ce sl h1 h2 hw hS hl => lv_sipush h.1 h.2.1 hd hv (k H locs ls ce sl h1 h2 hw hS hl)
theorem wt_ldc (h : wt_Ok X cc nL own d Km) {index : Nat} (v : Int32) (hw0 : Jvm.Cond.constant own index v ∈ wt_GT) (hd : decode cc pc = .ok (.ldc index, 2)) (k : wt_V X K σ (pc + 2) lv (.int v :: st)) : wt_V X K σ pc lv st :=
  fun H locs ls ce sl h1 h2 hw hS hl => lv_ldc h.1 h.2.1 h.2.2.2.2.1 (h.2.2.2.2.2.1 _ hw0) hd (k H locs ls ce sl h1 h2 hw hS hl)
theorem wt_ldcw (h : wt_Ok X cc nL own d Km) {index : Nat} (v : Int32) (hw0 : Jvm.Cond.constant own index v ∈ wt_GT) (hd : decode cc pc = .ok (.ldc_w index, 3)) (k : wt_V X K σ (pc + 3) lv (.int v :: st)) : wt_V X K σ pc lv st :=
  fun H locs ls ce sl h1 h2 hw hS hl => lv_ldcw h.1 h.2.1 h.2.2.2.2.1 (h.2.2.2.2.2.1 _ hw0) hd (k H locs ls ce sl h1 h2 hw hS hl)
theorem wt_iload_n (h : wt_Ok X cc nL own d Km) {i : Fin 4} {x : Int32} (hd : decode cc pc = .ok (.iload_n i, 1)) (hv : lv[(i : Nat)]? = some (some (.int x))) (k : wt_V X K σ (pc + 1) lv (.int x :: st)) : wt_V X K σ pc lv st :=
  fun H locs ls ce sl h1 h2 hw hS hl => lv_iload_n h.1 h.2.1 hd rfl (hl.2.2 _ _ hv).2 (k H locs ls ce sl h1 h2 hw hS hl)
theorem wt_iload (h : wt_Ok X cc nL own d Km) {i : Nat} {x : Int32} (hd : decode cc pc = .ok (.iload i, 2)) (hv : lv[i]? = some (some (.int x))) (k : wt_V X K σ (pc + 2) lv (.int x :: st)) : wt_V X K σ pc lv st :=
  fun H locs ls ce sl h1 h2 hw hS hl => lv_iload h.1 h.2.1 hd (hl.2.2 _ _ hv).2 (k H locs ls ce sl h1 h2 hw hS hl)
theorem wt_aload_n (h : wt_Ok X cc nL own d Km) {i : Fin 4} {x : Nat} (hd : decode cc pc = .ok (.aload_n i, 1)) (hv : lv[(i : Nat)]? = some (some (.ref x))) (k : wt_V X K σ (pc + 1) lv (.ref x :: st)) : wt_V X K σ pc lv st :=
  fun H locs ls ce sl h1 h2 hw hS hl => lv_aload_n h.1 h.2.1 hd rfl (hl.2.2 _ _ hv).2 (k H locs ls ce sl h1 h2 hw hS hl)
theorem wt_aload (h : wt_Ok X cc nL own d Km) {i : Nat} {x : Nat} (hd : decode cc pc = .ok (.aload i, 2)) (hv : lv[i]? = some (some (.ref x))) (k : wt_V X K σ (pc + 2) lv (.ref x :: st)) : wt_V X K σ pc lv st :=
  fun H locs ls ce sl h1 h2 hw hS hl => lv_aload h.1 h.2.1 hd (hl.2.2 _ _ hv).2 (k H locs ls ce sl h1 h2 hw hS hl)
theorem wt_stn {v : Value} (h : wt_Ok X cc nL own d Km) {i : Nat} {n : Nat} {lv' : List (Option Value)} (hin : i < nL) (hc : v.category = 1) (hl' : lv.set i (some v) = lv') (k : wt_V X K σ (pc + n) lv' st)
    (step : ∀ (H : Heap) (locs : List Loc) (ls ls' : Array Slot) (ce sl : Nat), storeLocals ls i v = some ls' → wt_W X H locs ce sl (F0 (wt_xm X) (pc + n) ls' st) → wt_W X H locs ce sl (F0 (wt_xm X) pc ls (v :: st))) : wt_V X K σ pc lv (v :: st) := by
  intro H locs ls ce sl h1 h2 hw hS hl
  obtain ⟨ls', e, hl2⟩ := hl.store (i := i) (v := v) (by rw [h.2.2.2.1]; exact hin) hc
  exact step H locs ls ls' ce sl e (k H locs ls' ce sl h1 h2 hw hS (hl' ▸ hl2))
theorem wt_istore_n (h : wt_Ok X cc nL own d Km) {i : Fin 4} {x : Int32} (lv' : List (Option Value)) (hd : decode cc pc = .ok (.istore_n i, 1)) (hin : (i : Nat) < nL) (hl' : lv.set (i : Nat) (some (.int x)) = lv') (k : wt_V X K σ (pc + 1) lv' st) : wt_V X K σ pc lv (.int x :: st) := by
  refine wt_stn h hin rfl hl' k fun H locs ls ls' ce sl e kk => ?_
  obtain ⟨hexec, hb, -⟩ := h
  intro T hT Y
  obtain ⟨t, a, b⟩ := kk T hT Y
  refine ⟨t, ?_, b⟩
  jvm_step Y.here [Y.here.top, ↓top_set Y.here.top, hexec, hb, hd, e]
  exact a
theorem wt_istore (h : wt_Ok X cc nL own d Km) {i : Nat} {x : Int32} (lv' : List (Option Value)) (hd : decode cc pc = .ok (.istore i, 2)) (hin : i < nL) (hl' : lv.set i (some (.int x)) = lv') (k : wt_V X K σ (pc + 2) lv' st) : wt_V X K σ pc lv (.int x :: st) := by
  refine wt_stn h hin rfl hl' k fun H locs ls ls' ce sl e kk => ?_
  obtain ⟨hexec, hb, -⟩ := h
  intro T hT Y
  obtain ⟨t, a, b⟩ := kk T hT Y
  refine ⟨t, ?_, b⟩
  jvm_step Y.here [Y.here.top, ↓top_set Y.here.top, hexec, hb, hd, e]
  exact a
theorem wt_astore_n (h : wt_Ok X cc nL own d Km) {i : Fin 4} {x : Nat} (lv' : List (Option Value)) (hd : decode cc pc = .ok (.astore_n i, 1)) (hin : (i : Nat) < nL) (hl' : lv.set (i : Nat) (some (.ref x)) = lv') (k : wt_V X K σ (pc + 1) lv' st) : wt_V X K σ pc lv (.ref x :: st) := by
  refine wt_stn h hin rfl hl' k fun H locs ls ls' ce sl e kk => ?_
  obtain ⟨hexec, hb, -⟩ := h
  intro T hT Y
  obtain ⟨t, a, b⟩ := kk T hT Y
  refine ⟨t, ?_, b⟩
  jvm_step Y.here [Y.here.top, ↓top_set Y.here.top, hexec, hb, hd, e]
  exact ⟨rfl, a⟩
theorem wt_astore (h : wt_Ok X cc nL own d Km) {i : Nat} {x : Nat} (lv' : List (Option Value)) (hd : decode cc pc = .ok (.astore i, 2)) (hin : i < nL) (hl' : lv.set i (some (.ref x)) = lv') (k : wt_V X K σ (pc + 2) lv' st) : wt_V X K σ pc lv (.ref x :: st) := by
  refine wt_stn h hin rfl hl' k fun H locs ls ls' ce sl e kk => ?_
  obtain ⟨hexec, hb, -⟩ := h
  intro T hT Y
  obtain ⟨t, a, b⟩ := kk T hT Y
  refine ⟨t, ?_, b⟩
  jvm_step Y.here [Y.here.top, ↓top_set Y.here.top, hexec, hb, hd, e]
  exact ⟨rfl, a⟩
theorem wt_iinc (h : wt_Ok X cc nL own d Km) {i : Nat} {n : Int} {x : Int32} (v : Int32) (lv' : List (Option Value)) (hd : decode cc pc = .ok (.iinc i n, 3)) (hin : i < nL) (hg : lv[i]? = some (some (.int x))) (hv : x + Int32.ofInt n = v) (hl' : lv.set i (some (.int v)) = lv') (k : wt_V X K σ (pc + 3) lv' st) : wt_V X K σ pc lv st := by
  intro H locs ls ce sl h1 h2 hw hS hl
  subst hv
  obtain ⟨ls', e, hl2⟩ := hl.store (i := i) (v := .int (x + Int32.ofInt n)) (by rw [h.2.2.2.1]; exact hin) rfl
  have hg2 := (hl.2.2 _ _ hg).2
  obtain ⟨hexec, hb, -⟩ := h
  intro T hT Y
  obtain ⟨t, a, b⟩ := k H locs ls' ce sl h1 h2 hw hS (hl' ▸ hl2) T hT Y
  refine ⟨t, ?_, b⟩
  jvm_step Y.here [Y.here.top, ↓top_set Y.here.top, hexec, hb, hd, hg2, e]
  exact a
theorem wt_iadd (h : wt_Ok X cc nL own d Km) {x y : Int32} (hd : decode cc pc = .ok (.iadd, 1)) (k : wt_V X K σ (pc + 1) lv (.int (x + y) :: st)) : wt_V X K σ pc lv (.int y :: .int x :: st) :=
  fun H locs ls ce sl h1 h2 hw hS hl => lv_iadd h.1 h.2.1 hd (k H locs ls ce sl h1 h2 hw hS hl)
theorem wt_isub (h : wt_Ok X cc nL own d Km) {x y : Int32} (hd : decode cc pc = .ok (.isub, 1)) (k : wt_V X K σ (pc + 1) lv (.int (x - y) :: st)) : wt_V X K σ pc lv (.int y :: .int x :: st) :=
  fun H locs ls ce sl h1 h2 hw hS hl => lv_isub h.1 h.2.1 hd (k H locs ls ce sl h1 h2 hw hS hl)
theorem wt_imul (h : wt_Ok X cc nL own d Km) {x y : Int32} (hd : decode cc pc = .ok (.imul, 1)) (k : wt_V X K σ (pc + 1) lv (.int (x * y) :: st)) : wt_V X K σ pc lv (.int y :: .int x :: st) :=
  fun H locs ls ce sl h1 h2 hw hS hl => lv_imul h.1 h.2.1 hd (k H locs ls ce sl h1 h2 hw hS hl)
theorem wt_iand (h : wt_Ok X cc nL own d Km) {x y : Int32} (hd : decode cc pc = .ok (.iand, 1)) (k : wt_V X K σ (pc + 1) lv (.int (x &&& y) :: st)) : wt_V X K σ pc lv (.int y :: .int x :: st) :=
  fun H locs ls ce sl h1 h2 hw hS hl => lv_iand h.1 h.2.1 hd (k H locs ls ce sl h1 h2 hw hS hl)
theorem wt_ior (h : wt_Ok X cc nL own d Km) {x y : Int32} (hd : decode cc pc = .ok (.ior, 1)) (k : wt_V X K σ (pc + 1) lv (.int (x ||| y) :: st)) : wt_V X K σ pc lv (.int y :: .int x :: st) :=
  fun H locs ls ce sl h1 h2 hw hS hl => lv_ior h.1 h.2.1 hd (k H locs ls ce sl h1 h2 hw hS hl)
theorem wt_idiv (h : wt_Ok X cc nL own d Km) {x y : Int32} (hd : decode cc pc = .ok (.idiv, 1)) (hne : ¬ y = 0) (k : wt_V X K σ (pc + 1) lv (.int (x / y) :: st)) : wt_V X K σ pc lv (.int y :: .int x :: st) :=
  fun H locs ls ce sl h1 h2 hw hS hl => lv_idiv h.1 h.2.1 hd hne (k H locs ls ce sl h1 h2 hw hS hl)
theorem wt_ishl (h : wt_Ok X cc nL own d Km) {x y : Int32} (hd : decode cc pc = .ok (.ishl, 1)) (k : wt_V X K σ (pc + 1) lv (.int (x <<< (y &&& 31)) :: st)) : wt_V X K σ pc lv (.int y :: .int x :: st) :=
  fun H locs ls ce sl h1 h2 hw hS hl => lv_ishl h.1 h.2.1 hd (k H locs ls ce sl h1 h2 hw hS hl)
theorem wt_ishr (h : wt_Ok X cc nL own d Km) {x y : Int32} (hd : decode cc pc = .ok (.ishr, 1)) (k : wt_V X K σ (pc + 1) lv (.int (x >>> (y &&& 31)) :: st)) : wt_V X K σ pc lv (.int y :: .int x :: st) :=
  fun H locs ls ce sl h1 h2 hw hS hl => lv_ishr h.1 h.2.1 hd (k H locs ls ce sl h1 h2 hw hS hl)
def wt_ush (x y : Int32) : Int32 := (x.toUInt32 >>> (y.toUInt32 &&& Int32.toUInt32 31)).toInt32
theorem wt_iushr (h : wt_Ok X cc nL own d Km) {x y : Int32} (hd : decode cc pc = .ok (.iushr, 1)) (k : wt_V X K σ (pc + 1) lv (.int (wt_ush x y) :: st)) : wt_V X K σ pc lv (.int y :: .int x :: st) :=
  fun H locs ls ce sl h1 h2 hw hS hl => lv_iushr h.1 h.2.1 hd rfl (k H locs ls ce sl h1 h2 hw hS hl)
theorem wt_dup (h : wt_Ok X cc nL own d Km) {v : Value} (hd : decode cc pc = .ok (.dup, 1)) (hc : v.category = 1) (k : wt_V X K σ (pc + 1) lv (v :: v :: st)) : wt_V X K σ pc lv (v :: st) :=
  fun H locs ls ce sl h1 h2 hw hS hl => lv_dup h.1 h.2.1 hd hc (k H locs ls ce sl h1 h2 hw hS hl)
theorem wt_pop (h : wt_Ok X cc nL own d Km) {v : Value} (hd : decode cc pc = .ok (.pop, 1)) (hc : v.category = 1) (k : wt_V X K σ (pc + 1) lv st) : wt_V X K σ pc lv (v :: st) :=
  fun H locs ls ce sl h1 h2 hw hS hl => lv_pop h.1 h.2.1 hd hc (k H locs ls ce sl h1 h2 hw hS hl)
theorem wt_dup2 (h : wt_Ok X cc nL own d Km) {v u : Value} (hd : decode cc pc = .ok (.dup2, 1)) (hc : v.category = 1) (hc2 : u.category = 1) (k : wt_V X K σ (pc + 1) lv (v :: u :: v :: u :: st)) : wt_V X K σ pc lv (v :: u :: st) :=
  fun H locs ls ce sl h1 h2 hw hS hl => lv_dup2_11 h.1 h.2.1 hd hc hc2 (k H locs ls ce sl h1 h2 hw hS hl)
theorem wt_goto (h : wt_Ok X cc nL own d Km) {off : Int} (tgt : Nat) (hd : decode cc pc = .ok (.goto off, 3)) (ht : (pc : Int) + off = (tgt : Int)) (k : wt_V X K σ tgt lv st) : wt_V X K σ pc lv st :=
  fun H locs ls ce sl h1 h2 hw hS hl => lv_goto h.1 h.2.1 hd ht (k H locs ls ce sl h1 h2 hw hS hl)
theorem wt_if_eq (h : wt_Ok X cc nL own d Km) {x : Int32} {off : Int} (tgt : Nat) (hd : decode cc pc = .ok (.ifCond .eq off, 3)) (ht : (pc : Int) + off = (tgt : Int)) (kt : x = 0 → wt_V X K σ tgt lv st) (kf : ¬ x = 0 → wt_V X K σ (pc + 3) lv st) : wt_V X K σ pc lv (.int x :: st) :=
  fun H locs ls ce sl h1 h2 hw hS hl => lv_if_eq h.1 h.2.1 hd ht (fun c => kt c H locs ls ce sl h1 h2 hw hS hl) (fun c => kf c H locs ls ce sl h1 h2 hw hS hl)
theorem wt_if_ne (h : wt_Ok X cc nL own d Km) {x : Int32} {off : Int} (tgt : Nat) (hd : decode cc pc = .ok (.ifCond .ne off, 3)) (ht : (pc : Int) + off = (tgt : Int)) (kt : ¬ x = 0 → wt_V X K σ tgt lv st) (kf : x = 0 → wt_V X K σ (pc + 3) lv st) : wt_V X K σ pc lv (.int x :: st) :=
  fun H locs ls ce sl h1 h2 hw hS hl => lv_if_ne h.1 h.2.1 hd ht (fun c => kt c H locs ls ce sl h1 h2 hw hS hl) (fun c => kf c H locs ls ce sl h1 h2 hw hS hl)
theorem wt_if_lt (h : wt_Ok X cc nL own d Km) {x : Int32} {off : Int} (tgt : Nat) (hd : decode cc pc = .ok (.ifCond .lt off, 3)) (ht : (pc : Int) + off = (tgt : Int)) (kt : x < 0 → wt_V X K σ tgt lv st) (kf : ¬ x < 0 → wt_V X K σ (pc + 3) lv st) : wt_V X K σ pc lv (.int x :: st) :=
  fun H locs ls ce sl h1 h2 hw hS hl => lv_if_lt h.1 h.2.1 hd ht (fun c => kt c H locs ls ce sl h1 h2 hw hS hl) (fun c => kf c H locs ls ce sl h1 h2 hw hS hl)
end WT1
end WTQ2
-- 04.fx.lean.txt
section WTQ3
section WT2
variable {X : wt_X} {cc : ByteArray} {nL : Nat} {own : String} {d Km K : Nat} {σ : wt_St} {pc : Nat} {lv : List (Option Value)} {st : List Value}
theorem wt_if_ge (h : wt_Ok X cc nL own d Km) {x : Int32} {off : Int} (tgt : Nat) (hd : decode cc pc = .ok (.ifCond .ge off, 3)) (ht : (pc : Int) + off = (tgt : Int)) (kt : 0 ≤ x → wt_V X K σ tgt lv st) (kf : ¬ 0 ≤ x → wt_V X K σ (pc + 3) lv st) : wt_V X K σ pc lv (.int x :: st) :=
  fun H locs ls ce sl h1 h2 hw hS hl => lv_if_ge h.1 h.2.1 hd ht (fun c => kt c H locs ls ce sl h1 h2 hw hS hl) (fun c => kf c H locs ls ce sl h1 h2 hw hS hl)
theorem wt_if_gt (h : wt_Ok X cc nL own d Km) {x : Int32} {off : Int} (tgt : Nat) (hd : decode cc pc = .ok (.ifCond .gt off, 3)) (ht : (pc : Int) + off = (tgt : Int)) (kt : 0 < x → wt_V X K σ tgt lv st) (kf : ¬ 0 < x → wt_V X K σ (pc + 3) lv st) : wt_V X K σ pc lv (.int x :: st) :=
  fun H locs ls ce sl h1 h2 hw hS hl => lv_if_gt h.1 h.2.1 hd ht (fun c => kt c H locs ls ce sl h1 h2 hw hS hl) (fun c => kf c H locs ls ce sl h1 h2 hw hS hl)
theorem wt_if_le (h : wt_Ok X cc nL own d Km) {x : Int32} {off : Int} (tgt : Nat) (hd : decode cc pc = .ok (.ifCond .le off, 3)) (ht : (pc : Int) + off = (tgt : Int)) (kt : x ≤ 0 → wt_V X K σ tgt lv st) (kf : ¬ x ≤ 0 → wt_V X K σ (pc + 3) lv st) : wt_V X K σ pc lv (.int x :: st) :=
  fun H locs ls ce sl h1 h2 hw hS hl => lv_if_le h.1 h.2.1 hd ht (fun c => kt c H locs ls ce sl h1 h2 hw hS hl) (fun c => kf c H locs ls ce sl h1 h2 hw hS hl)
theorem wt_icmp_eq (h : wt_Ok X cc nL own d Km) {x y : Int32} {off : Int} (tgt : Nat) (hd : decode cc pc = .ok (.if_icmp .eq off, 3)) (ht : (pc : Int) + off = (tgt : Int)) (kt : x = y → wt_V X K σ tgt lv st) (kf : ¬ x = y → wt_V X K σ (pc + 3) lv st) : wt_V X K σ pc lv (.int y :: .int x :: st) :=
  fun H locs ls ce sl h1 h2 hw hS hl => lv_icmp_eq h.1 h.2.1 hd ht (fun c => kt c H locs ls ce sl h1 h2 hw hS hl) (fun c => kf c H locs ls ce sl h1 h2 hw hS hl)
theorem wt_icmp_ne (h : wt_Ok X cc nL own d Km) {x y : Int32} {off : Int} (tgt : Nat) (hd : decode cc pc = .ok (.if_icmp .ne off, 3)) (ht : (pc : Int) + off = (tgt : Int)) (kt : ¬ x = y → wt_V X K σ tgt lv st) (kf : x = y → wt_V X K σ (pc + 3) lv st) : wt_V X K σ pc lv (.int y :: .int x :: st) :=
  fun H locs ls ce sl h1 h2 hw hS hl => lv_icmp_ne h.1 h.2.1 hd ht (fun c => kt c H locs ls ce sl h1 h2 hw hS hl) (fun c => kf c H locs ls ce sl h1 h2 hw hS hl)
theorem wt_icmp_lt (h : wt_Ok X cc nL own d Km) {x y : Int32} {off : Int} (tgt : Nat) (hd : decode cc pc = .ok (.if_icmp .lt off, 3)) (ht : (pc : Int) + off = (tgt : Int)) (kt : x < y → wt_V X K σ tgt lv st) (kf : ¬ x < y → wt_V X K σ (pc + 3) lv st) : wt_V X K σ pc lv (.int y :: .int x :: st) :=
  fun H locs ls ce sl h1 h2 hw hS hl => lv_icmp_lt h.1 h.2.1 hd ht (fun c => kt c H locs ls ce sl h1 h2 hw hS hl) (fun c => kf c H locs ls ce sl h1 h2 hw hS hl)
theorem wt_icmp_ge (h : wt_Ok X cc nL own d Km) {x y : Int32} {off : Int} (tgt : Nat) (hd : decode cc pc = .ok (.if_icmp .ge off, 3)) (ht : (pc : Int) + off = (tgt : Int)) (kt : y ≤ x → wt_V X K σ tgt lv st) (kf : ¬ y ≤ x → wt_V X K σ (pc + 3) lv st) : wt_V X K σ pc lv (.int y :: .int x :: st) :=
  fun H locs ls ce sl h1 h2 hw hS hl => lv_icmp_ge h.1 h.2.1 hd ht (fun c => kt c H locs ls ce sl h1 h2 hw hS hl) (fun c => kf c H locs ls ce sl h1 h2 hw hS hl)
theorem wt_icmp_gt (h : wt_Ok X cc nL own d Km) {x y : Int32} {off : Int} (tgt : Nat) (hd : decode cc pc = .ok (.if_icmp .gt off, 3)) (ht : (pc : Int) + off = (tgt : Int)) (kt : y < x → wt_V X K σ tgt lv st) (kf : ¬ y < x → wt_V X K σ (pc + 3) lv st) : wt_V X K σ pc lv (.int y :: .int x :: st) :=
  fun H locs ls ce sl h1 h2 hw hS hl => lv_icmp_gt h.1 h.2.1 hd ht (fun c => kt c H locs ls ce sl h1 h2 hw hS hl) (fun c => kf c H locs ls ce sl h1 h2 hw hS hl)
theorem wt_icmp_le (h : wt_Ok X cc nL own d Km) {x y : Int32} {off : Int} (tgt : Nat) (hd : decode cc pc = .ok (.if_icmp .le off, 3)) (ht : (pc : Int) + off = (tgt : Int)) (kt : x ≤ y → wt_V X K σ tgt lv st) (kf : ¬ x ≤ y → wt_V X K σ (pc + 3) lv st) : wt_V X K σ pc lv (.int y :: .int x :: st) :=
  fun H locs ls ce sl h1 h2 hw hS hl => lv_icmp_le h.1 h.2.1 hd ht (fun c => kt c H locs ls ce sl h1 h2 hw hS hl) (fun c => kf c H locs ls ce sl h1 h2 hw hS hl)
theorem wt_tsIn (h : wt_Ok X cc nL own d Km) {dflt lo hi : Int} {offs : Array Int} {len : Nat} {x c : Int32} {off : Int} (tgt : Nat) (hc : x = c) (hd : decode cc pc = .ok (.tableswitch dflt lo hi offs, len)) (h1 : ¬ c.toInt < lo) (h2 : ¬ hi < c.toInt) (ho : offs[(c.toInt - lo).toNat]? = some off) (ht : (pc : Int) + off = (tgt : Int)) (k : wt_V X K σ tgt lv st) : wt_V X K σ pc lv (.int x :: st) :=
  fun H locs ls ce sl h3 h4 hw hS hl => lv_tableIn h.1 h.2.1 hd (by rw [hc]; exact h1) (by rw [hc]; exact h2) (by rw [hc]; exact ho) ht (k H locs ls ce sl h3 h4 hw hS hl)
theorem wt_tsOut (h : wt_Ok X cc nL own d Km) {dflt hi : Int} {offs : Array Int} {len : Nat} {x : Int32} (n tgt : Nat) (hhi : hi + 1 = (n : Int)) (hn : n < 1000) (hx : ∀ j : Nat, j < n → ¬ x = nI j) (hd : decode cc pc = .ok (.tableswitch dflt 0 hi offs, len)) (ht : (pc : Int) + dflt = (tgt : Int)) (k : wt_V X K σ tgt lv st) : wt_V X K σ pc lv (.int x :: st) := by
  refine fun H locs ls ce sl h3 h4 hw hS hl => lv_tableOut h.1 h.2.1 hd ?_ ht (k H locs ls ce sl h3 h4 hw hS hl)
  by_cases h0 : x.toInt < 0
  · exact Or.inl h0
  · refine Or.inr ?_
    by_cases h5 : x.toInt < n
    · exfalso
      refine hx x.toInt.toNat (by omega) (Int32.toInt_inj.mp ?_)
      rw [nI_toInt (by omega)]
      omega
    · omega
/-! arrays -/
theorem wt_iald (h : wt_Ok X cc nL own d Km) {r n : Nat} {rs : List Nat} {i : Int32} (hr : wt_dom (wt_xw X) r) (hL : wt_LAY[r]? = some (0, n, rs)) (hin : vp_in i n) (hd : decode cc pc = .ok (.iaload, 1)) (k : wt_V X K σ (pc + 1) lv (.int (wt_ga σ r i.toNatClampNeg) :: st)) : wt_V X K σ pc lv (.int i :: .ref (wt_ad (wt_xw X) r) :: st) := by
  intro H locs ls ce sl h1 h2 hw hS hl
  have hP := hw.one hr
  unfold wt_cell at hP
  rw [wt_ce_arr hL] at hP
  exact va_iald h.1 h.2.1 h.2.2.2.2.2.2.1 hP 0 0 rfl rfl hin hd (k H locs ls ce sl h1 h2 hw hS hl)
theorem wt_iast (h : wt_Ok X cc nL own d Km) {r n : Nat} {rs : List Nat} {i x : Int32} (hr : wt_dom (wt_xw X) r) (hL : wt_LAY[r]? = some (0, n, rs)) (hin : vp_in i n) (hd : decode cc pc = .ok (.iastore, 1)) (k : wt_V X K (wt_sa σ r i.toNatClampNeg x) (pc + 1) lv st) : wt_V X K σ pc lv (.int x :: .int i :: .ref (wt_ad (wt_xw X) r) :: st) := by
  intro H locs ls ce sl h1 h2 hw hS hl
  have hP := hw.1 r hr
  unfold wt_cell at hP
  rw [wt_ce_arr hL] at hP
  refine W.iast h.1 h.2.1 hP ((h.2.2.2.2.2.2.1.2 0 _ rfl).1 n (fun j => .int (wt_ga σ r j))) (fun q => by cases q) (by show ¬ (i < 0 ∨ (arrV _ _ _).slots.size ≤ _); rw [arrV_size]; exact hin) rfl rfl hd fun H1 e z oq => ?_
  refine k H1 _ ls ce sl h1 h2 (hw.put (σ' := wt_sa σ r i.toNatClampNeg x) hr ?_ (fun j hj => wt_ce_sa hj) oq) (hS.put z oq (Or.inl ⟨r, hr, rfl⟩)) hl
  unfold wt_cell
  rw [wt_ce_arr hL]
  show H1[_]? = some (vp_cell _ _)
  rw [e, vp_cell_i, vp_cell_i, arrV_store]
  congr 2
  funext q
  by_cases hq : q = i.toNatClampNeg
  · subst hq
    simp [updV, wt_ga_sa]
  · simp [updV, wt_ga_sa, hq]
theorem wt_alen (h : wt_Ok X cc nL own d Km) {r n : Nat} {rs : List Nat} (v : Int32) (hr : wt_dom (wt_xw X) r) (hL : wt_LAY[r]? = some (0, n, rs)) (hv : Int32.ofNat n = v) (hd : decode cc pc = .ok (.arraylength, 1)) (k : wt_V X K σ (pc + 1) lv (.int v :: st)) : wt_V X K σ pc lv (.ref (wt_ad (wt_xw X) r) :: st) := by
  intro H locs ls ce sl h1 h2 hw hS hl
  have hP := hw.one hr
  unfold wt_cell at hP
  rw [wt_ce_arr hL] at hP
  exact va_alen h.1 h.2.1 h.2.2.2.2.2.2.1 hP 0 0 rfl rfl hv hd (k H locs ls ce sl h1 h2 hw hS hl)
theorem wt_alen1 (h : wt_Ok X cc nL own d Km) {r n : Nat} {rs : List Nat} (v : Int32) (hr : wt_dom (wt_xw X) r) (hL : wt_LAY[r]? = some (1, n, rs)) (hv : Int32.ofNat n = v) (hd : decode cc pc = .ok (.arraylength, 1)) (k : wt_V X K σ (pc + 1) lv (.int v :: st)) : wt_V X K σ pc lv (.ref (wt_ad (wt_xw X) r) :: st) := by
  intro H locs ls ce sl h1 h2 hw hS hl
  have hP := hw.one hr
  unfold wt_cell at hP
  rw [wt_ce_gr hL] at hP
  exact va_alen h.1 h.2.1 h.2.2.2.2.2.2.1 hP 0 1 rfl rfl hv hd (k H locs ls ce sl h1 h2 hw hS hl)
theorem wt_alen2 (h : wt_Ok X cc nL own d Km) {r n : Nat} {rs : List Nat} (v : Int32) (hr : wt_dom (wt_xw X) r) (hL : wt_LAY[r]? = some (2, n, rs)) (hv : Int32.ofNat n = v) (hd : decode cc pc = .ok (.arraylength, 1)) (k : wt_V X K σ (pc + 1) lv (.int v :: st)) : wt_V X K σ pc lv (.ref (wt_ad (wt_xw X) r) :: st) := by
  intro H locs ls ce sl h1 h2 hw hS hl
  have hP := hw.one hr
  unfold wt_cell at hP
  rw [wt_ce_st hL] at hP
  exact va_alen h.1 h.2.1 h.2.2.2.2.2.2.1 hP 0 2 rfl rfl hv hd (k H locs ls ce sl h1 h2 hw hS hl)
/-- a row of a grid: its id is the base's and the index -/
theorem wt_aald1 (h : wt_Ok X cc nL own d Km) {r n b : Nat} {i : Int32} (hr : wt_dom (wt_xw X) r) (hL : wt_LAY[r]? = some (1, n, [b])) (hin : vp_in i n) (hd : decode cc pc = .ok (.aaload, 1)) (k : wt_V X K σ (pc + 1) lv (.ref (wt_ad (wt_xw X) (b + i.toNatClampNeg)) :: st)) : wt_V X K σ pc lv (.int i :: .ref (wt_ad (wt_xw X) r) :: st) := by
  intro H locs ls ce sl h1 h2 hw hS hl
  have hP := hw.1 r hr
  unfold wt_cell at hP
  rw [wt_ce_gr hL] at hP
  have hlt : i.toNatClampNeg < n := Nat.not_le.mp fun q => hin (Or.inr q)
  refine W.aald (v := .ref (wt_ad (wt_xw X) (b + i.toNatClampNeg))) (ty := .array .int) h.1 h.2.1 hP ((h.2.2.2.2.2.2.1.2 1 _ rfl).1 n (fun j => va_rf (if j < n then some (wt_ad (wt_xw X) (([b] : List Nat).getD 0 0 + j)) else none))) rfl (fun q => by cases q) (by show ¬ (i < 0 ∨ (arrV _ _ _).slots.size ≤ _); rw [arrV_size]; exact hin) (by show (arrV _ _ _).slots[_]? = _; rw [arrV_read _ _ hlt]; show some (va_rf (if i.toNatClampNeg < n then some _ else none)) = _; rw [if_pos hlt]; rfl) rfl rfl hd (k H locs ls ce sl h1 h2 hw hS hl)
theorem wt_aald2 (h : wt_Ok X cc nL own d Km) {r n b f : Nat} {i : Int32} (hr : wt_dom (wt_xw X) r) (hL : wt_LAY[r]? = some (2, n, [b, f])) (hin : vp_in i n) (hd : decode cc pc = .ok (.aaload, 1)) (k : wt_V X K σ (pc + 1) lv (.ref (wt_ad (wt_xw X) (b + f * i.toNatClampNeg)) :: st)) : wt_V X K σ pc lv (.int i :: .ref (wt_ad (wt_xw X) r) :: st) := by
  intro H locs ls ce sl h1 h2 hw hS hl
  have hP := hw.1 r hr
  unfold wt_cell at hP
  rw [wt_ce_st hL] at hP
  have hlt : i.toNatClampNeg < n := Nat.not_le.mp fun q => hin (Or.inr q)
  refine W.aald (v := .ref (wt_ad (wt_xw X) (b + f * i.toNatClampNeg))) (ty := .object "WornType$State") h.1 h.2.1 hP ((h.2.2.2.2.2.2.1.2 2 _ rfl).1 n (fun j => va_rf (if j < n then some (wt_ad (wt_xw X) (([b, f] : List Nat).getD 0 0 + ([b, f] : List Nat).getD 1 0 * j)) else none))) rfl (fun q => by cases q) (by show ¬ (i < 0 ∨ (arrV _ _ _).slots.size ≤ _); rw [arrV_size]; exact hin) (by show (arrV _ _ _).slots[_]? = _; rw [arrV_read _ _ hlt]; show some (va_rf (if i.toNatClampNeg < n then some _ else none)) = _; rw [if_pos hlt]; rfl) rfl rfl hd (k H locs ls ce sl h1 h2 hw hS hl)
/-! fields: own's pool place idx is field k of class ci -/
def wt_Lk (own : String) (idx ci k : Nat) (fin : Bool) : Prop := ∃ (C : String) (T : u_T) (N : Nat) (ty : Nat → FieldType), wt_cl[ci]? = some (C, T, N) ∧ wt_CF C T N ty ∧ k < N ∧ (T k).1 = C ∧ (T k).2.2.2 = fin ∧ (Cond.fieldLink own idx C (T k).2.1 (T k).2.2.1 ∈ wt_GT ∨ ∃ host, Cond.fieldLinkNest own idx C (T k).2.1 (T k).2.2.1 host ∈ wt_NT)
theorem wt_NWn {U : State} (h : wt_NW U) {w : Cond} (hw : w ∈ wt_NT) {A : Array Value} : w.before A U = true := by
  have h1 := (List.mem_filter.mp hw).2
  have h2 := h w hw
  cases w <;> first | exact va_Nw.use rfl h2 | cases h1
theorem wt_getv (h : wt_Ok X cc nL own d Km) {i idx ci k n : Nat} {fin : Bool} {rs : List Nat} {r : Nat} (lk : wt_Lk own idx ci k fin) (hr : wt_dom (wt_xw X) i) (hL : wt_LAY[i]? = some (ci + 3, n, rs)) (hk : rs[k]? = some r) (hd : decode cc pc = .ok (.getfield idx, 3)) (kk : wt_V X K σ (pc + 3) lv (wt_fv (wt_ad (wt_xw X)) σ i k r :: st)) : wt_V X K σ pc lv (.ref (wt_ad (wt_xw X) i) :: st) := by
  intro H locs ls ce sl h1 h2 hw hS hl
  have hP := hw.one hr
  unfold wt_cell at hP
  rw [wt_ce_ob hL] at hP
  obtain ⟨C, T, N, ty, hc, hcf, hkN, hC, -, hlink⟩ := lk
  rcases hlink with hlink | ⟨host, hlink⟩
  · exact va_get h.1 h.2.1 h.2.2.2.2.2.1 hcf.1 h.2.2.2.2.1 h.2.2.2.2.2.2.1 hP 0 rfl hc k hkN (h.2.2.2.2.2.1 _ hlink) (fun x hx => by rw [hC] at hx; exact hx) (wt_fs_get hk) hd (kk H locs ls ce sl h1 h2 hw hS hl)
  · exact va_getN h.1 h.2.1 h.2.2.2.2.2.1 hcf.1 h.2.2.2.2.1 h.2.2.2.2.2.2.1 hP 0 rfl hc k hkN (wt_NWn h.2.2.2.2.2.2.2.1 hlink) (fun x hx => by rw [hC] at hx; exact hx) (wt_fs_get hk) hd (kk H locs ls ce sl h1 h2 hw hS hl)
theorem wt_geti (h : wt_Ok X cc nL own d Km) {i idx ci k n : Nat} {fin : Bool} {rs : List Nat} (lk : wt_Lk own idx ci k fin) (hr : wt_dom (wt_xw X) i) (hL : wt_LAY[i]? = some (ci + 3, n, rs)) (hk : rs[k]? = some 0) (hd : decode cc pc = .ok (.getfield idx, 3)) (kk : wt_V X K σ (pc + 3) lv (.int (wt_gf σ i k) :: st)) : wt_V X K σ pc lv (.ref (wt_ad (wt_xw X) i) :: st) := wt_getv h lk hr hL hk hd kk
theorem wt_getr (h : wt_Ok X cc nL own d Km) {i idx ci k n : Nat} {fin : Bool} {rs : List Nat} {r : Nat} (lk : wt_Lk own idx ci k fin) (hr : wt_dom (wt_xw X) i) (hL : wt_LAY[i]? = some (ci + 3, n, rs)) (hk : rs[k]? = some (r + 1)) (hd : decode cc pc = .ok (.getfield idx, 3)) (kk : wt_V X K σ (pc + 3) lv (.ref (wt_ad (wt_xw X) r) :: st)) : wt_V X K σ pc lv (.ref (wt_ad (wt_xw X) i) :: st) := wt_getv h lk hr hL hk hd kk
theorem wt_puti (h : wt_Ok X cc nL own d Km) {i idx ci k n : Nat} {rs : List Nat} {v : Int32} (lk : wt_Lk own idx ci k false) (hr : wt_dom (wt_xw X) i) (hL : wt_LAY[i]? = some (ci + 3, n, rs)) (hk : rs[k]? = some 0) (hty : ∀ q, wt_cl[ci]? = some q → (q.2.1 k).2.2.1 = "I") (hd : decode cc pc = .ok (.putfield idx, 3)) (kk : wt_V X K (wt_sf σ i k v) (pc + 3) lv st) : wt_V X K σ pc lv (.int v :: .ref (wt_ad (wt_xw X) i) :: st) := by
  intro H locs ls ce sl h1 h2 hw hS hl
  have hP := hw.1 i hr
  unfold wt_cell at hP
  rw [wt_ce_ob hL] at hP
  obtain ⟨C, T, N, ty, hc, hcf, hkN, hC, hfin, hlink⟩ := lk
  have hdI : parseFieldDescriptor (T k).2.2.1 = some .int := by rw [hty _ hc]; rfl
  have hap := va_apart (own := own) h.2.2.2.2.2.1 hcf.1 ty hcf.2.1 hcf.2.2 h.2.2.2.2.2.2.1 hc
  obtain ⟨r, g1, cell, q1, q2, q3, q4⟩ := hP
  have hr0 : r = (C, T, N) := Option.some.inj (g1.symm.trans hc)
  subst hr0
  obtain ⟨hSl, hfc, kC, hkC, hkind⟩ := h.2.2.2.2.2.2.1.1 ci _ hc
  obtain ⟨cf, kf, fi, f, hi, hsl⟩ := hSl k hkN
  have hlay := h.2.2.2.2.2.1 _ (hcf.1 _ (u_in_lay hkN))
  unfold u_lay at hlay
  rw [if_neg (by rw [hfin]; decide)] at hlay
  have hst := (u_facts hfc hkC (u_lays h.2.2.2.2.2.1 hcf.1 hkN) hi).1
  have h6 := u_store hfc hkC hkind hlay hi hdI (v := .int v) rfl rfl
  have hsame : ∀ x, (wt_xs X).fieldFound? (T k).1 (T k).2.1 (T k).2.2.1 = some x → (wt_xs X).fieldFound? C (T k).2.1 (T k).2.2.1 = some x := fun x hx => by rw [hC] at hx; exact hx
  have go : ∀ H' : Heap, H'[wt_ad (wt_xw X) i]? = some (cell.setSlot f.slot (.int v)) → H'.size = H.size → (∀ q, q ≠ wt_ad (wt_xw X) i → H'[q]? = H[q]?) → wt_W X H' (locs ++ [⟨wt_ad (wt_xw X) i, f.slot⟩]) ce sl (F0 (wt_xm X) (pc + 3) ls st) := by
    intro H' e1 e2 e3
    rw [hsl] at e1
    refine kk H' _ ls ce sl h1 h2 (hw.put (σ' := wt_sf σ i k v) hr ?_ (fun j hj => wt_ce_sf hj) e3) (hS.put e2 e3 (Or.inl ⟨i, hr, rfl⟩)) hl
    unfold wt_cell
    rw [wt_ce_ob hL, ← wt_fs_set hk]
    exact ⟨_, hc, t_OB.to (V := updV (vp_V _) k (.int v)) ⟨_, e1, q2, q3, t_set q4 hap hkN (.int v)⟩ (fun j _ => vp_updV_set (by simpa using (List.getElem?_eq_some_iff.mp hk).1) (.int v) j)⟩
  rcases hlink with hlink | ⟨host, hlink⟩
  · exact W.putK h.1 h.2.1 (f := f) ⟨h.2.2.2.2.1, h.2.2.2.2.2.1 _ hlink, ⟨_, _, _, hsame _ hi⟩, hst⟩ (by rw [q2]; exact h6) q1 q3 (by rw [hsl]; exact k2_hasslot (q4 k hkN)) rfl rfl hd go
  · exact va_WputK h.1 h.2.1 (f := f) h.2.2.2.2.1 (wt_NWn h.2.2.2.2.2.2.2.1 hlink) (hsame _ hi) hst (by rw [q2]; exact h6) q1 q3 (by rw [hsl]; exact k2_hasslot (q4 k hkN)) rfl rfl hd go
theorem wt_min (h : wt_Ok X cc nL own d Km) {index : Nat} {x y : Int32} (hl0 : Cond.methodLink own index Lib.Math.min.name ∈ wt_GT) (hs0 : Cond.static Lib.Math.min.name ∈ wt_GT) (hi0 : Cond.initialized "java/lang/Math" ∈ wt_GT) (hc0 : Cond.code Lib.Math.min.name Lib.Math.min.code 2 (some .int) ∈ wt_GT) (hd1 : 1 ≤ d) (hK : K ≤ Km) (hst : (st.map fun v => v.category).sum ≤ 8) (hd : decode cc pc = .ok (.invokestatic index, 3)) (k : wt_V X K σ (pc + 3) lv (.int (if y < x then y else x) :: st)) : wt_V X K σ pc lv (.int y :: .int x :: st) := by
  intro H locs ls ce sl h1 h2 hw hS hl
  obtain ⟨hx, hb, hml, hn, hown, hts, -, -, r1, r2, r3, r4, -⟩ := h
  exact va_mmin hx hb (by rw [hml, ← hn, hl.1]) hown (hts _ hl0) (hts _ hs0) (hts _ hi0) (hts _ hc0) (by omega) (by omega) (by omega) (by omega) hd (k H locs ls ce sl h1 h2 hw hS hl)
theorem wt_max (h : wt_Ok X cc nL own d Km) {index : Nat} {x y : Int32} (hl0 : Cond.methodLink own index Lib.Math.max.name ∈ wt_GT) (hs0 : Cond.static Lib.Math.max.name ∈ wt_GT) (hi0 : Cond.initialized "java/lang/Math" ∈ wt_GT) (hc0 : Cond.code Lib.Math.max.name Lib.Math.max.code 2 (some .int) ∈ wt_GT) (hd1 : 1 ≤ d) (hK : K ≤ Km) (hst : (st.map fun v => v.category).sum ≤ 8) (hd : decode cc pc = .ok (.invokestatic index, 3)) (k : wt_V X K σ (pc + 3) lv (.int (if x < y then y else x) :: st)) : wt_V X K σ pc lv (.int y :: .int x :: st) := by
  intro H locs ls ce sl h1 h2 hw hS hl
  obtain ⟨hx, hb, hml, hn, hown, hts, -, -, r1, r2, r3, r4, -⟩ := h
  exact va_mmax hx hb (by rw [hml, ← hn, hl.1]) hown (hts _ hl0) (hts _ hs0) (hts _ hi0) (hts _ hc0) (by omega) (by omega) (by omega) (by omega) hd (k H locs ls ce sl h1 h2 hw hS hl)
end WT2
end WTQ3
-- 05.fc.lean.txt
section WTQ4
/-! contracts of methods that make nothing and throw nothing, calls, returns -/
abbrev wt_SP : Type := (Nat → Prop) → State → Heap → Prop
def wt_PcS (w : wt_E) (S : wt_SP) (av : List Value) (σ : wt_St) (sz : Nat) : Array Value → State → Prop := va_Pc av (fun U => U.heap.size = sz ∧ wt_Wd w σ U.heap ∧ va_K (wt_wD w) wt_cl (wt_tys w) U ∧ wt_NW U ∧ wt_FX (wt_A w sz) U U.heap ∧ S (wt_A w sz) U U.heap)
def wt_bo (rt : Option FieldType) (r : Option Int32) : Prop := rt = some .boolean → ∀ x, r = some x → x = 0 ∨ x = 1
def wt_Qc (w : wt_E) (rt : Option FieldType) (r : Option Int32) (σ' : wt_St) (sz : Nat) : Array Value → State → Outcome → State → Prop := fun _ st oc t => (oc = .returned (r.map .int) ∧ wt_bo rt r ∧ wt_Wd w σ' t.heap) ∧ va_F (wt_A w sz) st t
abbrev wt_ws (y : MethodName) (b : ByteArray) (n : Nat) (rt : Option FieldType) : List Cond := .code y b n rt :: wt_GT
abbrev wt_rm (d : Nat) : Room := { frames := d, cells := 0, slots := 0, locals := 64 * d }
def wt_CtrS (S : wt_SP) (l : Launch) (w : wt_E) (y : MethodName) (b : ByteArray) (n : Nat) (rt : Option FieldType) (d : Nat) (av : List Value) (σ : wt_St) (r : Option Int32) (σ' : wt_St) : Prop := ∀ sz : Nat, Met l y (wt_ws y b n rt) (wt_rm d) (wt_PcS w S av σ sz) (wt_Qc w rt r σ' sz) 0 0 (wt_A w sz)
def wt_S0 : wt_SP := fun _ _ _ => True
def wt_Ctr (l : Launch) (w : wt_E) (y : MethodName) (b : ByteArray) (n : Nat) (rt : Option FieldType) (d : Nat) (av : List Value) (σ : wt_St) (r : Option Int32) (σ' : wt_St) : Prop := wt_CtrS wt_S0 l w y b n rt d av σ r σ'
/-- what the end of a body owes -/
def wt_Rt (X : wt_X) (rt : Option FieldType) (r : Option Int32) (σ' : wt_St) : Prop := (wt_xM X).sig.returnType = rt ∧ wt_xQ X = MQ (wt_xb X) (wt_Qc (wt_xw X) rt r σ' (wt_xs X).heap.size) (wt_xa X) (wt_xs X) 0 0 (wt_A (wt_xw X) (wt_xs X).heap.size)
theorem wt_NW.same {u U : State} (h : u.vm = U.vm) (hN : wt_NW u) : wt_NW U := by
  intro w hw
  have h1 := (List.mem_filter.mp hw).2
  have h2 := hN w hw
  cases w <;> first | exact va_Nw.same rfl h h2 | cases h1
theorem wt_blind (w : wt_E) {S : wt_SP} (hS : wt_Fx S) (av : List Value) (σ : wt_St) (sz : Nat) : FrameBlind (wt_PcS w S av σ sz) := fun a U g mk q => by
  obtain ⟨q0, q1, qP, qK, qN, qF, qS⟩ := q
  exact ⟨q0, q1, qP, va_K.moved (u := U) (U := U.calling g mk a) (Vm.Alike.refl U.vm) qK, wt_NW.same (u := U) (U := U.calling g mk a) rfl qN, wt_FX_fx.2.2.2 _ U (U.calling g mk a) _ rfl qF, hS.2.2.2 _ U (U.calling g mk a) _ rfl qS⟩
theorem wt_args {vs : List Value} (hc : vs.all (fun v => v.category == 1) = true) : ∀ (i j : Nat) (v : Value), vs[j]? = some v → (i + j, v) ∈ lv_args i vs := by
  induction vs with
  | nil => intro i j v h; cases h
  | cons a vs ih =>
    intro i j v h
    simp only [List.all_cons, Bool.and_eq_true, beq_iff_eq] at hc
    have ha : ¬ a.category = 2 := by omega
    unfold lv_args
    rw [if_neg ha]
    cases j with
    | zero =>
      cases h
      exact List.mem_cons_self
    | succ j =>
      have := ih hc.2 (i + 1) j v h
      rw [show i + 1 + j = i + (j + 1) by omega] at this
      exact List.mem_cons_of_mem _ this
theorem wt_ctrS (S : wt_SP) {l : Launch} {w : wt_E} {y : MethodName} {b : ByteArray} {n : Nat} {rt : Option FieldType} {d : Nat} {av : List Value} {σ : wt_St} {r : Option Int32} {σ' : wt_St} (hy : plainName y.cls = true) (hc : av.all (fun v => v.category == 1) = true) (hle : (lg_sl av).length ≤ n) (lv : List (Option Value)) (hlv : lv = av.map some ++ List.replicate (n - av.length) none)
    (body : ∀ X : wt_X, wt_xl X = l → wt_xw X = w → wt_Ok X b n y.cls d 0 → wt_Rt X rt r σ' → S (wt_A (wt_xw X) (wt_xs X).heap.size) (wt_xs X) (wt_xs X).heap → wt_V X 0 σ 0 lv []) : wt_CtrS S l w y b n rt d av σ r σ' := by
  intro sz
  refine Met.ofW (cc := b) (maxL := n) (ret := rt) hy rfl ?_
  intro p e s m args below meth c s₁ B hml hv
  obtain ⟨rfl, hsz, hw, hK, hN, hF, hS⟩ := hv
  have hts := atoms_spec (ws := wt_ws y b n rt) B.pre
  have hown : s.vm.findClass y.cls = some m.cls := findClass_of_methodNamed B.named
  subst hsz
  have hl := lv_entry av (n := n) hle
  rw [lg_entry_eq]
  generalize (lg_sl av ++ List.replicate (n - (lg_sl av).length) Slot.unset).toArray = ls at hl ⊢
  have hlo : wt_lo ls n lv := by
    refine ⟨hl.1, hl.2.1, fun j v hj => ?_⟩
    rw [hlv] at hj
    by_cases hj2 : j < av.length
    · rw [List.getElem?_append_left (by simpa using hj2), List.getElem?_map] at hj
      have hv2 : av[j]? = some v := by
        cases hv3 : av[j]? with
        | none => rw [hv3] at hj; cases hj
        | some z => rw [hv3] at hj; cases hj; rfl
      refine ⟨?_, ?_⟩
      · have := List.all_eq_true.mp hc v (List.mem_of_getElem? hv2)
        simpa using this
      · have := hl.2.2 _ (wt_args hc 0 j v hv2)
        simpa using this
    · rw [List.getElem?_append_right (by simpa using hj2)] at hj
      have := List.mem_of_getElem? hj
      rw [List.mem_replicate] at this
      cases this.2
  exact body ((p, l, e, (headSpec (wt_ws y b n rt) (wt_rm d)).room, s, m, av.toArray, below, meth, c), w, n, _) rfl rfl ⟨B.exec, B.bytes, hml, rfl, hown, fun z hz => hts z (List.mem_cons_of_mem _ hz), hK, hN, Nat.le_refl _, Nat.le_refl _, Nat.le_refl _, Nat.le_refl _, B.notSynchronized, hF⟩ ⟨B.returns, rfl⟩ hS s.heap [] ls 0 0 (Nat.le_refl _) (Nat.le_refl _) hw va_S.rf hlo
theorem wt_ctr {l : Launch} {w : wt_E} {y : MethodName} {b : ByteArray} {n : Nat} {rt : Option FieldType} {d : Nat} {av : List Value} {σ : wt_St} {r : Option Int32} {σ' : wt_St} (hy : plainName y.cls = true) (hc : av.all (fun v => v.category == 1) = true) (hle : (lg_sl av).length ≤ n) (lv : List (Option Value)) (hlv : lv = av.map some ++ List.replicate (n - av.length) none)
    (body : ∀ X : wt_X, wt_xl X = l → wt_xw X = w → wt_Ok X b n y.cls d 0 → wt_Rt X rt r σ' → wt_V X 0 σ 0 lv []) : wt_Ctr l w y b n rt d av σ r σ' := wt_ctrS wt_S0 hy hc hle lv hlv (fun X h1 h2 h3 h4 _ => body X h1 h2 h3 h4)
section WT3
variable {X : wt_X} {cc : ByteArray} {nL : Nat} {own : String} {d Km K : Nat} {σ : wt_St} {pc : Nat} {lv : List (Option Value)} {st : List Value}
theorem wt_iret (h : wt_Ok X cc nL own d Km) {x : Int32} (hR : wt_Rt X (some .int) (some x) σ) (hd : decode cc pc = .ok (.ireturn, 1)) : wt_V X 0 σ pc lv [.int x] := by
  intro H locs ls ce sl h1 h2 hw hS hl
  have e1 : ce = 0 := by omega
  have e2 : sl = 0 := by omega
  subst e1; subst e2
  obtain ⟨hr, hQ⟩ := hR
  show W _ _ _ _ _ _ _ _ _ _ _ _ _ _ (wt_xQ X) _
  rw [hQ]
  exact W.iret h.1 h.2.1 hr (fun t ht hW => ⟨⟨rfl, (fun z => by cases z), by rw [ht]; exact hw⟩, hS.F ht⟩) hS.2.2 hd h.2.2.2.2.2.2.2.2.2.2.2.2.1
theorem wt_nz {x : Int32} (hx : x = 0 ∨ x = 1) : narrow .boolean (.int x) = .int x := by
  rcases hx with rfl | rfl <;> rfl
theorem wt_zret (h : wt_Ok X cc nL own d Km) {x : Int32} (hx : x = 0 ∨ x = 1) (hR : wt_Rt X (some .boolean) (some x) σ) (hd : decode cc pc = .ok (.ireturn, 1)) : wt_V X 0 σ pc lv [.int x] := by
  intro H locs ls ce sl h1 h2 hw hS hl
  have e1 : ce = 0 := by omega
  have e2 : sl = 0 := by omega
  subst e1; subst e2
  obtain ⟨hr, hQ⟩ := hR
  show W _ _ _ _ _ _ _ _ _ _ _ _ _ _ (wt_xQ X) _
  rw [hQ]
  exact W.zret h.1 h.2.1 hr (wt_nz hx) (fun t ht hW => ⟨⟨rfl, (fun _ z hz => by cases hz; exact hx), by rw [ht]; exact hw⟩, hS.F ht⟩) hS.2.2 hd h.2.2.2.2.2.2.2.2.2.2.2.2.1
theorem wt_vret (h : wt_Ok X cc nL own d Km) (hR : wt_Rt X none none σ) (hd : decode cc pc = .ok (.return_, 1)) : wt_V X 0 σ pc lv [] := by
  intro H locs ls ce sl h1 h2 hw hS hl
  have e1 : ce = 0 := by omega
  have e2 : sl = 0 := by omega
  subst e1; subst e2
  obtain ⟨hr, hQ⟩ := hR
  show W _ _ _ _ _ _ _ _ _ _ _ _ _ _ (wt_xQ X) _
  rw [hQ]
  exact W.vret h.1 h.2.1 hr (fun t ht hW => ⟨⟨rfl, (fun z => by cases z), by rw [ht]; exact hw⟩, hS.F ht⟩) hS.2.2 hd h.2.2.2.2.2.2.2.2.2.2.2.2.1
def wt_MV (own : String) (idx : Nat) (y : MethodName) : Prop := (Cond.methodLink own idx y ∈ wt_GT ∨ ∃ host, Cond.methodLinkNest own idx y host ∈ wt_NT) ∧ Cond.instanceMethod y ∈ wt_GT ∧ Cond.selects y.cls y y ∈ wt_GT ∧ Cond.initialized y.cls ∈ wt_GT
def wt_MS (own : String) (idx : Nat) (y : MethodName) : Prop := (Cond.methodLink own idx y ∈ wt_GT ∨ ∃ host, Cond.methodLinkNest own idx y host ∈ wt_NT) ∧ Cond.static y ∈ wt_GT ∧ Cond.initialized y.cls ∈ wt_GT
def wt_Ya (y : MethodName) (b : ByteArray) (n : Nat) (rt : Option FieldType) (k : Nat) : Prop := (y.cls ≠ "java/lang/invoke/MethodHandle" ∧ y.cls ≠ "java/lang/invoke/VarHandle" ∧ (parseMethodDescriptor y.desc).map (fun d => d.parameters.length) = some k) ∧ Cond.code y b n rt ∈ wt_GT ∧ n ≤ 40
theorem wt_after {rt : Option FieldType} {r : Option Int32} {σ' : wt_St} {H : Heap} {locs : List Loc} {ls : Array Slot} {ce sl : Nat} {st0 : List Value} {a : Array Value} (h1 : ce ≤ K) (h2 : sl ≤ 16 * K)
    (hr : va_Run (wt_xp X) (wt_xl X) (wt_xe X) (wt_xR X) (wt_xs X) (wt_xm X) (wt_xa X) (wt_xb X) (wt_xM X) (wt_xc X) H locs ce sl 0 0 (F0 (wt_xm X) pc ls st0) st (wt_Qc (wt_xw X) rt r σ' H.size a) (wt_A (wt_xw X) H.size))
    (hS : va_S (wt_A (wt_xw X) (wt_xs X).heap.size) (wt_xs X).heap H locs) (hl : wt_lo ls (wt_xn X) lv) (kk : wt_bo rt r → wt_V X K σ' (pc + 3) lv ((r.map .int).toList ++ st)) : wt_W X H locs ce sl (F0 (wt_xm X) pc ls st0) := by
  intro T hT Y
  obtain ⟨v, st₀, t, T', L, h0, Y', hL, e1, e2, ⟨⟨hv, hb, hwd⟩, hz, hk⟩, stp⟩ := hr T hT Y
  have hv2 : v = r.map .int := Outcome.returned.inj hv
  subst hv2
  rw [h0] at hz hk
  have hAA : ∀ q : Nat, wt_A (wt_xw X) H.size q → wt_A (wt_xw X) (wt_xs X).heap.size q := fun q hq => hq.elim Or.inl (fun z => Or.inr (Nat.le_trans hS.1 z))
  obtain ⟨t2, a1, b1⟩ := kk hb T'.heap (locs ++ L) ls (ce + 0) (sl + 0) h1 h2 (by rw [e1]; exact hwd)
    ⟨Nat.le_trans hS.1 (by rw [e1]; exact hz), fun q g1 g2 => by
      rw [e1, hk q (Nat.lt_of_lt_of_le g1 hS.1) (fun z => g2 (hAA q z))]
      exact hS.2.1 q g1 g2, fun q hq => by
      rcases List.mem_append.mp hq with g | g
      · exact hS.2.2 q g
      · exact hAA _ (hL q g)⟩ hl T' rfl Y'
  exact ⟨t2, stp t2 a1, b1⟩
theorem wt_pre {s U : State} {w : wt_E} {S : wt_SP} (hSx : wt_Fx S) {σ : wt_St} {H : Heap} {locs : List Loc} {av : List Value} (hK : va_K (wt_wD w) wt_cl (wt_tys w) s) (hN : wt_NW s) (hF : wt_FX (wt_A w s.heap.size) s s.heap) (hS0 : S (wt_A w s.heap.size) s s.heap) (hS : va_S (wt_A w s.heap.size) s.heap H locs) (hw : wt_Wd w σ H) (hU : U.heap = H) (hW : s.WarmedH U.vm) : wt_PcS w S av σ H.size av.toArray U := by
  have hAA : ∀ q : Nat, wt_A w H.size q → wt_A w s.heap.size q := fun q hq => hq.elim Or.inl (fun z => Or.inr (Nat.le_trans hS.1 z))
  subst hU
  exact ⟨rfl, rfl, hw, va_K.moved hW.alike hK, hN.warm hW, wt_FX_fx.2.2.1 _ _ _ _ hW (wt_FX_fx.2.1 _ _ _ _ (wt_FX_fx.1 _ _ _ _ hF hS.2.1) hAA), hSx.2.2.1 _ _ _ _ hW (hSx.2.1 _ _ _ _ (hSx.1 _ _ _ _ hS0 hS.2.1) hAA)⟩
theorem wt_goodG (h : wt_Ok X cc nL own d Km) {y : MethodName} {b : ByteArray} {n : Nat} {rt : Option FieldType} (hc : Cond.code y b n rt ∈ wt_GT) : GoodIn wt_GT (wt_ws y b n rt) := fun w hw => by
  have hm : w ∈ wt_GT := by
    rcases List.mem_cons.mp hw with e | e
    · rw [e]; exact hc
    · exact e
  exact ⟨hm, good_of_word (List.mem_filter.mp hm).2⟩
theorem wt_callVS (h : wt_Ok X cc nL own d Km) {S : wt_SP} (hSx : wt_Fx S) (hS0 : S (wt_A (wt_xw X) (wt_xs X).heap.size) (wt_xs X) (wt_xs X).heap) {idx : Nat} {y : MethodName} {b : ByteArray} {n k dd ci nn N i : Nat} {rs : List Nat} {T : u_T} {rt : Option FieldType} {As st0 : List Value} {r : Option Int32} {σ' : wt_St} (mv : wt_MV own idx y) (hy : wt_Ya y b n rt k) (hc : wt_CtrS S (wt_xl X) (wt_xw X) y b n rt dd (.ref (wt_ad (wt_xw X) i) :: As) σ r σ') (hd1 : dd + 1 ≤ d) (hi : wt_dom (wt_xw X) i) (hL : wt_LAY[i]? = some (ci + 3, nn, rs)) (hcl : wt_cl[ci]? = some (y.cls, T, N)) (hlen : As.length = k) (hst : As.reverse ++ .ref (wt_ad (wt_xw X) i) :: st = st0) (hro : (st.map fun v => v.category).sum ≤ 8) (hK : K ≤ Km) (hd : decode cc pc = .ok (.invokevirtual idx, 3))
    (kk : wt_bo rt r → wt_V X K σ' (pc + 3) lv ((r.map .int).toList ++ st)) : wt_V X K σ pc lv st0 := by
  intro H locs ls ce sl h1 h2 hw hS hl
  obtain ⟨hlink, hin, hsel, hini⟩ := mv
  obtain ⟨hx, hb, hml, hn, hown, hts, hKK, hN, r1, r2, r3, r4, hlk, hFX⟩ := id h
  have hP := hw.one hi
  unfold wt_cell at hP
  rw [wt_ce_ob hL] at hP
  have hrecv := va_recv hKK hP hcl (q0 := 0) rfl
  have hpv : PreV (wt_xs X) H y.cls (wt_ad (wt_xw X) i) (wt_PcS (wt_xw X) S (.ref (wt_ad (wt_xw X) i) :: As) σ H.size) As := ⟨wt_blind _ hSx _ _ _, hrecv, fun U hU hW => wt_pre hSx hKK hN hFX hS0 hS hw hU hW⟩
  have hfix : CallFix (wt_xp X) (wt_xm X) (wt_xc X) cc nL (wt_xs X) (wt_xa X) wt_GT own := ⟨hx, hb, hml, hown, hts⟩
  have hsz : ls.size = nL := by rw [hl.1, hn]
  have hroo : (wt_rm dd).frames + 1 ≤ (wt_xR X).frames ∧ 8 + (n + 11) + (wt_rm dd).locals ≤ (wt_xR X).locals := by
    have := hy.2.2
    exact ⟨by show dd + 1 ≤ _; omega, by show 8 + (n + 11) + 64 * dd ≤ _; omega⟩
  rcases hlink with hlink | ⟨host, hlink⟩
  · refine wt_after h1 h2 (va_runV hfix (hc H.size) ⟨callB_of k hts (wt_goodG h hy.2.1) rfl rfl rfl (hts _ hini) (hts _ hlink) hy.1 hroo, hts _ hin, hts _ hsel⟩ hpv rfl hlen hsz hst.symm (lv_room hro) hd ⟨by omega, by omega⟩) hS hl kk
  · refine wt_after h1 h2 (va_runVN hfix (hc H.size) ⟨va_cnB (host := host) k hts (wt_goodG h hy.2.1) rfl rfl rfl (hN _ hlink) (hts _ hini) hy.1 hroo, hts _ hin, hts _ hsel⟩ hpv rfl hlen hsz hst.symm (lv_room hro) hd ⟨by omega, by omega⟩) hS hl kk
theorem wt_callSS (h : wt_Ok X cc nL own d Km) {S : wt_SP} (hSx : wt_Fx S) (hS0 : S (wt_A (wt_xw X) (wt_xs X).heap.size) (wt_xs X) (wt_xs X).heap) {idx : Nat} {y : MethodName} {b : ByteArray} {n k dd : Nat} {rt : Option FieldType} {As st0 : List Value} {r : Option Int32} {σ' : wt_St} (mv : wt_MS own idx y) (hy : wt_Ya y b n rt k) (hc : wt_CtrS S (wt_xl X) (wt_xw X) y b n rt dd As σ r σ') (hd1 : dd + 1 ≤ d) (hlen : As.length = k) (hst : As.reverse ++ st = st0) (hro : (st.map fun v => v.category).sum ≤ 8) (hK : K ≤ Km) (hd : decode cc pc = .ok (.invokestatic idx, 3))
    (kk : wt_bo rt r → wt_V X K σ' (pc + 3) lv ((r.map .int).toList ++ st)) : wt_V X K σ pc lv st0 := by
  intro H locs ls ce sl h1 h2 hw hS hl
  obtain ⟨hlink, hstt, hini⟩ := mv
  obtain ⟨hx, hb, hml, hn, hown, hts, hKK, hN, r1, r2, r3, r4, hlk, hFX⟩ := id h
  have hps : PreS (wt_xs X) H (wt_PcS (wt_xw X) S As σ H.size) As := ⟨wt_blind _ hSx _ _ _, fun U hU hW => wt_pre hSx hKK hN hFX hS0 hS hw hU hW⟩
  have hfix : CallFix (wt_xp X) (wt_xm X) (wt_xc X) cc nL (wt_xs X) (wt_xa X) wt_GT own := ⟨hx, hb, hml, hown, hts⟩
  have hsz : ls.size = nL := by rw [hl.1, hn]
  have hroo : (wt_rm dd).frames + 1 ≤ (wt_xR X).frames ∧ 8 + (n + 11) + (wt_rm dd).locals ≤ (wt_xR X).locals := by
    have := hy.2.2
    exact ⟨by show dd + 1 ≤ _; omega, by show 8 + (n + 11) + 64 * dd ≤ _; omega⟩
  rcases hlink with hlink | ⟨host, hlink⟩
  · refine wt_after h1 h2 (va_runS hfix (hc H.size) ⟨callB_of k hts (wt_goodG h hy.2.1) rfl rfl rfl (hts _ hini) (hts _ hlink) hy.1 hroo, hts _ hstt⟩ hps rfl hlen hsz hst.symm (lv_room hro) hd ⟨by omega, by omega⟩) hS hl kk
  · refine wt_after h1 h2 (va_runSN hfix (hc H.size) ⟨va_cnB (host := host) k hts (wt_goodG h hy.2.1) rfl rfl rfl (hN _ hlink) (hts _ hini) hy.1 hroo, hts _ hstt, trivial⟩ hps rfl hlen hsz hst.symm (lv_room hro) hd ⟨by omega, by omega⟩) hS hl kk
theorem wt_callV (h : wt_Ok X cc nL own d Km) {idx : Nat} {y : MethodName} {b : ByteArray} {n k dd ci nn N i : Nat} {rs : List Nat} {T : u_T} {rt : Option FieldType} {As st0 : List Value} {r : Option Int32} {σ' : wt_St} (mv : wt_MV own idx y) (hy : wt_Ya y b n rt k) (hc : wt_Ctr (wt_xl X) (wt_xw X) y b n rt dd (.ref (wt_ad (wt_xw X) i) :: As) σ r σ') (hd1 : dd + 1 ≤ d) (hi : wt_dom (wt_xw X) i) (hL : wt_LAY[i]? = some (ci + 3, nn, rs)) (hcl : wt_cl[ci]? = some (y.cls, T, N)) (hlen : As.length = k) (hst : As.reverse ++ .ref (wt_ad (wt_xw X) i) :: st = st0) (hro : (st.map fun v => v.category).sum ≤ 8) (hK : K ≤ Km) (hd : decode cc pc = .ok (.invokevirtual idx, 3))
    (kk : wt_bo rt r → wt_V X K σ' (pc + 3) lv ((r.map .int).toList ++ st)) : wt_V X K σ pc lv st0 := wt_callVS h wt_True_fx trivial mv hy hc hd1 hi hL hcl hlen hst hro hK hd kk
theorem wt_callS (h : wt_Ok X cc nL own d Km) {idx : Nat} {y : MethodName} {b : ByteArray} {n k dd : Nat} {rt : Option FieldType} {As st0 : List Value} {r : Option Int32} {σ' : wt_St} (mv : wt_MS own idx y) (hy : wt_Ya y b n rt k) (hc : wt_Ctr (wt_xl X) (wt_xw X) y b n rt dd As σ r σ') (hd1 : dd + 1 ≤ d) (hlen : As.length = k) (hst : As.reverse ++ st = st0) (hro : (st.map fun v => v.category).sum ≤ 8) (hK : K ≤ Km) (hd : decode cc pc = .ok (.invokestatic idx, 3))
    (kk : wt_bo rt r → wt_V X K σ' (pc + 3) lv ((r.map .int).toList ++ st)) : wt_V X K σ pc lv st0 := wt_callSS h wt_True_fx trivial mv hy hc hd1 hlen hst hro hK hd kk
end WT3
/-! loops of the pure programs -/
noncomputable def wt_it {α ρ : Type} (body : (α → Option ρ) → α → Option ρ) : Nat → α → Option ρ
  | 0, _ => none
  | k + 1, a => body (wt_it body k) a
theorem wt_it_ind {α ρ : Type} {body : (α → Option ρ) → α → Option ρ} {res : ρ} (P : α → Prop) (h : ∀ K : α → Option ρ, (∀ a, K a = some res → P a) → ∀ a, body K a = some res → P a) : ∀ (k : Nat) (a : α), wt_it body k a = some res → P a := by
  intro k
  induction k with
  | zero => intro a h1; cases h1
  | succ k ih => intro a h1; exact h _ ih a h1
theorem wt_bi {α β : Type} {x : Option α} {f : α → Option β} {r : β} (h : x.bind f = some r) : ∃ a, x = some a ∧ f a = some r := Option.bind_eq_some_iff.mp h
end WTQ4
