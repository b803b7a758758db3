/-! a code read by the rows of its bytes: a piece for each few instructions, a lemma for each instruction -/
section WTDEC
def wt_nb (c : ByteArray) (P b : Nat) : Prop := ∃ h : P < c.size, c[P].toNat = b
def wt_bs (c : ByteArray) : List Nat := c.data.toList.map UInt8.toNat
/-- the pieces stand in the code from a place on -/
def wt_cs (c : ByteArray) (k : Nat) (LL : List (List Nat)) : Prop := ∀ (i b : Nat), LL.flatten[i]? = some b → wt_nb c (k + i) b
variable {c : ByteArray} {k P : Nat} {L : List Nat} {r : List (List Nat)}
theorem wt_cs_of {LL : List (List Nat)} (h : wt_bs c = LL.flatten) : wt_cs c 0 LL := by
  intro i b e
  rw [← h] at e
  unfold wt_bs at e
  rw [List.getElem?_map] at e
  obtain ⟨u, hu, hb⟩ := Option.map_eq_some_iff.mp e
  have hi : i < c.data.toList.length := (List.getElem?_eq_some_iff.mp hu).1
  have e2 : c.data.toList[i]? = some c[i] := List.getElem?_eq_getElem (l := c.data.toList) (i := i) hi
  rw [hu] at e2
  have e3 := Option.some.inj e2
  rw [Nat.zero_add]
  exact ⟨hi, by rw [← e3]; exact hb⟩
theorem wt_cs_tl {m k' : Nat} (h : wt_cs c k (L :: r)) (hm : L.length = m) (hk : k + m = k') : wt_cs c k' r := by
  intro i b e
  have q := h (m + i) b (by rw [List.flatten_cons, List.getElem?_append_right (by omega), hm, Nat.add_sub_cancel_left]; exact e)
  rw [← hk, Nat.add_assoc]
  exact q
theorem wt_cs_at (h : wt_cs c k (L :: r)) {i : Nat} (hP : k + i = P) {D : List Nat} (e : L.drop i = D) (j b : Nat) (hb : D[j]? = some b) : wt_nb c (P + j) b := by
  rw [← e, List.getElem?_drop] at hb
  have q := h (i + j) b (by rw [List.flatten_cons, List.getElem?_append_left (List.getElem?_eq_some_iff.mp hb).1]; exact hb)
  rw [← hP, Nat.add_assoc]
  exact q
theorem wt_r1 {p b : Nat} (h : wt_nb c p b) : (Jvm.ClassFile.Reader.u1 : Jvm.ClassFile.Decoder Nat) c p = .ok (b, p + 1) := by
  obtain ⟨h1, h2⟩ := h
  have e : (Jvm.ClassFile.Reader.u1 : Jvm.ClassFile.Decoder Nat) c p = (if h : p < c.size then (do set (p + 1); pure c[p].toNat : Jvm.ClassFile.Decoder Nat) else throw (Jvm.ClassFile.HasTruncated.truncated p)) c p := rfl
  rw [e, dif_pos h1]
  show (.ok (c[p].toNat, p + 1) : Except Jvm.ClassFile.DecodeError (Nat × Nat)) = _
  rw [h2]
theorem wt_r2 {p a b : Nat} (ha : wt_nb c p a) (hb : wt_nb c (p + 1) b) : (Jvm.ClassFile.Reader.u2 : Jvm.ClassFile.Decoder Nat) c p = .ok (a * 256 + b, p + 2) := by
  have e : (Jvm.ClassFile.Reader.u2 : Jvm.ClassFile.Decoder Nat) c p = Except.bind ((Jvm.ClassFile.Reader.u1 : Jvm.ClassFile.Decoder Nat) c p) (fun r => Except.bind ((Jvm.ClassFile.Reader.u1 : Jvm.ClassFile.Decoder Nat) c r.2) (fun t => .ok (r.1 * 256 + t.1, t.2))) := rfl
  rw [e, wt_r1 ha]
  show Except.bind ((Jvm.ClassFile.Reader.u1 : Jvm.ClassFile.Decoder Nat) c (p + 1)) _ = _
  rw [wt_r1 hb]
  rfl
theorem wt_rs1 {p b : Nat} (h : wt_nb c p b) : (Jvm.ClassFile.Reader.s1 : Jvm.ClassFile.Decoder Int) c p = .ok (Jvm.ClassFile.Reader.signed 8 b, p + 1) := by
  have e : (Jvm.ClassFile.Reader.s1 : Jvm.ClassFile.Decoder Int) c p = Except.bind ((Jvm.ClassFile.Reader.u1 : Jvm.ClassFile.Decoder Nat) c p) (fun r => .ok (Jvm.ClassFile.Reader.signed 8 r.1, r.2)) := rfl
  rw [e, wt_r1 h]
  rfl
theorem wt_rs2 {p a b : Nat} (ha : wt_nb c p a) (hb : wt_nb c (p + 1) b) : (Jvm.ClassFile.Reader.s2 : Jvm.ClassFile.Decoder Int) c p = .ok (Jvm.ClassFile.Reader.signed 16 (a * 256 + b), p + 2) := by
  have e : (Jvm.ClassFile.Reader.s2 : Jvm.ClassFile.Decoder Int) c p = Except.bind ((Jvm.ClassFile.Reader.u2 : Jvm.ClassFile.Decoder Nat) c p) (fun r => .ok (Jvm.ClassFile.Reader.signed 16 r.1, r.2)) := rfl
  rw [e, wt_r2 ha hb]
  rfl
variable {n l : Nat} {F : Nat → Jvm.ClassFile.Decoder Jvm.ClassFile.Instr}
theorem wt_oI {x : Jvm.ClassFile.Instr} (hn : wt_nb c (P + 0) n) (hF : Jvm.ClassFile.Decoder.instr P = (Jvm.ClassFile.Reader.u1 >>= F)) (h : F n c (P + 1) = .ok (x, P + l)) : Jvm.ClassFile.decode c P = .ok (x, l) := by
  have e : Jvm.ClassFile.decode c P = Except.bind (Jvm.ClassFile.Decoder.instr P c P) (fun r => .ok (r.1, r.2 - P)) := rfl
  have e2 : (Jvm.ClassFile.Reader.u1 >>= F) c P = Except.bind ((Jvm.ClassFile.Reader.u1 : Jvm.ClassFile.Decoder Nat) c P) (fun r => F r.1 c r.2) := rfl
  rw [e, hF, e2, wt_r1 (p := P) hn]
  show Except.bind (F n c (P + 1)) _ = _
  rw [h]
  show (.ok (x, P + l - P) : Except Jvm.ClassFile.DecodeError (Jvm.ClassFile.Instr × Nat)) = _
  rw [Nat.add_sub_cancel_left]
theorem wt_o0 {x : Jvm.ClassFile.Instr} (hF : Jvm.ClassFile.Decoder.instr P = (Jvm.ClassFile.Reader.u1 >>= F)) (h : F n = Pure.pure x) (hn : wt_nb c (P + 0) n) : Jvm.ClassFile.decode c P = .ok (x, 1) := wt_oI hn hF (by rw [h]; rfl)
theorem wt_o1 {a : Nat} (g : Nat → Jvm.ClassFile.Instr) (hF : Jvm.ClassFile.Decoder.instr P = (Jvm.ClassFile.Reader.u1 >>= F)) (h : F n = (Jvm.ClassFile.Reader.u1 >>= fun x => pure (g x))) (hn : wt_nb c (P + 0) n) (ha : wt_nb c (P + 1) a) : Jvm.ClassFile.decode c P = .ok (g a, 2) := wt_oI hn hF (by
  have e : (Jvm.ClassFile.Reader.u1 >>= fun x => (pure (g x) : Jvm.ClassFile.Decoder Jvm.ClassFile.Instr)) c (P + 1) = Except.bind ((Jvm.ClassFile.Reader.u1 : Jvm.ClassFile.Decoder Nat) c (P + 1)) (fun r => .ok (g r.1, r.2)) := rfl
  rw [h, e, wt_r1 ha]
  rfl)
theorem wt_o1s {a : Nat} (g : Int → Jvm.ClassFile.Instr) (hF : Jvm.ClassFile.Decoder.instr P = (Jvm.ClassFile.Reader.u1 >>= F)) (h : F n = (Jvm.ClassFile.Reader.s1 >>= fun x => pure (g x))) (hn : wt_nb c (P + 0) n) (ha : wt_nb c (P + 1) a) : Jvm.ClassFile.decode c P = .ok (g (Jvm.ClassFile.Reader.signed 8 a), 2) := wt_oI hn hF (by
  have e : (Jvm.ClassFile.Reader.s1 >>= fun x => (pure (g x) : Jvm.ClassFile.Decoder Jvm.ClassFile.Instr)) c (P + 1) = Except.bind ((Jvm.ClassFile.Reader.s1 : Jvm.ClassFile.Decoder Int) c (P + 1)) (fun r => .ok (g r.1, r.2)) := rfl
  rw [h, e, wt_rs1 ha]
  rfl)
theorem wt_o2 {a b : Nat} (g : Nat → Jvm.ClassFile.Instr) (hF : Jvm.ClassFile.Decoder.instr P = (Jvm.ClassFile.Reader.u1 >>= F)) (h : F n = (Jvm.ClassFile.Reader.u2 >>= fun x => pure (g x))) (hn : wt_nb c (P + 0) n) (ha : wt_nb c (P + 1) a) (hb : wt_nb c (P + 2) b) : Jvm.ClassFile.decode c P = .ok (g (a * 256 + b), 3) := wt_oI hn hF (by
  have e : (Jvm.ClassFile.Reader.u2 >>= fun x => (pure (g x) : Jvm.ClassFile.Decoder Jvm.ClassFile.Instr)) c (P + 1) = Except.bind ((Jvm.ClassFile.Reader.u2 : Jvm.ClassFile.Decoder Nat) c (P + 1)) (fun r => .ok (g r.1, r.2)) := rfl
  rw [h, e, wt_r2 ha hb]
  rfl)
theorem wt_o2s {a b : Nat} (g : Int → Jvm.ClassFile.Instr) (hF : Jvm.ClassFile.Decoder.instr P = (Jvm.ClassFile.Reader.u1 >>= F)) (h : F n = (Jvm.ClassFile.Reader.s2 >>= fun x => pure (g x))) (hn : wt_nb c (P + 0) n) (ha : wt_nb c (P + 1) a) (hb : wt_nb c (P + 2) b) : Jvm.ClassFile.decode c P = .ok (g (Jvm.ClassFile.Reader.signed 16 (a * 256 + b)), 3) := wt_oI hn hF (by
  have e : (Jvm.ClassFile.Reader.s2 >>= fun x => (pure (g x) : Jvm.ClassFile.Decoder Jvm.ClassFile.Instr)) c (P + 1) = Except.bind ((Jvm.ClassFile.Reader.s2 : Jvm.ClassFile.Decoder Int) c (P + 1)) (fun r => .ok (g r.1, r.2)) := rfl
  rw [h, e, wt_rs2 ha hb]
  rfl)
theorem wt_o11 {a b : Nat} (g : Nat → Int → Jvm.ClassFile.Instr) (hF : Jvm.ClassFile.Decoder.instr P = (Jvm.ClassFile.Reader.u1 >>= F)) (h : F n = (Jvm.ClassFile.Reader.u1 >>= fun x => Jvm.ClassFile.Reader.s1 >>= fun y => pure (g x y))) (hn : wt_nb c (P + 0) n) (ha : wt_nb c (P + 1) a) (hb : wt_nb c (P + 2) b) : Jvm.ClassFile.decode c P = .ok (g a (Jvm.ClassFile.Reader.signed 8 b), 3) := wt_oI hn hF (by
  have e : (Jvm.ClassFile.Reader.u1 >>= fun x => Jvm.ClassFile.Reader.s1 >>= fun y => (pure (g x y) : Jvm.ClassFile.Decoder Jvm.ClassFile.Instr)) c (P + 1) = Except.bind ((Jvm.ClassFile.Reader.u1 : Jvm.ClassFile.Decoder Nat) c (P + 1)) (fun r => Except.bind ((Jvm.ClassFile.Reader.s1 : Jvm.ClassFile.Decoder Int) c r.2) (fun t => .ok (g r.1 t.1, t.2))) := rfl
  rw [h, e, wt_r1 ha]
  show Except.bind ((Jvm.ClassFile.Reader.s1 : Jvm.ClassFile.Decoder Int) c (P + 2)) _ = _
  rw [wt_rs1 hb]
  rfl)
theorem wt_oN {x : Jvm.ClassFile.Instr} {G : Nat → Jvm.ClassFile.Decoder Jvm.ClassFile.Instr} {a : Nat} (hF : Jvm.ClassFile.Decoder.instr P = (Jvm.ClassFile.Reader.u1 >>= F)) (h : F n = (Jvm.ClassFile.Reader.u1 >>= G)) (hG : G a = Pure.pure x) (hn : wt_nb c (P + 0) n) (ha : wt_nb c (P + 1) a) : Jvm.ClassFile.decode c P = .ok (x, 2) := wt_oI hn hF (by
  have e : (Jvm.ClassFile.Reader.u1 >>= G) c (P + 1) = Except.bind ((Jvm.ClassFile.Reader.u1 : Jvm.ClassFile.Decoder Nat) c (P + 1)) (fun r => G r.1 c r.2) := rfl
  rw [h, e, wt_r1 ha]
  show G a c (P + 1 + 1) = _
  rw [hG]
  rfl)
theorem wt_op2 (h : wt_cs c k (L :: r)) (i : Nat) (hP : k + i = P) {R : List Nat} (e : L.drop i = 2 :: R) : Jvm.ClassFile.decode c P = .ok (.iconst (-1), 1) := wt_o0 (n := 2) rfl rfl (wt_cs_at h hP e 0 2 rfl)
theorem wt_op3 (h : wt_cs c k (L :: r)) (i : Nat) (hP : k + i = P) {R : List Nat} (e : L.drop i = 3 :: R) : Jvm.ClassFile.decode c P = .ok (.iconst 0, 1) := wt_o0 (n := 3) rfl rfl (wt_cs_at h hP e 0 3 rfl)
theorem wt_op4 (h : wt_cs c k (L :: r)) (i : Nat) (hP : k + i = P) {R : List Nat} (e : L.drop i = 4 :: R) : Jvm.ClassFile.decode c P = .ok (.iconst 1, 1) := wt_o0 (n := 4) rfl rfl (wt_cs_at h hP e 0 4 rfl)
theorem wt_op5 (h : wt_cs c k (L :: r)) (i : Nat) (hP : k + i = P) {R : List Nat} (e : L.drop i = 5 :: R) : Jvm.ClassFile.decode c P = .ok (.iconst 2, 1) := wt_o0 (n := 5) rfl rfl (wt_cs_at h hP e 0 5 rfl)
theorem wt_op6 (h : wt_cs c k (L :: r)) (i : Nat) (hP : k + i = P) {R : List Nat} (e : L.drop i = 6 :: R) : Jvm.ClassFile.decode c P = .ok (.iconst 3, 1) := wt_o0 (n := 6) rfl rfl (wt_cs_at h hP e 0 6 rfl)
theorem wt_op7 (h : wt_cs c k (L :: r)) (i : Nat) (hP : k + i = P) {R : List Nat} (e : L.drop i = 7 :: R) : Jvm.ClassFile.decode c P = .ok (.iconst 4, 1) := wt_o0 (n := 7) rfl rfl (wt_cs_at h hP e 0 7 rfl)
theorem wt_op8 (h : wt_cs c k (L :: r)) (i : Nat) (hP : k + i = P) {R : List Nat} (e : L.drop i = 8 :: R) : Jvm.ClassFile.decode c P = .ok (.iconst 5, 1) := wt_o0 (n := 8) rfl rfl (wt_cs_at h hP e 0 8 rfl)
theorem wt_op26 (h : wt_cs c k (L :: r)) (i : Nat) (hP : k + i = P) {R : List Nat} (e : L.drop i = 26 :: R) : Jvm.ClassFile.decode c P = .ok (.iload_n 0, 1) := wt_o0 (n := 26) rfl rfl (wt_cs_at h hP e 0 26 rfl)
theorem wt_op27 (h : wt_cs c k (L :: r)) (i : Nat) (hP : k + i = P) {R : List Nat} (e : L.drop i = 27 :: R) : Jvm.ClassFile.decode c P = .ok (.iload_n 1, 1) := wt_o0 (n := 27) rfl rfl (wt_cs_at h hP e 0 27 rfl)
theorem wt_op28 (h : wt_cs c k (L :: r)) (i : Nat) (hP : k + i = P) {R : List Nat} (e : L.drop i = 28 :: R) : Jvm.ClassFile.decode c P = .ok (.iload_n 2, 1) := wt_o0 (n := 28) rfl rfl (wt_cs_at h hP e 0 28 rfl)
theorem wt_op29 (h : wt_cs c k (L :: r)) (i : Nat) (hP : k + i = P) {R : List Nat} (e : L.drop i = 29 :: R) : Jvm.ClassFile.decode c P = .ok (.iload_n 3, 1) := wt_o0 (n := 29) rfl rfl (wt_cs_at h hP e 0 29 rfl)
theorem wt_op42 (h : wt_cs c k (L :: r)) (i : Nat) (hP : k + i = P) {R : List Nat} (e : L.drop i = 42 :: R) : Jvm.ClassFile.decode c P = .ok (.aload_n 0, 1) := wt_o0 (n := 42) rfl rfl (wt_cs_at h hP e 0 42 rfl)
theorem wt_op43 (h : wt_cs c k (L :: r)) (i : Nat) (hP : k + i = P) {R : List Nat} (e : L.drop i = 43 :: R) : Jvm.ClassFile.decode c P = .ok (.aload_n 1, 1) := wt_o0 (n := 43) rfl rfl (wt_cs_at h hP e 0 43 rfl)
theorem wt_op44 (h : wt_cs c k (L :: r)) (i : Nat) (hP : k + i = P) {R : List Nat} (e : L.drop i = 44 :: R) : Jvm.ClassFile.decode c P = .ok (.aload_n 2, 1) := wt_o0 (n := 44) rfl rfl (wt_cs_at h hP e 0 44 rfl)
theorem wt_op45 (h : wt_cs c k (L :: r)) (i : Nat) (hP : k + i = P) {R : List Nat} (e : L.drop i = 45 :: R) : Jvm.ClassFile.decode c P = .ok (.aload_n 3, 1) := wt_o0 (n := 45) rfl rfl (wt_cs_at h hP e 0 45 rfl)
theorem wt_op46 (h : wt_cs c k (L :: r)) (i : Nat) (hP : k + i = P) {R : List Nat} (e : L.drop i = 46 :: R) : Jvm.ClassFile.decode c P = .ok (.iaload, 1) := wt_o0 (n := 46) rfl rfl (wt_cs_at h hP e 0 46 rfl)
theorem wt_op47 (h : wt_cs c k (L :: r)) (i : Nat) (hP : k + i = P) {R : List Nat} (e : L.drop i = 47 :: R) : Jvm.ClassFile.decode c P = .ok (.laload, 1) := wt_o0 (n := 47) rfl rfl (wt_cs_at h hP e 0 47 rfl)
theorem wt_op50 (h : wt_cs c k (L :: r)) (i : Nat) (hP : k + i = P) {R : List Nat} (e : L.drop i = 50 :: R) : Jvm.ClassFile.decode c P = .ok (.aaload, 1) := wt_o0 (n := 50) rfl rfl (wt_cs_at h hP e 0 50 rfl)
theorem wt_op51 (h : wt_cs c k (L :: r)) (i : Nat) (hP : k + i = P) {R : List Nat} (e : L.drop i = 51 :: R) : Jvm.ClassFile.decode c P = .ok (.baload, 1) := wt_o0 (n := 51) rfl rfl (wt_cs_at h hP e 0 51 rfl)
theorem wt_op59 (h : wt_cs c k (L :: r)) (i : Nat) (hP : k + i = P) {R : List Nat} (e : L.drop i = 59 :: R) : Jvm.ClassFile.decode c P = .ok (.istore_n 0, 1) := wt_o0 (n := 59) rfl rfl (wt_cs_at h hP e 0 59 rfl)
theorem wt_op60 (h : wt_cs c k (L :: r)) (i : Nat) (hP : k + i = P) {R : List Nat} (e : L.drop i = 60 :: R) : Jvm.ClassFile.decode c P = .ok (.istore_n 1, 1) := wt_o0 (n := 60) rfl rfl (wt_cs_at h hP e 0 60 rfl)
theorem wt_op61 (h : wt_cs c k (L :: r)) (i : Nat) (hP : k + i = P) {R : List Nat} (e : L.drop i = 61 :: R) : Jvm.ClassFile.decode c P = .ok (.istore_n 2, 1) := wt_o0 (n := 61) rfl rfl (wt_cs_at h hP e 0 61 rfl)
theorem wt_op62 (h : wt_cs c k (L :: r)) (i : Nat) (hP : k + i = P) {R : List Nat} (e : L.drop i = 62 :: R) : Jvm.ClassFile.decode c P = .ok (.istore_n 3, 1) := wt_o0 (n := 62) rfl rfl (wt_cs_at h hP e 0 62 rfl)
theorem wt_op75 (h : wt_cs c k (L :: r)) (i : Nat) (hP : k + i = P) {R : List Nat} (e : L.drop i = 75 :: R) : Jvm.ClassFile.decode c P = .ok (.astore_n 0, 1) := wt_o0 (n := 75) rfl rfl (wt_cs_at h hP e 0 75 rfl)
theorem wt_op76 (h : wt_cs c k (L :: r)) (i : Nat) (hP : k + i = P) {R : List Nat} (e : L.drop i = 76 :: R) : Jvm.ClassFile.decode c P = .ok (.astore_n 1, 1) := wt_o0 (n := 76) rfl rfl (wt_cs_at h hP e 0 76 rfl)
theorem wt_op77 (h : wt_cs c k (L :: r)) (i : Nat) (hP : k + i = P) {R : List Nat} (e : L.drop i = 77 :: R) : Jvm.ClassFile.decode c P = .ok (.astore_n 2, 1) := wt_o0 (n := 77) rfl rfl (wt_cs_at h hP e 0 77 rfl)
theorem wt_op78 (h : wt_cs c k (L :: r)) (i : Nat) (hP : k + i = P) {R : List Nat} (e : L.drop i = 78 :: R) : Jvm.ClassFile.decode c P = .ok (.astore_n 3, 1) := wt_o0 (n := 78) rfl rfl (wt_cs_at h hP e 0 78 rfl)
theorem wt_op79 (h : wt_cs c k (L :: r)) (i : Nat) (hP : k + i = P) {R : List Nat} (e : L.drop i = 79 :: R) : Jvm.ClassFile.decode c P = .ok (.iastore, 1) := wt_o0 (n := 79) rfl rfl (wt_cs_at h hP e 0 79 rfl)
theorem wt_op80 (h : wt_cs c k (L :: r)) (i : Nat) (hP : k + i = P) {R : List Nat} (e : L.drop i = 80 :: R) : Jvm.ClassFile.decode c P = .ok (.lastore, 1) := wt_o0 (n := 80) rfl rfl (wt_cs_at h hP e 0 80 rfl)
theorem wt_op83 (h : wt_cs c k (L :: r)) (i : Nat) (hP : k + i = P) {R : List Nat} (e : L.drop i = 83 :: R) : Jvm.ClassFile.decode c P = .ok (.aastore, 1) := wt_o0 (n := 83) rfl rfl (wt_cs_at h hP e 0 83 rfl)
theorem wt_op87 (h : wt_cs c k (L :: r)) (i : Nat) (hP : k + i = P) {R : List Nat} (e : L.drop i = 87 :: R) : Jvm.ClassFile.decode c P = .ok (.pop, 1) := wt_o0 (n := 87) rfl rfl (wt_cs_at h hP e 0 87 rfl)
theorem wt_op89 (h : wt_cs c k (L :: r)) (i : Nat) (hP : k + i = P) {R : List Nat} (e : L.drop i = 89 :: R) : Jvm.ClassFile.decode c P = .ok (.dup, 1) := wt_o0 (n := 89) rfl rfl (wt_cs_at h hP e 0 89 rfl)
theorem wt_op92 (h : wt_cs c k (L :: r)) (i : Nat) (hP : k + i = P) {R : List Nat} (e : L.drop i = 92 :: R) : Jvm.ClassFile.decode c P = .ok (.dup2, 1) := wt_o0 (n := 92) rfl rfl (wt_cs_at h hP e 0 92 rfl)
theorem wt_op96 (h : wt_cs c k (L :: r)) (i : Nat) (hP : k + i = P) {R : List Nat} (e : L.drop i = 96 :: R) : Jvm.ClassFile.decode c P = .ok (.iadd, 1) := wt_o0 (n := 96) rfl rfl (wt_cs_at h hP e 0 96 rfl)
theorem wt_op100 (h : wt_cs c k (L :: r)) (i : Nat) (hP : k + i = P) {R : List Nat} (e : L.drop i = 100 :: R) : Jvm.ClassFile.decode c P = .ok (.isub, 1) := wt_o0 (n := 100) rfl rfl (wt_cs_at h hP e 0 100 rfl)
theorem wt_op104 (h : wt_cs c k (L :: r)) (i : Nat) (hP : k + i = P) {R : List Nat} (e : L.drop i = 104 :: R) : Jvm.ClassFile.decode c P = .ok (.imul, 1) := wt_o0 (n := 104) rfl rfl (wt_cs_at h hP e 0 104 rfl)
theorem wt_op108 (h : wt_cs c k (L :: r)) (i : Nat) (hP : k + i = P) {R : List Nat} (e : L.drop i = 108 :: R) : Jvm.ClassFile.decode c P = .ok (.idiv, 1) := wt_o0 (n := 108) rfl rfl (wt_cs_at h hP e 0 108 rfl)
theorem wt_op112 (h : wt_cs c k (L :: r)) (i : Nat) (hP : k + i = P) {R : List Nat} (e : L.drop i = 112 :: R) : Jvm.ClassFile.decode c P = .ok (.irem, 1) := wt_o0 (n := 112) rfl rfl (wt_cs_at h hP e 0 112 rfl)
theorem wt_op120 (h : wt_cs c k (L :: r)) (i : Nat) (hP : k + i = P) {R : List Nat} (e : L.drop i = 120 :: R) : Jvm.ClassFile.decode c P = .ok (.ishl, 1) := wt_o0 (n := 120) rfl rfl (wt_cs_at h hP e 0 120 rfl)
theorem wt_op122 (h : wt_cs c k (L :: r)) (i : Nat) (hP : k + i = P) {R : List Nat} (e : L.drop i = 122 :: R) : Jvm.ClassFile.decode c P = .ok (.ishr, 1) := wt_o0 (n := 122) rfl rfl (wt_cs_at h hP e 0 122 rfl)
theorem wt_op124 (h : wt_cs c k (L :: r)) (i : Nat) (hP : k + i = P) {R : List Nat} (e : L.drop i = 124 :: R) : Jvm.ClassFile.decode c P = .ok (.iushr, 1) := wt_o0 (n := 124) rfl rfl (wt_cs_at h hP e 0 124 rfl)
theorem wt_op126 (h : wt_cs c k (L :: r)) (i : Nat) (hP : k + i = P) {R : List Nat} (e : L.drop i = 126 :: R) : Jvm.ClassFile.decode c P = .ok (.iand, 1) := wt_o0 (n := 126) rfl rfl (wt_cs_at h hP e 0 126 rfl)
theorem wt_op128 (h : wt_cs c k (L :: r)) (i : Nat) (hP : k + i = P) {R : List Nat} (e : L.drop i = 128 :: R) : Jvm.ClassFile.decode c P = .ok (.ior, 1) := wt_o0 (n := 128) rfl rfl (wt_cs_at h hP e 0 128 rfl)
theorem wt_op133 (h : wt_cs c k (L :: r)) (i : Nat) (hP : k + i = P) {R : List Nat} (e : L.drop i = 133 :: R) : Jvm.ClassFile.decode c P = .ok (.i2l, 1) := wt_o0 (n := 133) rfl rfl (wt_cs_at h hP e 0 133 rfl)
theorem wt_op146 (h : wt_cs c k (L :: r)) (i : Nat) (hP : k + i = P) {R : List Nat} (e : L.drop i = 146 :: R) : Jvm.ClassFile.decode c P = .ok (.i2c, 1) := wt_o0 (n := 146) rfl rfl (wt_cs_at h hP e 0 146 rfl)
theorem wt_op148 (h : wt_cs c k (L :: r)) (i : Nat) (hP : k + i = P) {R : List Nat} (e : L.drop i = 148 :: R) : Jvm.ClassFile.decode c P = .ok (.lcmp, 1) := wt_o0 (n := 148) rfl rfl (wt_cs_at h hP e 0 148 rfl)
theorem wt_op172 (h : wt_cs c k (L :: r)) (i : Nat) (hP : k + i = P) {R : List Nat} (e : L.drop i = 172 :: R) : Jvm.ClassFile.decode c P = .ok (.ireturn, 1) := wt_o0 (n := 172) rfl rfl (wt_cs_at h hP e 0 172 rfl)
theorem wt_op176 (h : wt_cs c k (L :: r)) (i : Nat) (hP : k + i = P) {R : List Nat} (e : L.drop i = 176 :: R) : Jvm.ClassFile.decode c P = .ok (.areturn, 1) := wt_o0 (n := 176) rfl rfl (wt_cs_at h hP e 0 176 rfl)
theorem wt_op177 (h : wt_cs c k (L :: r)) (i : Nat) (hP : k + i = P) {R : List Nat} (e : L.drop i = 177 :: R) : Jvm.ClassFile.decode c P = .ok (.return_, 1) := wt_o0 (n := 177) rfl rfl (wt_cs_at h hP e 0 177 rfl)
theorem wt_op190 (h : wt_cs c k (L :: r)) (i : Nat) (hP : k + i = P) {R : List Nat} (e : L.drop i = 190 :: R) : Jvm.ClassFile.decode c P = .ok (.arraylength, 1) := wt_o0 (n := 190) rfl rfl (wt_cs_at h hP e 0 190 rfl)
theorem wt_op191 (h : wt_cs c k (L :: r)) (i : Nat) (hP : k + i = P) {R : List Nat} (e : L.drop i = 191 :: R) : Jvm.ClassFile.decode c P = .ok (.athrow, 1) := wt_o0 (n := 191) rfl rfl (wt_cs_at h hP e 0 191 rfl)
theorem wt_op18 (h : wt_cs c k (L :: r)) (i : Nat) (hP : k + i = P) {x : Nat} {R : List Nat} (e : L.drop i = 18 :: x :: R) : Jvm.ClassFile.decode c P = .ok (.ldc x, 2) := wt_o1 (n := 18) (fun x => .ldc x) rfl rfl (wt_cs_at h hP e 0 18 rfl) (wt_cs_at h hP e 1 x rfl)
theorem wt_op21 (h : wt_cs c k (L :: r)) (i : Nat) (hP : k + i = P) {x : Nat} {R : List Nat} (e : L.drop i = 21 :: x :: R) : Jvm.ClassFile.decode c P = .ok (.iload x, 2) := wt_o1 (n := 21) (fun x => .iload x) rfl rfl (wt_cs_at h hP e 0 21 rfl) (wt_cs_at h hP e 1 x rfl)
theorem wt_op25 (h : wt_cs c k (L :: r)) (i : Nat) (hP : k + i = P) {x : Nat} {R : List Nat} (e : L.drop i = 25 :: x :: R) : Jvm.ClassFile.decode c P = .ok (.aload x, 2) := wt_o1 (n := 25) (fun x => .aload x) rfl rfl (wt_cs_at h hP e 0 25 rfl) (wt_cs_at h hP e 1 x rfl)
theorem wt_op54 (h : wt_cs c k (L :: r)) (i : Nat) (hP : k + i = P) {x : Nat} {R : List Nat} (e : L.drop i = 54 :: x :: R) : Jvm.ClassFile.decode c P = .ok (.istore x, 2) := wt_o1 (n := 54) (fun x => .istore x) rfl rfl (wt_cs_at h hP e 0 54 rfl) (wt_cs_at h hP e 1 x rfl)
theorem wt_op58 (h : wt_cs c k (L :: r)) (i : Nat) (hP : k + i = P) {x : Nat} {R : List Nat} (e : L.drop i = 58 :: x :: R) : Jvm.ClassFile.decode c P = .ok (.astore x, 2) := wt_o1 (n := 58) (fun x => .astore x) rfl rfl (wt_cs_at h hP e 0 58 rfl) (wt_cs_at h hP e 1 x rfl)
theorem wt_op16 (h : wt_cs c k (L :: r)) (i : Nat) (hP : k + i = P) {a : Nat} {R : List Nat} (e : L.drop i = 16 :: a :: R) {x : Int} (hx : Jvm.ClassFile.Reader.signed 8 a = x) : Jvm.ClassFile.decode c P = .ok (.bipush x, 2) := by
  rw [← hx]
  exact wt_o1s (n := 16) (fun x => .bipush x) rfl rfl (wt_cs_at h hP e 0 16 rfl) (wt_cs_at h hP e 1 a rfl)
theorem wt_op19 (h : wt_cs c k (L :: r)) (i : Nat) (hP : k + i = P) {a b : Nat} {R : List Nat} (e : L.drop i = 19 :: a :: b :: R) {x : Nat} (hx : a * 256 + b = x) : Jvm.ClassFile.decode c P = .ok (.ldc_w x, 3) := by
  rw [← hx]
  exact wt_o2 (n := 19) (fun x => .ldc_w x) rfl rfl (wt_cs_at h hP e 0 19 rfl) (wt_cs_at h hP e 1 a rfl) (wt_cs_at h hP e 2 b rfl)
theorem wt_op178 (h : wt_cs c k (L :: r)) (i : Nat) (hP : k + i = P) {a b : Nat} {R : List Nat} (e : L.drop i = 178 :: a :: b :: R) {x : Nat} (hx : a * 256 + b = x) : Jvm.ClassFile.decode c P = .ok (.getstatic x, 3) := by
  rw [← hx]
  exact wt_o2 (n := 178) (fun x => .getstatic x) rfl rfl (wt_cs_at h hP e 0 178 rfl) (wt_cs_at h hP e 1 a rfl) (wt_cs_at h hP e 2 b rfl)
theorem wt_op180 (h : wt_cs c k (L :: r)) (i : Nat) (hP : k + i = P) {a b : Nat} {R : List Nat} (e : L.drop i = 180 :: a :: b :: R) {x : Nat} (hx : a * 256 + b = x) : Jvm.ClassFile.decode c P = .ok (.getfield x, 3) := by
  rw [← hx]
  exact wt_o2 (n := 180) (fun x => .getfield x) rfl rfl (wt_cs_at h hP e 0 180 rfl) (wt_cs_at h hP e 1 a rfl) (wt_cs_at h hP e 2 b rfl)
theorem wt_op181 (h : wt_cs c k (L :: r)) (i : Nat) (hP : k + i = P) {a b : Nat} {R : List Nat} (e : L.drop i = 181 :: a :: b :: R) {x : Nat} (hx : a * 256 + b = x) : Jvm.ClassFile.decode c P = .ok (.putfield x, 3) := by
  rw [← hx]
  exact wt_o2 (n := 181) (fun x => .putfield x) rfl rfl (wt_cs_at h hP e 0 181 rfl) (wt_cs_at h hP e 1 a rfl) (wt_cs_at h hP e 2 b rfl)
theorem wt_op182 (h : wt_cs c k (L :: r)) (i : Nat) (hP : k + i = P) {a b : Nat} {R : List Nat} (e : L.drop i = 182 :: a :: b :: R) {x : Nat} (hx : a * 256 + b = x) : Jvm.ClassFile.decode c P = .ok (.invokevirtual x, 3) := by
  rw [← hx]
  exact wt_o2 (n := 182) (fun x => .invokevirtual x) rfl rfl (wt_cs_at h hP e 0 182 rfl) (wt_cs_at h hP e 1 a rfl) (wt_cs_at h hP e 2 b rfl)
theorem wt_op183 (h : wt_cs c k (L :: r)) (i : Nat) (hP : k + i = P) {a b : Nat} {R : List Nat} (e : L.drop i = 183 :: a :: b :: R) {x : Nat} (hx : a * 256 + b = x) : Jvm.ClassFile.decode c P = .ok (.invokespecial x, 3) := by
  rw [← hx]
  exact wt_o2 (n := 183) (fun x => .invokespecial x) rfl rfl (wt_cs_at h hP e 0 183 rfl) (wt_cs_at h hP e 1 a rfl) (wt_cs_at h hP e 2 b rfl)
theorem wt_op184 (h : wt_cs c k (L :: r)) (i : Nat) (hP : k + i = P) {a b : Nat} {R : List Nat} (e : L.drop i = 184 :: a :: b :: R) {x : Nat} (hx : a * 256 + b = x) : Jvm.ClassFile.decode c P = .ok (.invokestatic x, 3) := by
  rw [← hx]
  exact wt_o2 (n := 184) (fun x => .invokestatic x) rfl rfl (wt_cs_at h hP e 0 184 rfl) (wt_cs_at h hP e 1 a rfl) (wt_cs_at h hP e 2 b rfl)
theorem wt_op187 (h : wt_cs c k (L :: r)) (i : Nat) (hP : k + i = P) {a b : Nat} {R : List Nat} (e : L.drop i = 187 :: a :: b :: R) {x : Nat} (hx : a * 256 + b = x) : Jvm.ClassFile.decode c P = .ok (.new x, 3) := by
  rw [← hx]
  exact wt_o2 (n := 187) (fun x => .new x) rfl rfl (wt_cs_at h hP e 0 187 rfl) (wt_cs_at h hP e 1 a rfl) (wt_cs_at h hP e 2 b rfl)
theorem wt_op189 (h : wt_cs c k (L :: r)) (i : Nat) (hP : k + i = P) {a b : Nat} {R : List Nat} (e : L.drop i = 189 :: a :: b :: R) {x : Nat} (hx : a * 256 + b = x) : Jvm.ClassFile.decode c P = .ok (.anewarray x, 3) := by
  rw [← hx]
  exact wt_o2 (n := 189) (fun x => .anewarray x) rfl rfl (wt_cs_at h hP e 0 189 rfl) (wt_cs_at h hP e 1 a rfl) (wt_cs_at h hP e 2 b rfl)
theorem wt_op17 (h : wt_cs c k (L :: r)) (i : Nat) (hP : k + i = P) {a b : Nat} {R : List Nat} (e : L.drop i = 17 :: a :: b :: R) {x : Int} (hx : Jvm.ClassFile.Reader.signed 16 (a * 256 + b) = x) : Jvm.ClassFile.decode c P = .ok (.sipush x, 3) := by
  rw [← hx]
  exact wt_o2s (n := 17) (fun x => .sipush x) rfl rfl (wt_cs_at h hP e 0 17 rfl) (wt_cs_at h hP e 1 a rfl) (wt_cs_at h hP e 2 b rfl)
theorem wt_op167 (h : wt_cs c k (L :: r)) (i : Nat) (hP : k + i = P) {a b : Nat} {R : List Nat} (e : L.drop i = 167 :: a :: b :: R) {x : Int} (hx : Jvm.ClassFile.Reader.signed 16 (a * 256 + b) = x) : Jvm.ClassFile.decode c P = .ok (.goto x, 3) := by
  rw [← hx]
  exact wt_o2s (n := 167) (fun x => .goto x) rfl rfl (wt_cs_at h hP e 0 167 rfl) (wt_cs_at h hP e 1 a rfl) (wt_cs_at h hP e 2 b rfl)
theorem wt_op153 (h : wt_cs c k (L :: r)) (i : Nat) (hP : k + i = P) {a b : Nat} {R : List Nat} (e : L.drop i = 153 :: a :: b :: R) {x : Int} (hx : Jvm.ClassFile.Reader.signed 16 (a * 256 + b) = x) : Jvm.ClassFile.decode c P = .ok (.ifCond .eq x, 3) := by
  rw [← hx]
  exact wt_o2s (n := 153) (fun x => .ifCond .eq x) rfl rfl (wt_cs_at h hP e 0 153 rfl) (wt_cs_at h hP e 1 a rfl) (wt_cs_at h hP e 2 b rfl)
theorem wt_op159 (h : wt_cs c k (L :: r)) (i : Nat) (hP : k + i = P) {a b : Nat} {R : List Nat} (e : L.drop i = 159 :: a :: b :: R) {x : Int} (hx : Jvm.ClassFile.Reader.signed 16 (a * 256 + b) = x) : Jvm.ClassFile.decode c P = .ok (.if_icmp .eq x, 3) := by
  rw [← hx]
  exact wt_o2s (n := 159) (fun x => .if_icmp .eq x) rfl rfl (wt_cs_at h hP e 0 159 rfl) (wt_cs_at h hP e 1 a rfl) (wt_cs_at h hP e 2 b rfl)
theorem wt_op154 (h : wt_cs c k (L :: r)) (i : Nat) (hP : k + i = P) {a b : Nat} {R : List Nat} (e : L.drop i = 154 :: a :: b :: R) {x : Int} (hx : Jvm.ClassFile.Reader.signed 16 (a * 256 + b) = x) : Jvm.ClassFile.decode c P = .ok (.ifCond .ne x, 3) := by
  rw [← hx]
  exact wt_o2s (n := 154) (fun x => .ifCond .ne x) rfl rfl (wt_cs_at h hP e 0 154 rfl) (wt_cs_at h hP e 1 a rfl) (wt_cs_at h hP e 2 b rfl)
theorem wt_op160 (h : wt_cs c k (L :: r)) (i : Nat) (hP : k + i = P) {a b : Nat} {R : List Nat} (e : L.drop i = 160 :: a :: b :: R) {x : Int} (hx : Jvm.ClassFile.Reader.signed 16 (a * 256 + b) = x) : Jvm.ClassFile.decode c P = .ok (.if_icmp .ne x, 3) := by
  rw [← hx]
  exact wt_o2s (n := 160) (fun x => .if_icmp .ne x) rfl rfl (wt_cs_at h hP e 0 160 rfl) (wt_cs_at h hP e 1 a rfl) (wt_cs_at h hP e 2 b rfl)
theorem wt_op155 (h : wt_cs c k (L :: r)) (i : Nat) (hP : k + i = P) {a b : Nat} {R : List Nat} (e : L.drop i = 155 :: a :: b :: R) {x : Int} (hx : Jvm.ClassFile.Reader.signed 16 (a * 256 + b) = x) : Jvm.ClassFile.decode c P = .ok (.ifCond .lt x, 3) := by
  rw [← hx]
  exact wt_o2s (n := 155) (fun x => .ifCond .lt x) rfl rfl (wt_cs_at h hP e 0 155 rfl) (wt_cs_at h hP e 1 a rfl) (wt_cs_at h hP e 2 b rfl)
theorem wt_op161 (h : wt_cs c k (L :: r)) (i : Nat) (hP : k + i = P) {a b : Nat} {R : List Nat} (e : L.drop i = 161 :: a :: b :: R) {x : Int} (hx : Jvm.ClassFile.Reader.signed 16 (a * 256 + b) = x) : Jvm.ClassFile.decode c P = .ok (.if_icmp .lt x, 3) := by
  rw [← hx]
  exact wt_o2s (n := 161) (fun x => .if_icmp .lt x) rfl rfl (wt_cs_at h hP e 0 161 rfl) (wt_cs_at h hP e 1 a rfl) (wt_cs_at h hP e 2 b rfl)
theorem wt_op156 (h : wt_cs c k (L :: r)) (i : Nat) (hP : k + i = P) {a b : Nat} {R : List Nat} (e : L.drop i = 156 :: a :: b :: R) {x : Int} (hx : Jvm.ClassFile.Reader.signed 16 (a * 256 + b) = x) : Jvm.ClassFile.decode c P = .ok (.ifCond .ge x, 3) := by
  rw [← hx]
  exact wt_o2s (n := 156) (fun x => .ifCond .ge x) rfl rfl (wt_cs_at h hP e 0 156 rfl) (wt_cs_at h hP e 1 a rfl) (wt_cs_at h hP e 2 b rfl)
theorem wt_op162 (h : wt_cs c k (L :: r)) (i : Nat) (hP : k + i = P) {a b : Nat} {R : List Nat} (e : L.drop i = 162 :: a :: b :: R) {x : Int} (hx : Jvm.ClassFile.Reader.signed 16 (a * 256 + b) = x) : Jvm.ClassFile.decode c P = .ok (.if_icmp .ge x, 3) := by
  rw [← hx]
  exact wt_o2s (n := 162) (fun x => .if_icmp .ge x) rfl rfl (wt_cs_at h hP e 0 162 rfl) (wt_cs_at h hP e 1 a rfl) (wt_cs_at h hP e 2 b rfl)
theorem wt_op157 (h : wt_cs c k (L :: r)) (i : Nat) (hP : k + i = P) {a b : Nat} {R : List Nat} (e : L.drop i = 157 :: a :: b :: R) {x : Int} (hx : Jvm.ClassFile.Reader.signed 16 (a * 256 + b) = x) : Jvm.ClassFile.decode c P = .ok (.ifCond .gt x, 3) := by
  rw [← hx]
  exact wt_o2s (n := 157) (fun x => .ifCond .gt x) rfl rfl (wt_cs_at h hP e 0 157 rfl) (wt_cs_at h hP e 1 a rfl) (wt_cs_at h hP e 2 b rfl)
theorem wt_op163 (h : wt_cs c k (L :: r)) (i : Nat) (hP : k + i = P) {a b : Nat} {R : List Nat} (e : L.drop i = 163 :: a :: b :: R) {x : Int} (hx : Jvm.ClassFile.Reader.signed 16 (a * 256 + b) = x) : Jvm.ClassFile.decode c P = .ok (.if_icmp .gt x, 3) := by
  rw [← hx]
  exact wt_o2s (n := 163) (fun x => .if_icmp .gt x) rfl rfl (wt_cs_at h hP e 0 163 rfl) (wt_cs_at h hP e 1 a rfl) (wt_cs_at h hP e 2 b rfl)
theorem wt_op158 (h : wt_cs c k (L :: r)) (i : Nat) (hP : k + i = P) {a b : Nat} {R : List Nat} (e : L.drop i = 158 :: a :: b :: R) {x : Int} (hx : Jvm.ClassFile.Reader.signed 16 (a * 256 + b) = x) : Jvm.ClassFile.decode c P = .ok (.ifCond .le x, 3) := by
  rw [← hx]
  exact wt_o2s (n := 158) (fun x => .ifCond .le x) rfl rfl (wt_cs_at h hP e 0 158 rfl) (wt_cs_at h hP e 1 a rfl) (wt_cs_at h hP e 2 b rfl)
theorem wt_op164 (h : wt_cs c k (L :: r)) (i : Nat) (hP : k + i = P) {a b : Nat} {R : List Nat} (e : L.drop i = 164 :: a :: b :: R) {x : Int} (hx : Jvm.ClassFile.Reader.signed 16 (a * 256 + b) = x) : Jvm.ClassFile.decode c P = .ok (.if_icmp .le x, 3) := by
  rw [← hx]
  exact wt_o2s (n := 164) (fun x => .if_icmp .le x) rfl rfl (wt_cs_at h hP e 0 164 rfl) (wt_cs_at h hP e 1 a rfl) (wt_cs_at h hP e 2 b rfl)
theorem wt_op132 (h : wt_cs c k (L :: r)) (i : Nat) (hP : k + i = P) {a b : Nat} {R : List Nat} (e : L.drop i = 132 :: a :: b :: R) {x : Int} (hx : Jvm.ClassFile.Reader.signed 8 b = x) : Jvm.ClassFile.decode c P = .ok (.iinc a x, 3) := by
  rw [← hx]
  exact wt_o11 (n := 132) (fun x y => .iinc x y) rfl rfl (wt_cs_at h hP e 0 132 rfl) (wt_cs_at h hP e 1 a rfl) (wt_cs_at h hP e 2 b rfl)
theorem wt_op188 (h : wt_cs c k (L :: r)) (i : Nat) (hP : k + i = P) {R : List Nat} (e : L.drop i = 188 :: 10 :: R) : Jvm.ClassFile.decode c P = .ok (.newarray .int, 2) := wt_oN (n := 188) (a := 10) rfl rfl rfl (wt_cs_at h hP e 0 188 rfl) (wt_cs_at h hP e 1 10 rfl)
end WTDEC
