/-! what is decoded behind a place of a code is decoded so in the piece that begins there -/
section WTDEC
theorem wt_dm4 {k p : Nat} (h : k % 4 = 0) : (4 - (k + p) % 4) % 4 = (4 - p % 4) % 4 := by omega
/-- the second is a piece of the first, from a place on -/
def wt_ck (c c' : ByteArray) (k : Nat) : Prop := k % 4 = 0 ∧ k + c'.size ≤ c.size ∧ ∀ i (h : i < c'.size) (h' : k + i < c.size), c[k + i] = c'[i]
theorem wt_ck_of {c c' : ByteArray} {k : Nat} (n : Nat) (hk : k % 4 = 0) (h : (c.data.toList.drop k).take n = c'.data.toList) (h0 : 0 < c'.data.toList.length) : wt_ck c c' k := by
  have z : c'.size = c'.data.toList.length := rfl
  have z2 : c.size = c.data.toList.length := rfl
  have l : min n (c.data.toList.length - k) = c'.data.toList.length := by rw [← h, List.length_take, List.length_drop]
  refine ⟨hk, by omega, fun i h1 h2 => ?_⟩
  have e : c'.data.toList[i]? = c.data.toList[k + i]? := by
    rw [← h, List.getElem?_take_of_lt (by omega), List.getElem?_drop]
  have e1 : c'.data.toList[i]? = some c'[i] := List.getElem?_eq_getElem (l := c'.data.toList) (i := i) h1
  have e2 : c.data.toList[k + i]? = some c[k + i] := List.getElem?_eq_getElem (l := c.data.toList) (i := k + i) h2
  rw [e1, e2] at e
  exact (Option.some.inj e).symm
def wt_dS {α : Type} (c c' : ByteArray) (k : Nat) (d : Jvm.ClassFile.Decoder α) : Prop := ∀ (p : Nat) (a : α) (q : Nat), d c' p = .ok (a, q) → d c (k + p) = .ok (a, k + q)
variable {α β : Type} {c c' : ByteArray} {k : Nat}
theorem wt_dS_pure (a : α) : wt_dS c c' k (pure a) := by
  intro p b q h
  have h' : (.ok (a, p) : Except Jvm.ClassFile.DecodeError (α × Nat)) = .ok (b, q) := h
  cases h'
  rfl
theorem wt_dS_throw (e : Jvm.ClassFile.DecodeError) : wt_dS c c' k (throw e : Jvm.ClassFile.Decoder α) := by
  intro p b q h
  have h' : (.error e : Except Jvm.ClassFile.DecodeError (α × Nat)) = .ok (b, q) := h
  cases h'
theorem wt_dS_bind {d : Jvm.ClassFile.Decoder α} {f : α → Jvm.ClassFile.Decoder β} (hd : wt_dS c c' k d) (hf : ∀ a, wt_dS c c' k (f a)) : wt_dS c c' k (d >>= f) := by
  have e : ∀ (x : ByteArray) (p : Nat), (d >>= f) x p = Except.bind (d x p) (fun r => f r.1 x r.2) := fun x p => rfl
  intro p b q h
  rw [e] at h
  rw [e]
  cases hx : d c' p with
  | error z =>
    rw [hx] at h
    cases h
  | ok r =>
    obtain ⟨a, r⟩ := r
    rw [hx] at h
    rw [hd p a r hx]
    exact hf a r b q h
theorem wt_dS_map {d : Jvm.ClassFile.Decoder α} (g : α → β) (hd : wt_dS c c' k d) : wt_dS c c' k (g <$> d) := by
  have e : ∀ (x : ByteArray) (p : Nat), (g <$> d) x p = Except.bind (d x p) (fun r => .ok (g r.1, r.2)) := fun x p => rfl
  intro p b q h
  rw [e] at h
  rw [e]
  cases hx : d c' p with
  | error z =>
    rw [hx] at h
    cases h
  | ok r =>
    obtain ⟨a, r⟩ := r
    rw [hx] at h
    rw [hd p a r hx]
    have h' : (.ok (g a, r) : Except Jvm.ClassFile.DecodeError (β × Nat)) = .ok (b, q) := h
    cases h'
    rfl
theorem wt_dS_u1 (hc : wt_ck c c' k) : wt_dS c c' k (Jvm.ClassFile.Reader.u1 : Jvm.ClassFile.Decoder Nat) := by
  have e : ∀ (x : ByteArray) (p : Nat), (Jvm.ClassFile.Reader.u1 : Jvm.ClassFile.Decoder Nat) x p = (if h : p < x.size then (do set (p + 1); pure x[p].toNat : Jvm.ClassFile.Decoder Nat) else throw (Jvm.ClassFile.HasTruncated.truncated p)) x p := fun x p => rfl
  intro p b q h
  rw [e] at h
  rw [e]
  by_cases h1 : p < c'.size
  · rw [dif_pos h1] at h
    have h2 : k + p < c.size := by have := hc.2.1; omega
    rw [dif_pos h2]
    have h' : (.ok (c'[p].toNat, p + 1) : Except Jvm.ClassFile.DecodeError (Nat × Nat)) = .ok (b, q) := h
    cases h'
    show (.ok (c[k + p].toNat, k + p + 1) : Except Jvm.ClassFile.DecodeError (Nat × Nat)) = _
    rw [hc.2.2 p h1 h2]
    rfl
  · rw [dif_neg h1] at h
    have h' : (.error (Jvm.ClassFile.HasTruncated.truncated p) : Except Jvm.ClassFile.DecodeError (Nat × Nat)) = .ok (b, q) := h
    cases h'
theorem wt_dS_u2 (hc : wt_ck c c' k) : wt_dS c c' k (Jvm.ClassFile.Reader.u2 : Jvm.ClassFile.Decoder Nat) := by
  unfold Jvm.ClassFile.Reader.u2
  exact wt_dS_bind (wt_dS_u1 hc) (fun _ => wt_dS_bind (wt_dS_u1 hc) (fun _ => wt_dS_pure _))
theorem wt_dS_u4 (hc : wt_ck c c' k) : wt_dS c c' k (Jvm.ClassFile.Reader.u4 : Jvm.ClassFile.Decoder Nat) := by
  unfold Jvm.ClassFile.Reader.u4
  exact wt_dS_bind (wt_dS_u2 hc) (fun _ => wt_dS_bind (wt_dS_u2 hc) (fun _ => wt_dS_pure _))
theorem wt_dS_s1 (hc : wt_ck c c' k) : wt_dS c c' k (Jvm.ClassFile.Reader.s1 : Jvm.ClassFile.Decoder Int) := by
  unfold Jvm.ClassFile.Reader.s1
  exact wt_dS_map _ (wt_dS_u1 hc)
theorem wt_dS_s2 (hc : wt_ck c c' k) : wt_dS c c' k (Jvm.ClassFile.Reader.s2 : Jvm.ClassFile.Decoder Int) := by
  unfold Jvm.ClassFile.Reader.s2
  exact wt_dS_map _ (wt_dS_u2 hc)
theorem wt_dS_s4 (hc : wt_ck c c' k) : wt_dS c c' k (Jvm.ClassFile.Reader.s4 : Jvm.ClassFile.Decoder Int) := by
  unfold Jvm.ClassFile.Reader.s4
  exact wt_dS_map _ (wt_dS_u4 hc)
theorem wt_dS_padding (hc : wt_ck c c' k) : wt_dS c c' k Jvm.ClassFile.Decoder.padding := by
  have e : ∀ (x : ByteArray) (p : Nat), Jvm.ClassFile.Decoder.padding x p = (if p + (4 - p % 4) % 4 ≤ x.size then .ok ((), p + (4 - p % 4) % 4) else .error (Jvm.ClassFile.HasTruncated.truncated x.size)) := by
    intro x p
    have e1 : Jvm.ClassFile.Decoder.padding x p = Except.bind ((if p + (4 - p % 4) % 4 ≤ x.size then (do set (p + (4 - p % 4) % 4); pure (x.extract p (p + (4 - p % 4) % 4)) : Jvm.ClassFile.Decoder ByteArray) else throw (Jvm.ClassFile.HasTruncated.truncated x.size)) x p) (fun r => .ok ((), r.2)) := rfl
    rw [e1]
    by_cases h : p + (4 - p % 4) % 4 ≤ x.size
    · rw [if_pos h, if_pos h]
      rfl
    · rw [if_neg h, if_neg h]
      rfl
  intro p b q h
  rw [e] at h
  rw [e, wt_dm4 hc.1]
  by_cases h1 : p + (4 - p % 4) % 4 ≤ c'.size
  · rw [if_pos h1] at h
    rw [if_pos (by have := hc.2.1; omega)]
    cases h
    rw [Nat.add_assoc]
  · rw [if_neg h1] at h
    cases h
theorem wt_dS_times_go {d : Jvm.ClassFile.Decoder α} (hd : wt_dS c c' k d) : ∀ (n : Nat) (acc : Array α), wt_dS c c' k (Jvm.ClassFile.Reader.times.go d n acc)
  | 0, acc => wt_dS_pure acc
  | n + 1, acc => by
    unfold Jvm.ClassFile.Reader.times.go
    exact wt_dS_bind hd (fun a => wt_dS_times_go hd n _)
theorem wt_dS_times {d : Jvm.ClassFile.Decoder α} (hd : wt_dS c c' k d) (n : Nat) : wt_dS c c' k (Jvm.ClassFile.Reader.times n d) := wt_dS_times_go hd n #[]
theorem wt_dS_ts (hc : wt_ck c c' k) (P : Nat) : wt_dS c c' k (Jvm.ClassFile.Decoder.tableswitch P) := by
  unfold Jvm.ClassFile.Decoder.tableswitch
  refine wt_dS_bind (wt_dS_padding hc) (fun _ => wt_dS_bind (wt_dS_s4 hc) (fun _ => wt_dS_bind (wt_dS_s4 hc) (fun _ => wt_dS_bind (wt_dS_s4 hc) (fun _ => ?_))))
  repeat' first
    | with_reducible exact wt_dS_pure _
    | with_reducible exact wt_dS_throw _
    | with_reducible exact wt_dS_times (wt_dS_s4 hc) _
    | with_reducible refine wt_dS_bind ?_ (fun _ => ?_)
    | split
theorem wt_dS_ls (hc : wt_ck c c' k) (P : Nat) : wt_dS c c' k (Jvm.ClassFile.Decoder.lookupswitch P) := by
  unfold Jvm.ClassFile.Decoder.lookupswitch
  refine wt_dS_bind (wt_dS_padding hc) (fun _ => wt_dS_bind (wt_dS_s4 hc) (fun _ => wt_dS_bind (wt_dS_s4 hc) (fun _ => ?_)))
  have two : wt_dS c c' k (do pure (← Jvm.ClassFile.Reader.s4, ← Jvm.ClassFile.Reader.s4) : Jvm.ClassFile.Decoder (Int × Int)) := wt_dS_bind (wt_dS_s4 hc) (fun _ => wt_dS_bind (wt_dS_s4 hc) (fun _ => wt_dS_pure _))
  repeat' first
    | with_reducible exact wt_dS_pure _
    | with_reducible exact wt_dS_throw _
    | with_reducible exact wt_dS_times two _
    | with_reducible refine wt_dS_bind ?_ (fun _ => ?_)
    | split
theorem wt_dS_more (hc : wt_ck c c' k) (P : Nat) : wt_dS c c' k (Jvm.ClassFile.Decoder.invokeinterface P) ∧ wt_dS c c' k (Jvm.ClassFile.Decoder.invokedynamic P) ∧ wt_dS c c' k (Jvm.ClassFile.Decoder.newarray P) ∧ wt_dS c c' k (Jvm.ClassFile.Decoder.multianewarray P) ∧ wt_dS c c' k (Jvm.ClassFile.Decoder.wide P) := by
  unfold Jvm.ClassFile.Decoder.invokeinterface Jvm.ClassFile.Decoder.invokedynamic Jvm.ClassFile.Decoder.newarray Jvm.ClassFile.Decoder.multianewarray Jvm.ClassFile.Decoder.wide
  refine ⟨?_, ?_, ?_, ?_, ?_⟩
  all_goals repeat' first
    | with_reducible exact wt_dS_pure _
    | with_reducible exact wt_dS_throw _
    | with_reducible exact wt_dS_u1 hc
    | with_reducible exact wt_dS_u2 hc
    | with_reducible exact wt_dS_s2 hc
    | with_reducible refine wt_dS_bind ?_ (fun _ => ?_)
    | split
set_option maxRecDepth 100000 in
set_option maxHeartbeats 4000000 in
theorem wt_dS_instr (hc : wt_ck c c' k) (P : Nat) : wt_dS c c' k (Jvm.ClassFile.Decoder.instr P) := by
  obtain ⟨m1, m2, m3, m4, m5⟩ := wt_dS_more hc P
  unfold Jvm.ClassFile.Decoder.instr
  refine wt_dS_bind (wt_dS_u1 hc) (fun n => ?_)
  split
  all_goals first
    | with_reducible exact wt_dS_pure _
    | with_reducible exact wt_dS_throw _
    | with_reducible exact wt_dS_bind (wt_dS_u1 hc) (fun _ => wt_dS_pure _)
    | with_reducible exact wt_dS_bind (wt_dS_u2 hc) (fun _ => wt_dS_pure _)
    | with_reducible exact wt_dS_bind (wt_dS_s1 hc) (fun _ => wt_dS_pure _)
    | with_reducible exact wt_dS_bind (wt_dS_s2 hc) (fun _ => wt_dS_pure _)
    | with_reducible exact wt_dS_bind (wt_dS_s4 hc) (fun _ => wt_dS_pure _)
    | with_reducible exact wt_dS_bind (wt_dS_u1 hc) (fun _ => wt_dS_bind (wt_dS_s1 hc) (fun _ => wt_dS_pure _))
    | exact m1
    | exact m2
    | exact m3
    | exact m4
    | exact m5
    | exact wt_dS_ts hc P
    | exact wt_dS_ls hc P
/-- what stands at a place of a code, read in the piece that begins at the next before it -/
theorem wt_dc (hc : wt_ck c c' k) (p P : Nat) {i : Jvm.ClassFile.Instr} {l : Nat} (hP : k + p = P) (h : Jvm.ClassFile.Decoder.instr P c' p = .ok (i, p + l)) : Jvm.ClassFile.decode c P = .ok (i, l) := by
  have e : Jvm.ClassFile.decode c P = Except.bind (Jvm.ClassFile.Decoder.instr P c P) (fun r => .ok (r.1, r.2 - P)) := rfl
  have h2 := wt_dS_instr hc P p i (p + l) h
  rw [hP] at h2
  rw [e, h2]
  show (.ok (i, k + (p + l) - P) : Except Jvm.ClassFile.DecodeError (Jvm.ClassFile.Instr × Nat)) = _
  rw [show k + (p + l) - P = l by omega]
end WTDEC
