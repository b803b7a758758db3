theorem wt_ldcS {X : wt_X} {cc : ByteArray} {nL : Nat} {own : String} {d Km K : Nat} {σ : wt_St} {pc : Nat} {lv : List (Option Value)} {st : List Value} (h : wt_Ok X cc nL own d Km) {tx : String} {index q : Nat} (hZ : vk_R own index tx q (wt_xs X)) (hd : decode cc pc = .ok (.ldc index, 2)) (k : wt_V X K σ (pc + 2) lv (.ref q :: st)) : wt_V X K σ pc lv st :=
  fun H locs ls ce sl h1 h2 hw hS hl => va_ldcS h.1 h.2.1 h.2.2.2.2.1 hZ hd (k H locs ls ce sl h1 h2 hw hS hl)
theorem wt_ltN {i : Int32} {N : Nat} (h : ¬ (i < 0 ∨ N ≤ i.toNatClampNeg)) (hN : N < 1000) : i < nI N := by
  have h0 : ¬ i < 0 := fun z => h (Or.inl z)
  obtain ⟨j, hj, rfl⟩ := nI_of h0
  have h1 := wt_lt h
  rw [nI_clamp hj] at h1
  exact nI_lt h1 (by omega)
