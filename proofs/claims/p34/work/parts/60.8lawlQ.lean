-- 60.8lawl.lean.txt
section WTQ0
def R_law : String := "WornTypeLaw"
def lw_P (b : Addr) (xs : List Int32) (args : Array Value) (s : State) : Prop := args = #[.ref b] ∧ s.IntsAt b xs ∧ xs.length ≤ 3072 ∧ (Jvm.Cond.and given_1 narrow_1).before args s = true
def lw_Q (_ : Array Value) (s : State) (o : Outcome) (t : State) : Prop := o = .returned (some (.int 1)) ∧ Framed s o t [] 601024 7293034
def lw_Z (below : List Frame) (a : Array Value) (s : State) : State → Prop := fun t => ∃ o, t.status = .running ∧ Ended t below o ∧ lw_Q a s o t
/-- the law's own end, with 1 on the stack, nothing written that was there before, its room as the claim has it -/
theorem lw_ret {p : Program} {l : Launch} {e : Env} {s : State} {m : MethodId} {below : List Frame} {meth : Method} {c : Code} {b : Nat} (hx : p.tables.exec = Jvm.exec) (hb : c.code = code) (hr : meth.sig.returnType = ret) (hlocks : meth.locks = false) {pc : Nat} {H : Heap} {ls : Array Slot} (hdg : decode code pc = .ok (.ireturn, 1)) : W p l e room_1 s m #[Value.ref b] below meth c H [] 601024 7293034 (lw_Z below #[Value.ref b] s) (F0 m pc ls [.int 1]) := by
  intro T hT X
  obtain ⟨fs, hret, hrun, hended, hW, hframe⟩ := X.leave (v := some (.int 1)) (hlocks := hlocks) (fun h => by rw [hr] at h; cases h)
  have hmeth' : T.vm.method? m = some meth := X.method'
  refine ⟨T.setFrames fs, ?_, .returned (some (.int 1)), hrun, hended, rfl, ⟨_, rfl⟩, hW, hframe⟩
  jvm_step X.here [X.here.top, hx, hb, hdg, hmeth', hr, ret, narrow_b1]
  (try refine ⟨rfl, ?_⟩); (try refine ⟨rfl, ?_⟩)
  first | (intro acts; rw [hret _ acts rfl rfl rfl]) | rw [hret _ _ rfl rfl rfl]
  exact Steps.refl _
/-- what holds at the law's entry: the machine, the code, the tables' words (any of lw_tbl by 'hts w (by decide +kernel)'), the script of L ints xs at the cell b, what the Statement gives of the start (any of its parts by flat_of_before) -/
def lw_At (p : Program) (s : State) (m : MethodId) (meth : Method) (c : Code) (b L : Nat) (xs : Nat → Int32) : Prop :=
  p.tables.exec = Jvm.exec ∧ c.code = code ∧ meth.sig.returnType = ret ∧ c.maxLocals = 7 ∧ s.vm.findClass R_law = some m.cls ∧ (∀ w ∈ lw_tbl, w.before #[Value.ref b] s = true) ∧ va_X b L xs s s.heap ∧ b < s.heap.size ∧ meth.locks = false ∧ (Jvm.Cond.and given_1 narrow_1).before #[Value.ref b] s = true
def wb608lawl_code_r47 : List (List Nat) := [4, 172] :: []
def wb608lawl_code_r46 : List (List Nat) := [21, 4, 4, 96, 46, 182, 0, 232, 87, 44, 42, 21, 4, 4, 96, 46, 182, 0, 235, 87, 167, 0, 3, 132, 4, 6, 167, 250, 101] :: wb608lawl_code_r47
def wb608lawl_code_r45 : List (List Nat) := [43, 182, 0, 224, 87, 44, 182, 0, 227, 87, 167, 0, 41, 43, 182, 0, 228, 87, 44, 182, 0, 231, 87, 167, 0, 28, 43, 42] :: wb608lawl_code_r46
def wb608lawl_code_r44 : List (List Nat) := [221, 21, 5, 159, 0, 5, 3, 172, 21, 5, 154, 0, 15, 45, 3, 47, 21, 6, 133, 148, 153, 0, 5, 3, 172, 167, 0, 54] :: wb608lawl_code_r45
def wb608lawl_code_r43 : List (List Nat) := [43, 42, 21, 4, 4, 96, 46, 45, 184, 0, 218, 54, 5, 44, 42, 21, 4, 4, 96, 46, 182, 0, 220, 54, 6, 44, 182, 0] :: wb608lawl_code_r44
def wb608lawl_code_r42 : List (List Nat) := [46, 45, 184, 0, 215, 54, 5, 44, 42, 21, 4, 4, 96, 46, 42, 21, 4, 5, 96, 46, 182, 0, 217, 54, 6, 167, 0, 110] :: wb608lawl_code_r43
def wb608lawl_code_r41 : List (List Nat) := [5, 44, 42, 21, 4, 4, 96, 46, 182, 0, 214, 54, 6, 167, 0, 150, 43, 42, 21, 4, 4, 96, 46, 42, 21, 4, 5, 96] :: wb608lawl_code_r42
def wb608lawl_code_r40 : List (List Nat) := [5, 44, 42, 21, 4, 4, 96, 46, 182, 0, 211, 54, 6, 167, 0, 178, 43, 42, 21, 4, 4, 96, 46, 45, 184, 0, 212, 54] :: wb608lawl_code_r41
def wb608lawl_code_r39 : List (List Nat) := [5, 44, 42, 21, 4, 4, 96, 46, 182, 0, 208, 54, 6, 167, 0, 206, 43, 42, 21, 4, 4, 96, 46, 45, 184, 0, 209, 54] :: wb608lawl_code_r40
def wb608lawl_code_r38 : List (List Nat) := [96, 46, 42, 21, 4, 5, 96, 46, 182, 0, 205, 54, 6, 167, 0, 234, 43, 42, 21, 4, 4, 96, 46, 45, 184, 0, 206, 54] :: wb608lawl_code_r39
def wb608lawl_code_r37 : List (List Nat) := [87, 167, 1, 18, 43, 42, 21, 4, 4, 96, 46, 42, 21, 4, 5, 96, 46, 45, 184, 0, 203, 54, 5, 44, 42, 21, 4, 4] :: wb608lawl_code_r38
def wb608lawl_code_r36 : List (List Nat) := [0, 196, 54, 5, 44, 42, 21, 4, 4, 96, 46, 182, 0, 198, 54, 6, 167, 1, 31, 43, 182, 0, 199, 87, 44, 182, 0, 202] :: wb608lawl_code_r37
def wb608lawl_code_r35 : List (List Nat) := [0, 193, 54, 5, 44, 42, 21, 4, 4, 96, 46, 182, 0, 195, 54, 6, 167, 1, 59, 43, 42, 21, 4, 4, 96, 46, 45, 184] :: wb608lawl_code_r36
def wb608lawl_code_r34 : List (List Nat) := [188, 54, 6, 167, 1, 100, 43, 182, 0, 189, 87, 44, 182, 0, 192, 87, 167, 1, 87, 43, 42, 21, 4, 4, 96, 46, 45, 184] :: wb608lawl_code_r35
def wb608lawl_code_r33 : List (List Nat) := [5, 44, 42, 21, 4, 4, 96, 46, 42, 21, 4, 5, 96, 46, 42, 21, 4, 6, 96, 46, 42, 21, 4, 7, 96, 46, 182, 0] :: wb608lawl_code_r34
def wb608lawl_code_r32 : List (List Nat) := [21, 4, 4, 96, 46, 42, 21, 4, 5, 96, 46, 42, 21, 4, 6, 96, 46, 42, 21, 4, 7, 96, 46, 45, 184, 0, 186, 54] :: wb608lawl_code_r33
def wb608lawl_code_r31 : List (List Nat) := [21, 4, 4, 96, 46, 45, 184, 0, 183, 54, 5, 44, 42, 21, 4, 4, 96, 46, 182, 0, 185, 54, 6, 167, 1, 164, 43, 42] :: wb608lawl_code_r32
def wb608lawl_code_r30 : List (List Nat) := [42, 21, 4, 5, 96, 46, 42, 21, 4, 6, 96, 46, 42, 21, 4, 7, 96, 46, 182, 0, 182, 54, 6, 167, 1, 192, 43, 42] :: wb608lawl_code_r31
def wb608lawl_code_r29 : List (List Nat) := [5, 96, 46, 42, 21, 4, 6, 96, 46, 42, 21, 4, 7, 96, 46, 45, 184, 0, 179, 54, 5, 44, 42, 21, 4, 4, 96, 46] :: wb608lawl_code_r30
def wb608lawl_code_r28 : List (List Nat) := [4, 5, 96, 46, 42, 21, 4, 6, 96, 46, 182, 0, 178, 54, 6, 167, 2, 0, 43, 42, 21, 4, 4, 96, 46, 42, 21, 4] :: wb608lawl_code_r29
def wb608lawl_code_r27 : List (List Nat) := [46, 42, 21, 4, 5, 96, 46, 42, 21, 4, 6, 96, 46, 45, 184, 0, 176, 54, 5, 44, 42, 21, 4, 4, 96, 46, 42, 21] :: wb608lawl_code_r28
def wb608lawl_code_r26 : List (List Nat) := [5, 44, 42, 21, 4, 4, 96, 46, 42, 21, 4, 5, 96, 46, 182, 0, 175, 54, 6, 167, 2, 52, 43, 42, 21, 4, 4, 96] :: wb608lawl_code_r27
def wb608lawl_code_r25 : List (List Nat) := [96, 46, 182, 0, 172, 54, 6, 167, 2, 92, 43, 42, 21, 4, 4, 96, 46, 42, 21, 4, 5, 96, 46, 45, 184, 0, 173, 54] :: wb608lawl_code_r26
def wb608lawl_code_r24 : List (List Nat) := [21, 4, 4, 96, 46, 42, 21, 4, 5, 96, 46, 45, 184, 0, 170, 54, 5, 44, 42, 21, 4, 4, 96, 46, 42, 21, 4, 5] :: wb608lawl_code_r25
def wb608lawl_code_r23 : List (List Nat) := [21, 4, 4, 96, 46, 45, 184, 0, 167, 54, 5, 44, 42, 21, 4, 4, 96, 46, 182, 0, 169, 54, 6, 167, 2, 132, 43, 42] :: wb608lawl_code_r24
def wb608lawl_code_r22 : List (List Nat) := [184, 0, 164, 54, 5, 44, 42, 21, 4, 4, 96, 46, 42, 21, 4, 5, 96, 46, 182, 0, 166, 54, 6, 167, 2, 160, 43, 42] :: wb608lawl_code_r23
def wb608lawl_code_r21 : List (List Nat) := [42, 21, 4, 5, 96, 46, 182, 0, 163, 54, 6, 167, 2, 200, 43, 42, 21, 4, 4, 96, 46, 42, 21, 4, 5, 96, 46, 45] :: wb608lawl_code_r22
def wb608lawl_code_r20 : List (List Nat) := [2, 240, 43, 42, 21, 4, 4, 96, 46, 42, 21, 4, 5, 96, 46, 45, 184, 0, 161, 54, 5, 44, 42, 21, 4, 4, 96, 46] :: wb608lawl_code_r21
def wb608lawl_code_r19 : List (List Nat) := [5, 96, 46, 45, 184, 0, 158, 54, 5, 44, 42, 21, 4, 4, 96, 46, 42, 21, 4, 5, 96, 46, 182, 0, 160, 54, 6, 167] :: wb608lawl_code_r20
def wb608lawl_code_r18 : List (List Nat) := [155, 54, 5, 44, 42, 21, 4, 4, 96, 46, 182, 0, 157, 54, 6, 167, 3, 24, 43, 42, 21, 4, 4, 96, 46, 42, 21, 4] :: wb608lawl_code_r19
def wb608lawl_code_r17 : List (List Nat) := [152, 54, 5, 44, 42, 21, 4, 4, 96, 46, 182, 0, 154, 54, 6, 167, 3, 52, 43, 42, 21, 4, 4, 96, 46, 45, 184, 0] :: wb608lawl_code_r18
def wb608lawl_code_r16 : List (List Nat) := [4, 4, 96, 46, 42, 21, 4, 5, 96, 46, 182, 0, 151, 54, 6, 167, 3, 80, 43, 42, 21, 4, 4, 96, 46, 45, 184, 0] :: wb608lawl_code_r17
def wb608lawl_code_r15 : List (List Nat) := [148, 54, 6, 167, 3, 120, 43, 42, 21, 4, 4, 96, 46, 42, 21, 4, 5, 96, 46, 45, 184, 0, 149, 54, 5, 44, 42, 21] :: wb608lawl_code_r16
def wb608lawl_code_r14 : List (List Nat) := [46, 42, 21, 4, 5, 96, 46, 45, 184, 0, 146, 54, 5, 44, 42, 21, 4, 4, 96, 46, 42, 21, 4, 5, 96, 46, 182, 0] :: wb608lawl_code_r15
def wb608lawl_code_r13 : List (List Nat) := [5, 44, 42, 21, 4, 4, 96, 46, 42, 21, 4, 5, 96, 46, 182, 0, 145, 54, 6, 167, 3, 160, 43, 42, 21, 4, 4, 96] :: wb608lawl_code_r14
def wb608lawl_code_r12 : List (List Nat) := [96, 46, 182, 0, 142, 54, 6, 167, 3, 200, 43, 42, 21, 4, 4, 96, 46, 42, 21, 4, 5, 96, 46, 45, 184, 0, 143, 54] :: wb608lawl_code_r13
def wb608lawl_code_r11 : List (List Nat) := [21, 4, 6, 96, 46, 45, 184, 0, 139, 54, 5, 44, 42, 21, 4, 4, 96, 46, 42, 21, 4, 5, 96, 46, 42, 21, 4, 6] :: wb608lawl_code_r12
def wb608lawl_code_r10 : List (List Nat) := [42, 21, 4, 5, 96, 46, 182, 0, 138, 54, 6, 167, 3, 252, 43, 42, 21, 4, 4, 96, 46, 42, 21, 4, 5, 96, 46, 42] :: wb608lawl_code_r11
def wb608lawl_code_r9 : List (List Nat) := [4, 36, 43, 42, 21, 4, 4, 96, 46, 42, 21, 4, 5, 96, 46, 45, 184, 0, 135, 54, 5, 44, 42, 21, 4, 4, 96, 46] :: wb608lawl_code_r10
def wb608lawl_code_r8 : List (List Nat) := [4, 64, 43, 42, 21, 4, 4, 96, 46, 45, 184, 0, 132, 54, 5, 44, 42, 21, 4, 4, 96, 46, 182, 0, 134, 54, 6, 167] :: wb608lawl_code_r9
def wb608lawl_code_r7 : List (List Nat) := [54, 5, 44, 42, 21, 4, 4, 96, 46, 182, 0, 126, 54, 6, 167, 4, 77, 43, 182, 0, 127, 87, 44, 182, 0, 131, 87, 167] :: wb608lawl_code_r8
def wb608lawl_code_r6 : List (List Nat) := [54, 5, 44, 42, 21, 4, 4, 96, 46, 182, 0, 123, 54, 6, 167, 4, 105, 43, 42, 21, 4, 4, 96, 46, 45, 184, 0, 124] :: wb608lawl_code_r7
def wb608lawl_code_r5 : List (List Nat) := [54, 5, 44, 42, 21, 4, 4, 96, 46, 182, 0, 120, 54, 6, 167, 4, 133, 43, 42, 21, 4, 4, 96, 46, 45, 184, 0, 121] :: wb608lawl_code_r6
def wb608lawl_code_r4 : List (List Nat) := [4, 7, 96, 46, 42, 21, 4, 8, 96, 46, 182, 0, 114, 87, 167, 4, 161, 43, 42, 21, 4, 4, 96, 46, 45, 184, 0, 115] :: wb608lawl_code_r5
def wb608lawl_code_r3 : List (List Nat) := [8, 96, 46, 182, 0, 110, 87, 44, 42, 21, 4, 4, 96, 46, 42, 21, 4, 5, 96, 46, 42, 21, 4, 6, 96, 46, 42, 21] :: wb608lawl_code_r4
def wb608lawl_code_r2 : List (List Nat) := [43, 42, 21, 4, 4, 96, 46, 42, 21, 4, 5, 96, 46, 42, 21, 4, 6, 96, 46, 42, 21, 4, 7, 96, 46, 42, 21, 4] :: wb608lawl_code_r3
def wb608lawl_code_r1 : List (List Nat) := [100, 163, 5, 151, 42, 21, 4, 46, 16, 63, 126, 170, 0, 0, 0, 0, 0, 5, 135, 0, 0, 0, 0, 0, 0, 0, 35, 0, 0, 0, 160, 0, 0, 0, 233, 0, 0, 1, 5, 0, 0, 1, 33, 0, 0, 1, 61, 0, 0, 1, 74, 0, 0, 1, 102, 0, 0, 1, 142, 0, 0, 1, 194, 0, 0, 1, 234, 0, 0, 2, 18, 0, 0, 2, 58, 0, 0, 2, 86, 0, 0, 2, 114, 0, 0, 2, 154, 0, 0, 2, 194, 0, 0, 2, 234, 0, 0, 3, 6, 0, 0, 3, 46, 0, 0, 3, 86, 0, 0, 3, 138, 0, 0, 3, 202, 0, 0, 3, 230, 0, 0, 4, 38, 0, 0, 4, 51, 0, 0, 4, 79, 0, 0, 4, 107, 0, 0, 4, 120, 0, 0, 4, 160, 0, 0, 4, 188, 0, 0, 4, 216, 0, 0, 4, 244, 0, 0, 5, 28, 0, 0, 5, 84, 0, 0, 5, 97, 0, 0, 5, 110] :: wb608lawl_code_r2
def wb608lawl_code_r0 : List (List Nat) := [187, 0, 8, 89, 183, 0, 106, 76, 187, 0, 107, 89, 183, 0, 109, 77, 4, 188, 11, 78, 3, 54, 4, 21, 4, 42, 190, 16, 6] :: wb608lawl_code_r1
set_option maxRecDepth 100000 in
theorem wb608lawl_code_c0 : wt_cs code 0 wb608lawl_code_r0 := wt_cs_of (by decide +kernel)
theorem wb608lawl_code_c1 : wt_cs code 29 wb608lawl_code_r1 := wt_cs_tl (m := 29) wb608lawl_code_c0 rfl rfl
theorem wb608lawl_code_c2 : wt_cs code 200 wb608lawl_code_r2 := wt_cs_tl (m := 171) wb608lawl_code_c1 rfl rfl
theorem wb608lawl_code_c3 : wt_cs code 228 wb608lawl_code_r3 := wt_cs_tl (m := 28) wb608lawl_code_c2 rfl rfl
theorem wb608lawl_code_c4 : wt_cs code 256 wb608lawl_code_r4 := wt_cs_tl (m := 28) wb608lawl_code_c3 rfl rfl
theorem wb608lawl_code_c5 : wt_cs code 284 wb608lawl_code_r5 := wt_cs_tl (m := 28) wb608lawl_code_c4 rfl rfl
theorem wb608lawl_code_c6 : wt_cs code 312 wb608lawl_code_r6 := wt_cs_tl (m := 28) wb608lawl_code_c5 rfl rfl
theorem wb608lawl_code_c7 : wt_cs code 340 wb608lawl_code_r7 := wt_cs_tl (m := 28) wb608lawl_code_c6 rfl rfl
theorem wb608lawl_code_c8 : wt_cs code 368 wb608lawl_code_r8 := wt_cs_tl (m := 28) wb608lawl_code_c7 rfl rfl
theorem wb608lawl_code_c9 : wt_cs code 396 wb608lawl_code_r9 := wt_cs_tl (m := 28) wb608lawl_code_c8 rfl rfl
theorem wb608lawl_code_c10 : wt_cs code 424 wb608lawl_code_r10 := wt_cs_tl (m := 28) wb608lawl_code_c9 rfl rfl
theorem wb608lawl_code_c11 : wt_cs code 452 wb608lawl_code_r11 := wt_cs_tl (m := 28) wb608lawl_code_c10 rfl rfl
theorem wb608lawl_code_c12 : wt_cs code 480 wb608lawl_code_r12 := wt_cs_tl (m := 28) wb608lawl_code_c11 rfl rfl
theorem wb608lawl_code_c13 : wt_cs code 508 wb608lawl_code_r13 := wt_cs_tl (m := 28) wb608lawl_code_c12 rfl rfl
theorem wb608lawl_code_c14 : wt_cs code 536 wb608lawl_code_r14 := wt_cs_tl (m := 28) wb608lawl_code_c13 rfl rfl
theorem wb608lawl_code_c15 : wt_cs code 564 wb608lawl_code_r15 := wt_cs_tl (m := 28) wb608lawl_code_c14 rfl rfl
theorem wb608lawl_code_c16 : wt_cs code 592 wb608lawl_code_r16 := wt_cs_tl (m := 28) wb608lawl_code_c15 rfl rfl
theorem wb608lawl_code_c17 : wt_cs code 620 wb608lawl_code_r17 := wt_cs_tl (m := 28) wb608lawl_code_c16 rfl rfl
theorem wb608lawl_code_c18 : wt_cs code 648 wb608lawl_code_r18 := wt_cs_tl (m := 28) wb608lawl_code_c17 rfl rfl
theorem wb608lawl_code_c19 : wt_cs code 676 wb608lawl_code_r19 := wt_cs_tl (m := 28) wb608lawl_code_c18 rfl rfl
theorem wb608lawl_code_c20 : wt_cs code 704 wb608lawl_code_r20 := wt_cs_tl (m := 28) wb608lawl_code_c19 rfl rfl
theorem wb608lawl_code_c21 : wt_cs code 732 wb608lawl_code_r21 := wt_cs_tl (m := 28) wb608lawl_code_c20 rfl rfl
theorem wb608lawl_code_c22 : wt_cs code 760 wb608lawl_code_r22 := wt_cs_tl (m := 28) wb608lawl_code_c21 rfl rfl
theorem wb608lawl_code_c23 : wt_cs code 788 wb608lawl_code_r23 := wt_cs_tl (m := 28) wb608lawl_code_c22 rfl rfl
theorem wb608lawl_code_c24 : wt_cs code 816 wb608lawl_code_r24 := wt_cs_tl (m := 28) wb608lawl_code_c23 rfl rfl
theorem wb608lawl_code_c25 : wt_cs code 844 wb608lawl_code_r25 := wt_cs_tl (m := 28) wb608lawl_code_c24 rfl rfl
theorem wb608lawl_code_c26 : wt_cs code 872 wb608lawl_code_r26 := wt_cs_tl (m := 28) wb608lawl_code_c25 rfl rfl
theorem wb608lawl_code_c27 : wt_cs code 900 wb608lawl_code_r27 := wt_cs_tl (m := 28) wb608lawl_code_c26 rfl rfl
theorem wb608lawl_code_c28 : wt_cs code 928 wb608lawl_code_r28 := wt_cs_tl (m := 28) wb608lawl_code_c27 rfl rfl
theorem wb608lawl_code_c29 : wt_cs code 956 wb608lawl_code_r29 := wt_cs_tl (m := 28) wb608lawl_code_c28 rfl rfl
theorem wb608lawl_code_c30 : wt_cs code 984 wb608lawl_code_r30 := wt_cs_tl (m := 28) wb608lawl_code_c29 rfl rfl
theorem wb608lawl_code_c31 : wt_cs code 1012 wb608lawl_code_r31 := wt_cs_tl (m := 28) wb608lawl_code_c30 rfl rfl
theorem wb608lawl_code_c32 : wt_cs code 1040 wb608lawl_code_r32 := wt_cs_tl (m := 28) wb608lawl_code_c31 rfl rfl
theorem wb608lawl_code_c33 : wt_cs code 1068 wb608lawl_code_r33 := wt_cs_tl (m := 28) wb608lawl_code_c32 rfl rfl
theorem wb608lawl_code_c34 : wt_cs code 1096 wb608lawl_code_r34 := wt_cs_tl (m := 28) wb608lawl_code_c33 rfl rfl
theorem wb608lawl_code_c35 : wt_cs code 1124 wb608lawl_code_r35 := wt_cs_tl (m := 28) wb608lawl_code_c34 rfl rfl
theorem wb608lawl_code_c36 : wt_cs code 1152 wb608lawl_code_r36 := wt_cs_tl (m := 28) wb608lawl_code_c35 rfl rfl
theorem wb608lawl_code_c37 : wt_cs code 1180 wb608lawl_code_r37 := wt_cs_tl (m := 28) wb608lawl_code_c36 rfl rfl
theorem wb608lawl_code_c38 : wt_cs code 1208 wb608lawl_code_r38 := wt_cs_tl (m := 28) wb608lawl_code_c37 rfl rfl
theorem wb608lawl_code_c39 : wt_cs code 1236 wb608lawl_code_r39 := wt_cs_tl (m := 28) wb608lawl_code_c38 rfl rfl
theorem wb608lawl_code_c40 : wt_cs code 1264 wb608lawl_code_r40 := wt_cs_tl (m := 28) wb608lawl_code_c39 rfl rfl
theorem wb608lawl_code_c41 : wt_cs code 1292 wb608lawl_code_r41 := wt_cs_tl (m := 28) wb608lawl_code_c40 rfl rfl
theorem wb608lawl_code_c42 : wt_cs code 1320 wb608lawl_code_r42 := wt_cs_tl (m := 28) wb608lawl_code_c41 rfl rfl
theorem wb608lawl_code_c43 : wt_cs code 1348 wb608lawl_code_r43 := wt_cs_tl (m := 28) wb608lawl_code_c42 rfl rfl
theorem wb608lawl_code_c44 : wt_cs code 1376 wb608lawl_code_r44 := wt_cs_tl (m := 28) wb608lawl_code_c43 rfl rfl
theorem wb608lawl_code_c45 : wt_cs code 1404 wb608lawl_code_r45 := wt_cs_tl (m := 28) wb608lawl_code_c44 rfl rfl
theorem wb608lawl_code_c46 : wt_cs code 1432 wb608lawl_code_r46 := wt_cs_tl (m := 28) wb608lawl_code_c45 rfl rfl
theorem wb608lawl_code_c47 : wt_cs code 1461 wb608lawl_code_r47 := wt_cs_tl (m := 29) wb608lawl_code_c46 rfl rfl
theorem wld_23 : decode code 23 = .ok (.iload 4, 2) := wt_op21 wb608lawl_code_c0 23 rfl rfl
theorem wld_25 : decode code 25 = .ok (.aload_n 0, 1) := wt_op42 wb608lawl_code_c0 25 rfl rfl
theorem wld_26 : decode code 26 = .ok (.arraylength, 1) := wt_op190 wb608lawl_code_c0 26 rfl rfl
theorem wld_27 : decode code 27 = .ok (.bipush 6, 2) := wt_op16 wb608lawl_code_c0 27 rfl rfl rfl
theorem wld_29 : decode code 29 = .ok (.isub, 1) := wt_op100 wb608lawl_code_c1 0 rfl rfl
theorem wld_30 : decode code 30 = .ok (.if_icmp .gt 1431, 3) := wt_op163 wb608lawl_code_c1 1 rfl rfl rfl
theorem wld_33 : decode code 33 = .ok (.aload_n 0, 1) := wt_op42 wb608lawl_code_c1 4 rfl rfl
theorem wld_34 : decode code 34 = .ok (.iload 4, 2) := wt_op21 wb608lawl_code_c1 5 rfl rfl
theorem wld_36 : decode code 36 = .ok (.iaload, 1) := wt_op46 wb608lawl_code_c1 7 rfl rfl
theorem wld_37 : decode code 37 = .ok (.bipush 63, 2) := wt_op16 wb608lawl_code_c1 8 rfl rfl rfl
theorem wld_39 : decode code 39 = .ok (.iand, 1) := wt_op126 wb608lawl_code_c1 10 rfl rfl
theorem wld_40 : decode code 40 = .ok (.tableswitch 1415 0 35 #[160, 233, 261, 289, 317, 330, 358, 398, 450, 490, 530, 570, 598, 626, 666, 706, 746, 774, 814, 854, 906, 970, 998, 1062, 1075, 1103, 1131, 1144, 1184, 1212, 1240, 1268, 1308, 1364, 1377, 1390], 160) := by decide +kernel
theorem wld_1458 : decode code 1458 = .ok (.goto (-1435), 3) := wt_op167 wb608lawl_code_c46 26 rfl rfl rfl
theorem wld_1461 : decode code 1461 = .ok (.iconst 1, 1) := wt_op4 wb608lawl_code_c47 0 rfl rfl
theorem wld_1462 : decode code 1462 = .ok (.ireturn, 1) := wt_op172 wb608lawl_code_c47 1 rfl rfl
theorem wld_1455 : decode code 1455 = .ok (.iinc 4 6, 3) := wt_op132 wb608lawl_code_c46 23 rfl rfl rfl
theorem wt_o_end {X : wt_X} {o b K pc : Nat} {σ : wt_St} {lv : List (Option Value)} {nL d Km : Nat} {own : String} (hE : wt_OkO X o code nL own d Km) (hsz : ∀ q, wt_Ao (wt_xw X) o (wt_xs X).heap.size q → (wt_xs X).heap.size ≤ q) (hQ : wt_xQ X = lw_Z (wt_xb X) #[Value.ref b] (wt_xs X)) (ha : wt_xa X = #[Value.ref b]) (hR : wt_xR X = room_1) (hret : (wt_xM X).sig.returnType = ret) (hK : K ≤ 400000) (hd : decode code pc = .ok (.ireturn, 1)) : wt_O X o K σ pc lv [.int 1] := by
  intro H locs ls ce sl h1 h2 hw ho hS hl
  obtain ⟨⟨p, l, e, R, s, m, args, below, meth, c⟩, w, n, Q⟩ := X
  have hQ : Q = lw_Z below #[Value.ref b] s := hQ
  have ha : args = #[Value.ref b] := ha
  have hR : R = room_1 := hR
  subst hQ
  subst ha
  subst hR
  show W p l e room_1 s m #[Value.ref b] below meth c H locs ce sl (lw_Z below #[Value.ref b] s) (F0 m pc ls [.int 1])
  refine va_forget (fun q hq => hsz _ (hS.2.2 q hq)) ?_
  refine W.widen (k := 601024) (n := 7293034) (by omega) (by omega) ?_
  exact lw_ret hE.1.1 hE.1.2.1 hret hE.1.2.2.2.2.2.2.2.2.2.2.2.2.1 hd
theorem wt_vin {L k : Nat} (hL : L ≤ 3072) {c : Int32} {j : Nat} (hc : c = nI j) (hj : k + j < L) : vp_in (nI k + c) L := by
  rw [hc, nI_add]
  exact nI_in hj (by omega)
set_option maxRecDepth 100000 in
set_option maxHeartbeats 4000000 in
theorem wt_law_case {X : wt_X} {o b L : Nat} {xs : Nat → Int32} {n K : Nat} {Inv : wt_St → Prop} {i x : Int32} (hE : wt_OkO X o code 7 "WornTypeLaw" 400 100000) (hdm : ∀ i, wt_dom (wt_xw X) i ↔ i < 321) (hSN : wt_SN (wt_Ao (wt_xw X) o (wt_xs X).heap.size) (wt_xs X) (wt_xs X).heap) (htr : (wt_xl X).stackTraces = false) (hX : wt_scr X o b L xs) (hi : ∀ c : Int32, c = 1 ∨ c = 2 ∨ c = 3 ∨ c = 4 ∨ c = 5 → vp_in (i + c) L) (hK : K + 8 ≤ 100000) (hP : wt_P n Inv) {σ : wt_St} (hσ : Inv σ) (kn : ∀ τ : wt_St, Inv τ → wt_O X o (K + 8) τ 1455 [some (.ref b), some (.ref (wt_ad (wt_xw X) 0)), some (.ref (wt_ad (wt_xw X) 108)), some (.ref o), some (.int i), none, none] []) : wt_O X o K σ 40 [some (.ref b), some (.ref (wt_ad (wt_xw X) 0)), some (.ref (wt_ad (wt_xw X) 108)), some (.ref o), some (.int i), none, none] [.int x] := by
  obtain ⟨hP_feed, hP_kase, hP_tongue, hP_text, hP_fault, hP_told, hP_letter, hP_piece, hP_word, hP_at, hP_needs, hP_habit, hP_can, hP_lacks, hP_set, hP_print, hP_apart, hP_page, hP_read, hP_least, hP_fitting, hP_wordings, hP_want, hP_forget, hP_most, hP_greedy, hP_bound, hP_said, hP_lost, hP_ends, hP_exchange, hP_cast, hP_together, hP_image, hP_restore, hP_count⟩ := hP
  by_cases c0 : x = (0 : Int32)
  · refine wt_o_tsIn hE (off := 160) 200 c0 wld_40 (by decide) (by decide) (by decide) rfl ?_
    exact wl_feed hE hdm hSN htr hX hi hK hP_feed hσ kn
  by_cases c1 : x = (1 : Int32)
  · refine wt_o_tsIn hE (off := 233) 273 c1 wld_40 (by decide) (by decide) (by decide) rfl ?_
    exact wl_kase hE hdm hSN htr hX hi hK hP_kase hσ kn
  by_cases c2 : x = (2 : Int32)
  · refine wt_o_tsIn hE (off := 261) 301 c2 wld_40 (by decide) (by decide) (by decide) rfl ?_
    exact wl_tongue hE hdm hSN htr hX hi hK hP_tongue hσ kn
  by_cases c3 : x = (3 : Int32)
  · refine wt_o_tsIn hE (off := 289) 329 c3 wld_40 (by decide) (by decide) (by decide) rfl ?_
    exact wl_text hE hdm hSN htr hX hi hK hP_text hσ kn
  by_cases c4 : x = (4 : Int32)
  · refine wt_o_tsIn hE (off := 317) 357 c4 wld_40 (by decide) (by decide) (by decide) rfl ?_
    exact wl_fault hE hdm hSN htr hX hi hK hP_fault hσ kn
  by_cases c5 : x = (5 : Int32)
  · refine wt_o_tsIn hE (off := 330) 370 c5 wld_40 (by decide) (by decide) (by decide) rfl ?_
    exact wl_told hE hdm hSN htr hX hi hK hP_told hσ kn
  by_cases c6 : x = (6 : Int32)
  · refine wt_o_tsIn hE (off := 358) 398 c6 wld_40 (by decide) (by decide) (by decide) rfl ?_
    exact wl_letter hE hdm hSN htr hX hi hK hP_letter hσ kn
  by_cases c7 : x = (7 : Int32)
  · refine wt_o_tsIn hE (off := 398) 438 c7 wld_40 (by decide) (by decide) (by decide) rfl ?_
    exact wl_piece hE hdm hSN htr hX hi hK hP_piece hσ kn
  by_cases c8 : x = (8 : Int32)
  · refine wt_o_tsIn hE (off := 450) 490 c8 wld_40 (by decide) (by decide) (by decide) rfl ?_
    exact wl_word hE hdm hSN htr hX hi hK hP_word hσ kn
  by_cases c9 : x = (9 : Int32)
  · refine wt_o_tsIn hE (off := 490) 530 c9 wld_40 (by decide) (by decide) (by decide) rfl ?_
    exact wl_at hE hdm hSN htr hX hi hK hP_at hσ kn
  by_cases c10 : x = (10 : Int32)
  · refine wt_o_tsIn hE (off := 530) 570 c10 wld_40 (by decide) (by decide) (by decide) rfl ?_
    exact wl_needs hE hdm hSN htr hX hi hK hP_needs hσ kn
  by_cases c11 : x = (11 : Int32)
  · refine wt_o_tsIn hE (off := 570) 610 c11 wld_40 (by decide) (by decide) (by decide) rfl ?_
    exact wl_habit hE hdm hSN htr hX hi hK hP_habit hσ kn
  by_cases c12 : x = (12 : Int32)
  · refine wt_o_tsIn hE (off := 598) 638 c12 wld_40 (by decide) (by decide) (by decide) rfl ?_
    exact wl_can hE hdm hSN htr hX hi hK hP_can hσ kn
  by_cases c13 : x = (13 : Int32)
  · refine wt_o_tsIn hE (off := 626) 666 c13 wld_40 (by decide) (by decide) (by decide) rfl ?_
    exact wl_lacks hE hdm hSN htr hX hi hK hP_lacks hσ kn
  by_cases c14 : x = (14 : Int32)
  · refine wt_o_tsIn hE (off := 666) 706 c14 wld_40 (by decide) (by decide) (by decide) rfl ?_
    exact wl_set hE hdm hSN htr hX hi hK hP_set hσ kn
  by_cases c15 : x = (15 : Int32)
  · refine wt_o_tsIn hE (off := 706) 746 c15 wld_40 (by decide) (by decide) (by decide) rfl ?_
    exact wl_print hE hdm hSN htr hX hi hK hP_print hσ kn
  by_cases c16 : x = (16 : Int32)
  · refine wt_o_tsIn hE (off := 746) 786 c16 wld_40 (by decide) (by decide) (by decide) rfl ?_
    exact wl_apart hE hdm hSN htr hX hi hK hP_apart hσ kn
  by_cases c17 : x = (17 : Int32)
  · refine wt_o_tsIn hE (off := 774) 814 c17 wld_40 (by decide) (by decide) (by decide) rfl ?_
    exact wl_page hE hdm hSN htr hX hi hK hP_page hσ kn
  by_cases c18 : x = (18 : Int32)
  · refine wt_o_tsIn hE (off := 814) 854 c18 wld_40 (by decide) (by decide) (by decide) rfl ?_
    exact wl_read hE hdm hSN htr hX hi hK hP_read hσ kn
  by_cases c19 : x = (19 : Int32)
  · refine wt_o_tsIn hE (off := 854) 894 c19 wld_40 (by decide) (by decide) (by decide) rfl ?_
    exact wl_least hE hdm hSN htr hX hi hK hP_least hσ kn
  by_cases c20 : x = (20 : Int32)
  · refine wt_o_tsIn hE (off := 906) 946 c20 wld_40 (by decide) (by decide) (by decide) rfl ?_
    exact wl_fitting hE hdm hSN htr hX hi hK hP_fitting hσ kn
  by_cases c21 : x = (21 : Int32)
  · refine wt_o_tsIn hE (off := 970) 1010 c21 wld_40 (by decide) (by decide) (by decide) rfl ?_
    exact wl_wordings hE hdm hSN htr hX hi hK hP_wordings hσ kn
  by_cases c22 : x = (22 : Int32)
  · refine wt_o_tsIn hE (off := 998) 1038 c22 wld_40 (by decide) (by decide) (by decide) rfl ?_
    exact wl_want hE hdm hSN htr hX hi hK hP_want hσ kn
  by_cases c23 : x = (23 : Int32)
  · refine wt_o_tsIn hE (off := 1062) 1102 c23 wld_40 (by decide) (by decide) (by decide) rfl ?_
    exact wl_forget hE hdm hSN htr hX hi hK hP_forget hσ kn
  by_cases c24 : x = (24 : Int32)
  · refine wt_o_tsIn hE (off := 1075) 1115 c24 wld_40 (by decide) (by decide) (by decide) rfl ?_
    exact wl_most hE hdm hSN htr hX hi hK hP_most hσ kn
  by_cases c25 : x = (25 : Int32)
  · refine wt_o_tsIn hE (off := 1103) 1143 c25 wld_40 (by decide) (by decide) (by decide) rfl ?_
    exact wl_greedy hE hdm hSN htr hX hi hK hP_greedy hσ kn
  by_cases c26 : x = (26 : Int32)
  · refine wt_o_tsIn hE (off := 1131) 1171 c26 wld_40 (by decide) (by decide) (by decide) rfl ?_
    exact wl_bound hE hdm hSN htr hX hi hK hP_bound hσ kn
  by_cases c27 : x = (27 : Int32)
  · refine wt_o_tsIn hE (off := 1144) 1184 c27 wld_40 (by decide) (by decide) (by decide) rfl ?_
    exact wl_said hE hdm hSN htr hX hi hK hP_said hσ kn
  by_cases c28 : x = (28 : Int32)
  · refine wt_o_tsIn hE (off := 1184) 1224 c28 wld_40 (by decide) (by decide) (by decide) rfl ?_
    exact wl_lost hE hdm hSN htr hX hi hK hP_lost hσ kn
  by_cases c29 : x = (29 : Int32)
  · refine wt_o_tsIn hE (off := 1212) 1252 c29 wld_40 (by decide) (by decide) (by decide) rfl ?_
    exact wl_ends hE hdm hSN htr hX hi hK hP_ends hσ kn
  by_cases c30 : x = (30 : Int32)
  · refine wt_o_tsIn hE (off := 1240) 1280 c30 wld_40 (by decide) (by decide) (by decide) rfl ?_
    exact wl_exchange hE hdm hSN htr hX hi hK hP_exchange hσ kn
  by_cases c31 : x = (31 : Int32)
  · refine wt_o_tsIn hE (off := 1268) 1308 c31 wld_40 (by decide) (by decide) (by decide) rfl ?_
    exact wl_cast hE hdm hSN htr hX hi hK hP_cast hσ kn
  by_cases c32 : x = (32 : Int32)
  · refine wt_o_tsIn hE (off := 1308) 1348 c32 wld_40 (by decide) (by decide) (by decide) rfl ?_
    exact wl_together hE hdm hSN htr hX hi hK hP_together hσ kn
  by_cases c33 : x = (33 : Int32)
  · refine wt_o_tsIn hE (off := 1364) 1404 c33 wld_40 (by decide) (by decide) (by decide) rfl ?_
    exact wl_image hE hdm hSN htr hX hi hK hP_image hσ kn
  by_cases c34 : x = (34 : Int32)
  · refine wt_o_tsIn hE (off := 1377) 1417 c34 wld_40 (by decide) (by decide) (by decide) rfl ?_
    exact wl_restore hE hdm hSN htr hX hi hK hP_restore hσ kn
  by_cases c35 : x = (35 : Int32)
  · refine wt_o_tsIn hE (off := 1390) 1430 c35 wld_40 (by decide) (by decide) (by decide) rfl ?_
    exact wl_count hE hdm hSN htr hX hi hK hP_count hσ kn
  refine wt_o_tsOut hE 36 1455 rfl (by decide) (fun j hj => ?_) wld_40 rfl ?_
  · rcases (show j = 0 ∨ j = 1 ∨ j = 2 ∨ j = 3 ∨ j = 4 ∨ j = 5 ∨ j = 6 ∨ j = 7 ∨ j = 8 ∨ j = 9 ∨ j = 10 ∨ j = 11 ∨ j = 12 ∨ j = 13 ∨ j = 14 ∨ j = 15 ∨ j = 16 ∨ j = 17 ∨ j = 18 ∨ j = 19 ∨ j = 20 ∨ j = 21 ∨ j = 22 ∨ j = 23 ∨ j = 24 ∨ j = 25 ∨ j = 26 ∨ j = 27 ∨ j = 28 ∨ j = 29 ∨ j = 30 ∨ j = 31 ∨ j = 32 ∨ j = 33 ∨ j = 34 ∨ j = 35 by omega) with rfl | rfl | rfl | rfl | rfl | rfl | rfl | rfl | rfl | rfl | rfl | rfl | rfl | rfl | rfl | rfl | rfl | rfl | rfl | rfl | rfl | rfl | rfl | rfl | rfl | rfl | rfl | rfl | rfl | rfl | rfl | rfl | rfl | rfl | rfl | rfl
    · exact c0
    · exact c1
    · exact c2
    · exact c3
    · exact c4
    · exact c5
    · exact c6
    · exact c7
    · exact c8
    · exact c9
    · exact c10
    · exact c11
    · exact c12
    · exact c13
    · exact c14
    · exact c15
    · exact c16
    · exact c17
    · exact c18
    · exact c19
    · exact c20
    · exact c21
    · exact c22
    · exact c23
    · exact c24
    · exact c25
    · exact c26
    · exact c27
    · exact c28
    · exact c29
    · exact c30
    · exact c31
    · exact c32
    · exact c33
    · exact c34
    · exact c35
  exact wt_o_kup (K' := K + 8) (by omega) (kn _ hσ)
set_option maxRecDepth 100000 in
set_option maxHeartbeats 4000000 in
theorem wt_law_loop {X : wt_X} {o b L : Nat} {xs : Nat → Int32} {n : Nat} {Inv : wt_St → Prop} (hE : wt_OkO X o code 7 "WornTypeLaw" 400 100000) (hdm : ∀ i, wt_dom (wt_xw X) i ↔ i < 321) (hSN : wt_SN (wt_Ao (wt_xw X) o (wt_xs X).heap.size) (wt_xs X) (wt_xs X).heap) (htr : (wt_xl X).stackTraces = false) (hX : wt_scr X o b L xs) (hsz : ∀ q, wt_Ao (wt_xw X) o (wt_xs X).heap.size q → (wt_xs X).heap.size ≤ q) (hQ : wt_xQ X = lw_Z (wt_xb X) #[Value.ref b] (wt_xs X)) (ha : wt_xa X = #[Value.ref b]) (hR : wt_xR X = room_1) (hret : (wt_xM X).sig.returnType = ret) (hL : L ≤ 3072) (hP : wt_P n Inv) : ∀ (f k K : Nat) (σ : wt_St), L + 1 ≤ k + f → k ≤ 4000 → K + 8 * f ≤ 100000 → Inv σ → wt_O X o K σ 23 [some (.ref b), some (.ref (wt_ad (wt_xw X) 0)), some (.ref (wt_ad (wt_xw X) 108)), some (.ref o), some (.int (nI k)), none, none] [] := by
  intro f
  induction f with
  | zero =>
    intro k K σ hf hk hKf hσ
    refine wt_o_iload hE wld_23 rfl ?_
    refine wt_o_aload_n hE wld_25 rfl ?_
    refine wt_o_slen hE hX wld_26 ?_
    refine wt_o_bipush hE (6 : Int32) wld_27 (by decide) ?_
    refine wt_o_isub hE wld_29 ?_
    have e1 : (Int32.ofNat L - 6).toInt = (L : Int) - 6 := by
      have := nI_toInt (n := L) (by omega)
      have e6 : (6 : Int32).toInt = 6 := by decide
      unfold nI at this
      rw [Jvm.Kit.i32_sub (by rw [this, e6]; omega) (by rw [this, e6]; omega), this, e6]
    refine wt_o_icmp_gt hE 1461 wld_30 rfl (fun c => ?_) (fun c => ?_)
    · refine wt_o_iconst hE (1 : Int32) wld_1461 (by decide) ?_
      exact wt_o_end hE hsz hQ ha hR hret (by omega) wld_1462
    · rw [Int32.lt_iff_toInt_lt, e1, nI_toInt (by omega)] at c
      omega
  | succ f ih =>
    intro k K σ hf hk hKf hσ
    refine wt_o_iload hE wld_23 rfl ?_
    refine wt_o_aload_n hE wld_25 rfl ?_
    refine wt_o_slen hE hX wld_26 ?_
    refine wt_o_bipush hE (6 : Int32) wld_27 (by decide) ?_
    refine wt_o_isub hE wld_29 ?_
    have e1 : (Int32.ofNat L - 6).toInt = (L : Int) - 6 := by
      have := nI_toInt (n := L) (by omega)
      have e6 : (6 : Int32).toInt = 6 := by decide
      unfold nI at this
      rw [Jvm.Kit.i32_sub (by rw [this, e6]; omega) (by rw [this, e6]; omega), this, e6]
    refine wt_o_icmp_gt hE 1461 wld_30 rfl (fun c => ?_) (fun c => ?_)
    · refine wt_o_iconst hE (1 : Int32) wld_1461 (by decide) ?_
      exact wt_o_end hE hsz hQ ha hR hret (by omega) wld_1462
    · rw [Int32.lt_iff_toInt_lt, e1, nI_toInt (by omega)] at c
      refine wt_o_aload_n hE wld_33 rfl ?_
      refine wt_o_iload hE wld_34 rfl ?_
      refine wt_o_sld hE hX (nI_in (by omega) (by omega)) wld_36 ?_
      refine wt_o_bipush hE (63 : Int32) wld_37 (by decide) ?_
      refine wt_o_iand hE wld_39 ?_
      refine wt_law_case hE hdm hSN htr hX (fun c5 hc => ?_) (by omega) hP hσ (fun τ hτ => ?_)
      · rcases hc with rfl | rfl | rfl | rfl | rfl
        · exact wt_vin hL (j := 1) rfl (by omega)
        · exact wt_vin hL (j := 2) rfl (by omega)
        · exact wt_vin hL (j := 3) rfl (by omega)
        · exact wt_vin hL (j := 4) rfl (by omega)
        · exact wt_vin hL (j := 5) rfl (by omega)
      · refine wt_o_iinc hE (nI (k + 6)) [some (.ref b), some (.ref (wt_ad (wt_xw X) 0)), some (.ref (wt_ad (wt_xw X) 108)), some (.ref o), some (.int (nI (k + 6))), none, none] wld_1455 (by decide) rfl (nI_add k 6) rfl ?_
        refine wt_o_goto hE 23 wld_1458 rfl ?_
        exact ih (k + 6) (K + 8) τ (by omega) (by omega) (by omega) hτ
set_option maxRecDepth 100000 in
set_option maxHeartbeats 4000000 in
/-- the law from its entry, out of what the programs do -/
theorem wt_whole_start {n : Nat} {σ : wt_St} {Inv : wt_St → Prop} (hm : wt_made n σ) (hI : Inv σ) (hP : wt_P n Inv) {p : Program} {e : Env} {s : State} {m : MethodId} {below : List Frame} {meth : Method} {c : Code} (l : Launch) (hflags : l.flags = flags0) {b L : Nat} {xs : Nat → Int32} (hL : L ≤ 3072) (C0 : lw_At p s m meth c b L xs) : W p l e room_1 s m #[Value.ref b] below meth c s.heap [] 0 0 (lw_Z below #[Value.ref b] s) (entryFrame m ([Value.ref b] : List Value).toArray 7) := by
  obtain ⟨hx, hb, hr, hml, hown, hts, hX, hbl, hlocks, hgv⟩ := C0
  have htr : l.stackTraces = false := by
    unfold Launch.stackTraces
    rw [hflags]
    decide +kernel
  obtain ⟨D, cI, cJ, cS, hK⟩ := wt_start_K hts
  let w0 : wt_E := (D, cI, cJ, cS, fun _ => 0, fun _ => False)
  let X : wt_X := ((p, l, e, room_1, s, m, #[Value.ref b], below, meth, c), w0, 7, lw_Z below #[Value.ref b] s)
  have hA : ∀ a : Nat, a < s.heap.size → ¬ wt_A w0 s.heap.size a := fun a ha hz => by
    rcases hz with ⟨i, hi, -⟩ | hz
    · exact hi
    · omega
  have hE : wt_Ok X code 7 "WornTypeLaw" 400 100000 := ⟨hx, hb, hml, rfl, hown, wt_start_GT hts, hK, wt_start_NW hts, by show _ ≤ 2048; omega, by show _ ≤ 84000; omega, by show _ ≤ 601024; omega, by show _ ≤ 7293034; omega, hlocks, wt_start_FX hts hgv hA⟩
  have hgo : wt_BV X (.ref b) 0 0 0 [] wt_z 0 [none, none, none, none, none, none] [] := by
    refine wt_law_start hm hE (wt_start_SA hts) ?_
    refine wt_law_conv hE (fun i hi => hi) (wt_g9 46 rfl rfl) hX hbl (by omega) (fun X1 o hX1 hX2 hdm hE1 hsc hA1 => ?_)
    obtain ⟨X10, w1, n1, Q1⟩ := X1
    have hX1 : X10 = X.1 := hX1
    subst hX1
    have hX2 : (n1, Q1) = X.2.2 := hX2
    have hn1 : n1 = 7 := congrArg Prod.fst hX2
    have hQ1 : Q1 = lw_Z below #[Value.ref b] s := congrArg Prod.snd hX2
    subst hn1
    subst hQ1
    exact wt_law_loop hE1 hdm (wt_start_SN hts hgv) htr hsc hA1 rfl rfl rfl hr hL hP (L + 1) 0 3001 σ (by omega) (by omega) (by omega) hI
  have hlo := wt_args_lo (av := [.ref b]) (n := 7) rfl (Nat.le_of_ble_eq_true rfl)
  rw [lg_entry_eq]
  exact hgo (fun _ => 0) s.heap [] _ 0 0 (Nat.le_refl _) (Nat.le_refl _) ⟨fun i hi => hi.elim, fun k q h => by simp [wt_bw] at h, ⟨fun i j p q h => by simp [wt_bw] at h, fun k q h => by simp [wt_bw] at h⟩, wt_z_zero⟩ va_S.rf hlo
end WTQ0
-- 70.tc.lean.txt
section WTQ1
/-! total correctness of the pure programs -/
def wt_T {α : Type} (p : Option α) (Q : α → Prop) : Prop := ∃ a, p = some a ∧ Q a
section WTT
variable {α β ρ : Type}
theorem wt_T_some {a : α} {Q : α → Prop} (h : Q a) : wt_T (some a) Q := ⟨a, rfl, h⟩
theorem wt_T_gd {c : Prop} [Decidable c] {A : Option α} {Q : α → Prop} (hc : ¬ c) (h : wt_T A Q) : wt_T (if c then none else A) Q := by rw [if_neg hc]; exact h
theorem wt_T_gp {c : Prop} [Decidable c] {A : Option α} {Q : α → Prop} (hc : c) (h : wt_T A Q) : wt_T (if c then A else none) Q := by rw [if_pos hc]; exact h
theorem wt_T_if {c : Prop} [Decidable c] {A B : Option α} {Q : α → Prop} (h1 : c → wt_T A Q) (h2 : ¬ c → wt_T B Q) : wt_T (if c then A else B) Q := by
  by_cases hc : c
  · rw [if_pos hc]; exact h1 hc
  · rw [if_neg hc]; exact h2 hc
theorem wt_T_bi {x : Option α} {f : α → Option β} {P : α → Prop} {Q : β → Prop} (h : wt_T x P) (k : ∀ a, P a → wt_T (f a) Q) : wt_T (x.bind f) Q := by
  obtain ⟨a, rfl, hp⟩ := h
  exact k a hp
theorem wt_T.imp {x : Option α} {P Q : α → Prop} (h : wt_T x P) (k : ∀ a, P a → Q a) : wt_T x Q := by
  obtain ⟨a, e, hp⟩ := h
  exact ⟨a, e, k a hp⟩
theorem wt_T_it {body : (α → Option ρ) → α → Option ρ} {Q : ρ → Prop} (I : α → Prop) (m : α → Nat) (h : ∀ (K : α → Option ρ) (s : α), I s → (∀ s', I s' → m s' < m s → wt_T (K s') Q) → wt_T (body K s) Q) : ∀ (n : Nat) (s : α), I s → m s < n → wt_T (wt_it body n s) Q := by
  intro n
  induction n with
  | zero => intro s _ h1; omega
  | succ n ih => intro s hs h1; exact h _ s hs (fun s' hs' hlt => ih s' hs' (by omega))
end WTT
theorem wt_clt {a b : Int32} (h : a < b) : a.toInt < b.toInt := Int32.lt_iff_toInt_lt.mp h
theorem wt_ncl {a b : Int32} (h : ¬ a < b) : b.toInt ≤ a.toInt := by rw [Int32.lt_iff_toInt_lt] at h; omega
theorem wt_cle {a b : Int32} (h : a ≤ b) : a.toInt ≤ b.toInt := Int32.le_iff_toInt_le.mp h
theorem wt_ncle {a b : Int32} (h : ¬ a ≤ b) : b.toInt < a.toInt := by rw [Int32.le_iff_toInt_le] at h; omega
theorem wt_ceq {a b : Int32} (h : a = b) : a.toInt = b.toInt := congrArg _ h
theorem wt_nceq {a b : Int32} (h : ¬ a = b) : a.toInt ≠ b.toInt := fun e => h (Int32.toInt_inj.mp e)
theorem wt_eqI {a b : Int32} (h : a.toInt = b.toInt) : a = b := Int32.toInt_inj.mp h
theorem wt_bd (x : Int32) : -2147483648 ≤ x.toInt ∧ x.toInt < 2147483648 := ⟨Int32.le_toInt x, Int32.toInt_lt x⟩
theorem wt_bm (z : Int) : ∃ k : Int, z.bmod (2 ^ 32) = z + 4294967296 * k := by
  refine ⟨(z.bmod (2 ^ 32) - z) / 4294967296, ?_⟩
  rw [Int.bmod_def]
  split <;> omega
theorem wt_addI (x y : Int32) : ∃ k : Int, (x + y).toInt = x.toInt + y.toInt + 4294967296 * k ∧ -2147483648 ≤ (x + y).toInt ∧ (x + y).toInt < 2147483648 := by
  obtain ⟨k, hk⟩ := wt_bm (x.toInt + y.toInt)
  exact ⟨k, by rw [Int32.toInt_add]; exact hk, wt_bd _⟩
theorem wt_subI (x y : Int32) : ∃ k : Int, (x - y).toInt = x.toInt - y.toInt + 4294967296 * k ∧ -2147483648 ≤ (x - y).toInt ∧ (x - y).toInt < 2147483648 := by
  obtain ⟨k, hk⟩ := wt_bm (x.toInt - y.toInt)
  exact ⟨k, by rw [Int32.toInt_sub]; exact hk, wt_bd _⟩
theorem wt_mulI (x y : Int32) : ∃ k : Int, (x * y).toInt = x.toInt * y.toInt + 4294967296 * k ∧ -2147483648 ≤ (x * y).toInt ∧ (x * y).toInt < 2147483648 := by
  obtain ⟨k, hk⟩ := wt_bm (x.toInt * y.toInt)
  exact ⟨k, by rw [Int32.toInt_mul]; exact hk, wt_bd _⟩
theorem wt_ix {x : Int32} {N : Nat} (h0 : 0 ≤ x.toInt) (h1 : x.toInt < (N : Int)) : ¬ (x < 0 ∨ N ≤ Int32.toNatClampNeg x) := by
  have e : (Int32.toNatClampNeg x : Int) = x.toInt := by unfold Int32.toNatClampNeg; omega
  rintro (h | h)
  · have := wt_clt h
    rw [show (0 : Int32).toInt = 0 from rfl] at this
    omega
  · omega
theorem wt_tn (x : Int32) : x.toInt < 0 ∨ (Int32.toNatClampNeg x : Int) = x.toInt := by
  unfold Int32.toNatClampNeg
  omega
theorem wt_ln_bd (r : Nat) : wt_ln r ≤ 2000 := by
  unfold wt_ln
  cases h : wt_LAY[r]? with
  | none => exact Nat.zero_le _
  | some q =>
    have hall : wt_LAY.all (fun q => decide (q.2.1 ≤ 2000)) = true := by decide +kernel
    exact of_decide_eq_true (List.all_eq_true.mp hall q (List.mem_of_getElem? h))
theorem wt_lnI (r : Nat) : (nI (wt_ln r)).toInt = (wt_ln r : Int) ∧ wt_ln r ≤ 2000 := ⟨nI_toInt (by have := wt_ln_bd r; omega), wt_ln_bd r⟩
/-! what stays -/
def wt_fr (F : Nat → Nat → Prop) (A : Nat → Prop) (σ σ' : wt_St) : Prop := (∀ i k, ¬ F i k → wt_gf σ' i k = wt_gf σ i k) ∧ ∀ i, ¬ A i → ∀ j, wt_ga σ' i j = wt_ga σ i j
theorem wt_fr.rf {F : Nat → Nat → Prop} {A : Nat → Prop} {σ : wt_St} : wt_fr F A σ σ := ⟨fun _ _ _ => rfl, fun _ _ _ => rfl⟩
theorem wt_fr.tr {F F2 : Nat → Nat → Prop} {A A2 : Nat → Prop} {σ σ1 σ2 : wt_St} (h1 : wt_fr F A σ σ1) (h2 : wt_fr F2 A2 σ1 σ2) (hF : ∀ i k, F2 i k → F i k) (hA : ∀ i, A2 i → A i) : wt_fr F A σ σ2 :=
  ⟨fun i k h => (h2.1 i k (fun z => h (hF i k z))).trans (h1.1 i k h), fun i h j => (h2.2 i (fun z => h (hA i z)) j).trans (h1.2 i h j)⟩
theorem wt_fr_sa {σ σ' : wt_St} {i j : Nat} {v : Int32} (e : σ' = wt_sa σ i j v) : wt_fr (fun _ _ => False) (fun i' => i' = i) σ σ' := by
  subst e
  exact ⟨fun _ _ _ => rfl, fun i' h j' => by rw [wt_ga_sa, if_neg (fun z => h z.1)]⟩
theorem wt_fr_sf {σ σ' : wt_St} {i k : Nat} {v : Int32} (e : σ' = wt_sf σ i k v) : wt_fr (fun i' k' => i' = i ∧ k' = k) (fun _ => False) σ σ' := by
  subst e
  exact ⟨fun i' k' h => by rw [wt_gf_sf, if_neg h], fun _ _ _ => rfl⟩
theorem wt_v_sa {σ σ' : wt_St} {i j : Nat} {v : Int32} (e : σ' = wt_sa σ i j v) : wt_ga σ' i j = v := by
  subst e
  rw [wt_ga_sa, if_pos ⟨rfl, rfl⟩]
theorem wt_w_sa {σ σ' : wt_St} {i j : Nat} {v : Int32} (e : σ' = wt_sa σ i j v) (j' : Nat) (h : j' ≠ j) : wt_ga σ' i j' = wt_ga σ i j' := by
  subst e
  rw [wt_ga_sa, if_neg (fun z => h z.2)]
theorem wt_v_sf {σ σ' : wt_St} {i k : Nat} {v : Int32} (e : σ' = wt_sf σ i k v) : wt_gf σ' i k = v := by
  subst e
  rw [wt_gf_sf, if_pos ⟨rfl, rfl⟩]
/-- what look answers -/
def wt_lk (a : Nat) (x : Int32) (σ : wt_St) : Int32 := if x < 0 then 0 else if nI (wt_ln a) ≤ x then 0 else wt_ga σ a (Int32.toNatClampNeg x)
theorem wt_lk_fr {a : Nat} {x : Int32} {σ σ' : wt_St} (h : ∀ j, wt_ga σ' a j = wt_ga σ a j) : wt_lk a x σ' = wt_lk a x σ := by
  unfold wt_lk
  rw [h]
def wt_lk2 (a b : Nat) (x : Int32) (σ : wt_St) : Int32 := wt_lk a (wt_lk b x σ) σ
theorem wt_lk2_fr {a b : Nat} {x : Int32} {σ σ' : wt_St} (h : ∀ j, wt_ga σ' a j = wt_ga σ a j) (h2 : ∀ j, wt_ga σ' b j = wt_ga σ b j) : wt_lk2 a b x σ' = wt_lk2 a b x σ := by
  unfold wt_lk2
  rw [wt_lk_fr h2, wt_lk_fr h]
theorem wt_lm1 : (-1 : Int32).toInt = -1 := by decide
theorem wt_lm2 : (-2 : Int32).toInt = -2 := by decide
theorem wt_lm8 : (-8 : Int32).toInt = -8 := by decide
theorem wt_i1 {c : Int32} (h : c.toInt < 2147483647) : (c + (1 : Int32)).toInt = c.toInt + 1 := by
  have k : (1 : Int32).toInt = 1 := by decide
  have b := wt_bd c
  rw [Jvm.Kit.i32_add (by omega) (by omega), k]
theorem wt_d1 {c : Int32} (h : -2147483648 < c.toInt) : (c + (-1 : Int32)).toInt = c.toInt - 1 := by
  have b := wt_bd c
  rw [Jvm.Kit.i32_add (by rw [wt_lm1]; omega) (by rw [wt_lm1]; omega), wt_lm1]
  omega
theorem wt_d8 {c : Int32} (h : -2147483640 < c.toInt) : (c + (-8 : Int32)).toInt = c.toInt - 8 := by
  have b := wt_bd c
  rw [Jvm.Kit.i32_add (by rw [wt_lm8]; omega) (by rw [wt_lm8]; omega), wt_lm8]
  omega
theorem wt_mu {B B' c : Int32} (hB : B'.toInt = B.toInt) (hc : c.toInt < B.toInt) : (B'.toInt - (c + (1 : Int32)).toInt + 0).toNat < (B.toInt - c.toInt + 0).toNat := by
  have b := wt_bd B
  rw [wt_i1 (by omega)]
  omega
theorem wt_mu1 {B B' c : Int32} (hB : B'.toInt = B.toInt) (hc : c.toInt ≤ B.toInt) (hb : B.toInt < 2147483647) : (B'.toInt - (c + (1 : Int32)).toInt + 1).toNat < (B.toInt - c.toInt + 1).toNat := by
  have b := wt_bd B
  rw [wt_i1 (by omega)]
  omega
theorem wt_nn {B c : Int32} (h0 : 0 ≤ c.toInt) (hc : c.toInt < B.toInt) : 0 ≤ (c + (1 : Int32)).toInt := by
  have b := wt_bd B
  rw [wt_i1 (by omega)]
  omega
theorem wt_nn1 {B c : Int32} (h0 : 0 ≤ c.toInt) (hc : c.toInt ≤ B.toInt) (hb : B.toInt < 2147483647) : 0 ≤ (c + (1 : Int32)).toInt := by
  rw [wt_i1 (by omega)]
  omega
theorem wt_md0 {c : Int32} (h : 0 < c.toInt) : ((c + (-1 : Int32)).toInt + 0).toNat < (c.toInt + 0).toNat := by
  rw [wt_d1 (by omega)]
  omega
theorem wt_md1 {c : Int32} (h : 0 ≤ c.toInt) : ((c + (-1 : Int32)).toInt + 1).toNat < (c.toInt + 1).toNat := by
  rw [wt_d1 (by omega)]
  omega
theorem wt_md8 {c : Int32} (h : 0 ≤ c.toInt) : ((c + (-8 : Int32)).toInt + 1).toNat < (c.toInt + 1).toNat := by
  rw [wt_d8 (by omega)]
  omega
theorem wt_T_rec {α ρ : Type} {body : (α → Option ρ) → α → Option ρ} (I : α → Prop) (m : α → Nat) (Q : α → ρ → Prop) (h : ∀ (R : α → Option ρ) (s : α), I s → (∀ s', I s' → m s' < m s → wt_T (R s') (Q s')) → wt_T (body R s) (Q s)) : ∀ (n : Nat) (s : α), I s → m s < n → wt_T (wt_it body n s) (Q s) := by
  intro n
  induction n with
  | zero => intro s _ h1; omega
  | succ n ih => intro s hs h1; exact h _ s hs (fun s' hs' hlt => ih s' hs' (by omega))
end WTQ1
