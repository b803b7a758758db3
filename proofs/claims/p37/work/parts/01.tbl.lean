-- ===== PART A: goes FIRST, ahead of the names: the tables' words, and 'selects' of the private methods out of them =====
/-- a private method of a class that the tables say can be made, by its rows of tables_1 -/
def lw_okq (q : MethodName × Nat) : Prop := (q.1.cls ≠ "java/lang/invoke/MethodHandle" ∧ q.1.cls ≠ "java/lang/invoke/VarHandle") ∧ Cond.instantiable q.1.cls q.2 ∈ tables_1 ∧ Cond.privateMethod q.1 ∈ tables_1 ∧ Cond.instanceMethod q.1 ∈ tables_1
theorem lw_in1 {w : Cond} (h : w ∈ tables_1_1) : w ∈ tables_1 := List.mem_append_left _ h
theorem lw_in2 {w : Cond} (h : w ∈ tables_1_2) : w ∈ tables_1 := List.mem_append_right _ (List.mem_append_left _ h)
theorem lw_in3 {w : Cond} (h : w ∈ tables_1_3) : w ∈ tables_1 := List.mem_append_right _ (List.mem_append_right _ (List.mem_append_left _ h))
theorem lw_in4 {w : Cond} (h : w ∈ tables_1_4) : w ∈ tables_1 := List.mem_append_right _ (List.mem_append_right _ (List.mem_append_right _ (List.mem_append_left _ h)))
theorem lw_in5 {w : Cond} (h : w ∈ tables_1_5) : w ∈ tables_1 := List.mem_append_right _ (List.mem_append_right _ (List.mem_append_right _ (List.mem_append_right _ (List.mem_append_left _ h))))
theorem lw_in6 {w : Cond} (h : w ∈ tables_1_6) : w ∈ tables_1 := List.mem_append_right _ (List.mem_append_right _ (List.mem_append_right _ (List.mem_append_right _ (List.mem_append_right _ (List.mem_append_left _ h)))))
theorem lw_in7 {w : Cond} (h : w ∈ tables_1_7) : w ∈ tables_1 := List.mem_append_right _ (List.mem_append_right _ (List.mem_append_right _ (List.mem_append_right _ (List.mem_append_right _ (List.mem_append_right _ (List.mem_append_left _ h))))))
theorem lw_in8 {w : Cond} (h : w ∈ tables_1_8) : w ∈ tables_1 := List.mem_append_right _ (List.mem_append_right _ (List.mem_append_right _ (List.mem_append_right _ (List.mem_append_right _ (List.mem_append_right _ (List.mem_append_right _ (List.mem_append_left _ h)))))))
theorem lw_in9 {w : Cond} (h : w ∈ tables_1_9) : w ∈ tables_1 := List.mem_append_right _ (List.mem_append_right _ (List.mem_append_right _ (List.mem_append_right _ (List.mem_append_right _ (List.mem_append_right _ (List.mem_append_right _ (List.mem_append_right _ (h))))))))
set_option maxRecDepth 100000 in
theorem lw_p0 : lw_okq (⟨"WornType$Lead", "clear", "()V"⟩, 8) := ⟨⟨by decide +kernel, by decide +kernel⟩, (lw_in1 (List.mem_of_getElem? (i := 71) rfl)), (lw_in1 (List.mem_of_getElem? (i := 77) rfl)), (lw_in1 (List.mem_of_getElem? (i := 78) rfl))⟩
set_option maxRecDepth 100000 in
theorem lw_p1 : lw_okq (⟨"WornType$Weeks", "boundBy", "(I)I"⟩, 11) := ⟨⟨by decide +kernel, by decide +kernel⟩, (lw_in2 (List.mem_of_getElem? (i := 87) rfl)), (lw_in2 (List.mem_of_getElem? (i := 239) rfl)), (lw_in3 (List.mem_of_getElem? (i := 0) rfl))⟩
set_option maxRecDepth 100000 in
theorem lw_p2 : lw_okq (⟨"WornType$Stock", "lies", "(I)Z"⟩, 2) := ⟨⟨by decide +kernel, by decide +kernel⟩, (lw_in2 (List.mem_of_getElem? (i := 6) rfl)), (lw_in3 (List.mem_of_getElem? (i := 14) rfl)), (lw_in3 (List.mem_of_getElem? (i := 15) rfl))⟩
set_option maxRecDepth 100000 in
theorem lw_p3 : lw_okq (⟨"WornType$Weeks", "dearestOf", "(II)I"⟩, 11) := ⟨⟨by decide +kernel, by decide +kernel⟩, (lw_in2 (List.mem_of_getElem? (i := 87) rfl)), (lw_in3 (List.mem_of_getElem? (i := 18) rfl)), (lw_in3 (List.mem_of_getElem? (i := 19) rfl))⟩
set_option maxRecDepth 100000 in
theorem lw_p4 : lw_okq (⟨"WornType$Weeks", "printsOf", "(II)I"⟩, 11) := ⟨⟨by decide +kernel, by decide +kernel⟩, (lw_in2 (List.mem_of_getElem? (i := 87) rfl)), (lw_in3 (List.mem_of_getElem? (i := 23) rfl)), (lw_in3 (List.mem_of_getElem? (i := 24) rfl))⟩
set_option maxRecDepth 100000 in
theorem lw_p5 : lw_okq (⟨"java/lang/Throwable", "fillInStackTrace", "(I)Ljava/lang/Throwable;"⟩, 6) := ⟨⟨by decide +kernel, by decide +kernel⟩, (lw_in3 (List.mem_of_getElem? (i := 103) rfl)), (lw_in3 (List.mem_of_getElem? (i := 101) rfl)), (lw_in3 (List.mem_of_getElem? (i := 102) rfl))⟩
set_option maxRecDepth 100000 in
theorem lw_p6 : lw_okq (⟨"WornType$Tape", "skipBlanks", "()V"⟩, 8) := ⟨⟨by decide +kernel, by decide +kernel⟩, (lw_in1 (List.mem_of_getElem? (i := 34) rfl)), (lw_in3 (List.mem_of_getElem? (i := 145) rfl)), (lw_in3 (List.mem_of_getElem? (i := 146) rfl))⟩
set_option maxRecDepth 100000 in
theorem lw_p7 : lw_okq (⟨"WornType$Lead", "fillClause", "(LWornType$Tape;I)Z"⟩, 8) := ⟨⟨by decide +kernel, by decide +kernel⟩, (lw_in1 (List.mem_of_getElem? (i := 71) rfl)), (lw_in3 (List.mem_of_getElem? (i := 150) rfl)), (lw_in3 (List.mem_of_getElem? (i := 151) rfl))⟩
set_option maxRecDepth 100000 in
theorem lw_p8 : lw_okq (⟨"WornType$Lead", "fillPrice", "(LWornType$Tape;)Z"⟩, 8) := ⟨⟨by decide +kernel, by decide +kernel⟩, (lw_in1 (List.mem_of_getElem? (i := 71) rfl)), (lw_in4 (List.mem_of_getElem? (i := 10) rfl)), (lw_in4 (List.mem_of_getElem? (i := 11) rfl))⟩
set_option maxRecDepth 100000 in
theorem lw_p9 : lw_okq (⟨"WornType$Lead", "fillFaint", "(LWornType$Tape;)Z"⟩, 8) := ⟨⟨by decide +kernel, by decide +kernel⟩, (lw_in1 (List.mem_of_getElem? (i := 71) rfl)), (lw_in4 (List.mem_of_getElem? (i := 14) rfl)), (lw_in4 (List.mem_of_getElem? (i := 15) rfl))⟩
set_option maxRecDepth 100000 in
theorem lw_p10 : lw_okq (⟨"WornType$Lead", "fillLike", "(LWornType$Tape;)Z"⟩, 8) := ⟨⟨by decide +kernel, by decide +kernel⟩, (lw_in1 (List.mem_of_getElem? (i := 71) rfl)), (lw_in4 (List.mem_of_getElem? (i := 18) rfl)), (lw_in4 (List.mem_of_getElem? (i := 19) rfl))⟩
set_option maxRecDepth 100000 in
theorem lw_p11 : lw_okq (⟨"WornType$Lead", "fillFollow", "(LWornType$Tape;)Z"⟩, 8) := ⟨⟨by decide +kernel, by decide +kernel⟩, (lw_in1 (List.mem_of_getElem? (i := 71) rfl)), (lw_in4 (List.mem_of_getElem? (i := 22) rfl)), (lw_in4 (List.mem_of_getElem? (i := 23) rfl))⟩
set_option maxRecDepth 100000 in
theorem lw_p12 : lw_okq (⟨"WornType$Tongue", "fillGroup", "(LWornType$Tape;)Z"⟩, 8) := ⟨⟨by decide +kernel, by decide +kernel⟩, (lw_in1 (List.mem_of_getElem? (i := 119) rfl)), (lw_in4 (List.mem_of_getElem? (i := 59) rfl)), (lw_in4 (List.mem_of_getElem? (i := 60) rfl))⟩
set_option maxRecDepth 100000 in
theorem lw_p13 : lw_okq (⟨"WornType$Tongue", "fillWord", "(LWornType$Tape;I)Z"⟩, 8) := ⟨⟨by decide +kernel, by decide +kernel⟩, (lw_in1 (List.mem_of_getElem? (i := 119) rfl)), (lw_in4 (List.mem_of_getElem? (i := 63) rfl)), (lw_in4 (List.mem_of_getElem? (i := 64) rfl))⟩
set_option maxRecDepth 100000 in
theorem lw_p14 : lw_okq (⟨"WornType$Tongue", "isSpelled", "(I[II)Z"⟩, 8) := ⟨⟨by decide +kernel, by decide +kernel⟩, (lw_in1 (List.mem_of_getElem? (i := 119) rfl)), (lw_in4 (List.mem_of_getElem? (i := 74) rfl)), (lw_in4 (List.mem_of_getElem? (i := 75) rfl))⟩
set_option maxRecDepth 100000 in
theorem lw_p15 : lw_okq (⟨"WornType$Texts", "close", "(LWornType$Tongue;I)Z"⟩, 5) := ⟨⟨by decide +kernel, by decide +kernel⟩, (lw_in1 (List.mem_of_getElem? (i := 159) rfl)), (lw_in4 (List.mem_of_getElem? (i := 105) rfl)), (lw_in4 (List.mem_of_getElem? (i := 106) rfl))⟩
def lw_privs_1 : List (MethodName × Nat) := [(⟨"WornType$Lead", "clear", "()V"⟩, 8), (⟨"WornType$Weeks", "boundBy", "(I)I"⟩, 11), (⟨"WornType$Stock", "lies", "(I)Z"⟩, 2), (⟨"WornType$Weeks", "dearestOf", "(II)I"⟩, 11), (⟨"WornType$Weeks", "printsOf", "(II)I"⟩, 11), (⟨"java/lang/Throwable", "fillInStackTrace", "(I)Ljava/lang/Throwable;"⟩, 6), (⟨"WornType$Tape", "skipBlanks", "()V"⟩, 8), (⟨"WornType$Lead", "fillClause", "(LWornType$Tape;I)Z"⟩, 8), (⟨"WornType$Lead", "fillPrice", "(LWornType$Tape;)Z"⟩, 8), (⟨"WornType$Lead", "fillFaint", "(LWornType$Tape;)Z"⟩, 8), (⟨"WornType$Lead", "fillLike", "(LWornType$Tape;)Z"⟩, 8), (⟨"WornType$Lead", "fillFollow", "(LWornType$Tape;)Z"⟩, 8), (⟨"WornType$Tongue", "fillGroup", "(LWornType$Tape;)Z"⟩, 8), (⟨"WornType$Tongue", "fillWord", "(LWornType$Tape;I)Z"⟩, 8), (⟨"WornType$Tongue", "isSpelled", "(I[II)Z"⟩, 8), (⟨"WornType$Texts", "close", "(LWornType$Tongue;I)Z"⟩, 5)]
theorem lw_r1 : ∀ q ∈ lw_privs_1, lw_okq q := List.forall_mem_cons.mpr ⟨lw_p0, List.forall_mem_cons.mpr ⟨lw_p1, List.forall_mem_cons.mpr ⟨lw_p2, List.forall_mem_cons.mpr ⟨lw_p3, List.forall_mem_cons.mpr ⟨lw_p4, List.forall_mem_cons.mpr ⟨lw_p5, List.forall_mem_cons.mpr ⟨lw_p6, List.forall_mem_cons.mpr ⟨lw_p7, List.forall_mem_cons.mpr ⟨lw_p8, List.forall_mem_cons.mpr ⟨lw_p9, List.forall_mem_cons.mpr ⟨lw_p10, List.forall_mem_cons.mpr ⟨lw_p11, List.forall_mem_cons.mpr ⟨lw_p12, List.forall_mem_cons.mpr ⟨lw_p13, List.forall_mem_cons.mpr ⟨lw_p14, List.forall_mem_cons.mpr ⟨lw_p15, fun _ h => absurd h List.not_mem_nil⟩⟩⟩⟩⟩⟩⟩⟩⟩⟩⟩⟩⟩⟩⟩⟩
set_option maxRecDepth 100000 in
theorem lw_p16 : lw_okq (⟨"WornType$Pages", "firstFree", "()I"⟩, 8) := ⟨⟨by decide +kernel, by decide +kernel⟩, (lw_in2 (List.mem_of_getElem? (i := 19) rfl)), (lw_in5 (List.mem_of_getElem? (i := 80) rfl)), (lw_in5 (List.mem_of_getElem? (i := 81) rfl))⟩
set_option maxRecDepth 100000 in
theorem lw_p17 : lw_okq (⟨"WornType$Stock", "comesFirst", "(II)Z"⟩, 2) := ⟨⟨by decide +kernel, by decide +kernel⟩, (lw_in2 (List.mem_of_getElem? (i := 6) rfl)), (lw_in5 (List.mem_of_getElem? (i := 88) rfl)), (lw_in5 (List.mem_of_getElem? (i := 89) rfl))⟩
set_option maxRecDepth 100000 in
theorem lw_p18 : lw_okq (⟨"WornType$Pages", "isFaint", "(I)Z"⟩, 8) := ⟨⟨by decide +kernel, by decide +kernel⟩, (lw_in2 (List.mem_of_getElem? (i := 19) rfl)), (lw_in5 (List.mem_of_getElem? (i := 138) rfl)), (lw_in5 (List.mem_of_getElem? (i := 139) rfl))⟩
set_option maxRecDepth 100000 in
theorem lw_p19 : lw_okq (⟨"WornType$Pages", "readLetter", "(III)I"⟩, 8) := ⟨⟨by decide +kernel, by decide +kernel⟩, (lw_in2 (List.mem_of_getElem? (i := 19) rfl)), (lw_in5 (List.mem_of_getElem? (i := 156) rfl)), (lw_in5 (List.mem_of_getElem? (i := 157) rfl))⟩
set_option maxRecDepth 100000 in
theorem lw_p20 : lw_okq (⟨"WornType$Rows", "leastFrom", "(III)I"⟩, 10) := ⟨⟨by decide +kernel, by decide +kernel⟩, (lw_in2 (List.mem_of_getElem? (i := 50) rfl)), (lw_in5 (List.mem_of_getElem? (i := 192) rfl)), (lw_in5 (List.mem_of_getElem? (i := 193) rfl))⟩
set_option maxRecDepth 100000 in
theorem lw_p21 : lw_okq (⟨"WornType$Rows", "cheapestBehind", "(III)I"⟩, 10) := ⟨⟨by decide +kernel, by decide +kernel⟩, (lw_in2 (List.mem_of_getElem? (i := 50) rfl)), (lw_in5 (List.mem_of_getElem? (i := 197) rfl)), (lw_in5 (List.mem_of_getElem? (i := 198) rfl))⟩
set_option maxRecDepth 100000 in
theorem lw_p22 : lw_okq (⟨"WornType$Rows", "sumAt", "(III)I"⟩, 10) := ⟨⟨by decide +kernel, by decide +kernel⟩, (lw_in2 (List.mem_of_getElem? (i := 50) rfl)), (lw_in5 (List.mem_of_getElem? (i := 202) rfl)), (lw_in5 (List.mem_of_getElem? (i := 203) rfl))⟩
set_option maxRecDepth 100000 in
theorem lw_p23 : lw_okq (⟨"WornType$Rows", "mayFollow", "(II)Z"⟩, 10) := ⟨⟨by decide +kernel, by decide +kernel⟩, (lw_in2 (List.mem_of_getElem? (i := 50) rfl)), (lw_in5 (List.mem_of_getElem? (i := 206) rfl)), (lw_in5 (List.mem_of_getElem? (i := 207) rfl))⟩
set_option maxRecDepth 100000 in
theorem lw_p24 : lw_okq (⟨"WornType$Rows", "spend", "(II)Z"⟩, 10) := ⟨⟨by decide +kernel, by decide +kernel⟩, (lw_in2 (List.mem_of_getElem? (i := 50) rfl)), (lw_in5 (List.mem_of_getElem? (i := 239) rfl)), (lw_in6 (List.mem_of_getElem? (i := 0) rfl))⟩
set_option maxRecDepth 100000 in
theorem lw_p25 : lw_okq (⟨"WornType$Rows", "waysBehind", "(III)I"⟩, 10) := ⟨⟨by decide +kernel, by decide +kernel⟩, (lw_in2 (List.mem_of_getElem? (i := 50) rfl)), (lw_in6 (List.mem_of_getElem? (i := 14) rfl)), (lw_in6 (List.mem_of_getElem? (i := 15) rfl))⟩
set_option maxRecDepth 100000 in
theorem lw_p26 : lw_okq (⟨"WornType$Weeks", "sortByWeek", "()V"⟩, 11) := ⟨⟨by decide +kernel, by decide +kernel⟩, (lw_in2 (List.mem_of_getElem? (i := 87) rfl)), (lw_in6 (List.mem_of_getElem? (i := 42) rfl)), (lw_in6 (List.mem_of_getElem? (i := 43) rfl))⟩
set_option maxRecDepth 100000 in
theorem lw_p27 : lw_okq (⟨"WornType$Weeks", "keep", "(II)V"⟩, 11) := ⟨⟨by decide +kernel, by decide +kernel⟩, (lw_in2 (List.mem_of_getElem? (i := 87) rfl)), (lw_in6 (List.mem_of_getElem? (i := 50) rfl)), (lw_in6 (List.mem_of_getElem? (i := 51) rfl))⟩
set_option maxRecDepth 100000 in
theorem lw_p28 : lw_okq (⟨"WornType$Weeks", "printOne", "(I[I)Z"⟩, 11) := ⟨⟨by decide +kernel, by decide +kernel⟩, (lw_in2 (List.mem_of_getElem? (i := 87) rfl)), (lw_in6 (List.mem_of_getElem? (i := 55) rfl)), (lw_in6 (List.mem_of_getElem? (i := 56) rfl))⟩
set_option maxRecDepth 100000 in
theorem lw_p29 : lw_okq (⟨"WornType$Weeks", "startGreedy", "()V"⟩, 11) := ⟨⟨by decide +kernel, by decide +kernel⟩, (lw_in2 (List.mem_of_getElem? (i := 87) rfl)), (lw_in6 (List.mem_of_getElem? (i := 78) rfl)), (lw_in6 (List.mem_of_getElem? (i := 79) rfl))⟩
set_option maxRecDepth 100000 in
theorem lw_p30 : lw_okq (⟨"WornType$Weeks", "printNext", "(I)V"⟩, 11) := ⟨⟨by decide +kernel, by decide +kernel⟩, (lw_in2 (List.mem_of_getElem? (i := 87) rfl)), (lw_in6 (List.mem_of_getElem? (i := 82) rfl)), (lw_in6 (List.mem_of_getElem? (i := 83) rfl))⟩
set_option maxRecDepth 100000 in
theorem lw_p31 : lw_okq (⟨"WornType$Trade", "weigh", "(III)V"⟩, 9) := ⟨⟨by decide +kernel, by decide +kernel⟩, (lw_in2 (List.mem_of_getElem? (i := 132) rfl)), (lw_in6 (List.mem_of_getElem? (i := 138) rfl)), (lw_in6 (List.mem_of_getElem? (i := 139) rfl))⟩
def lw_privs_2 : List (MethodName × Nat) := [(⟨"WornType$Pages", "firstFree", "()I"⟩, 8), (⟨"WornType$Stock", "comesFirst", "(II)Z"⟩, 2), (⟨"WornType$Pages", "isFaint", "(I)Z"⟩, 8), (⟨"WornType$Pages", "readLetter", "(III)I"⟩, 8), (⟨"WornType$Rows", "leastFrom", "(III)I"⟩, 10), (⟨"WornType$Rows", "cheapestBehind", "(III)I"⟩, 10), (⟨"WornType$Rows", "sumAt", "(III)I"⟩, 10), (⟨"WornType$Rows", "mayFollow", "(II)Z"⟩, 10), (⟨"WornType$Rows", "spend", "(II)Z"⟩, 10), (⟨"WornType$Rows", "waysBehind", "(III)I"⟩, 10), (⟨"WornType$Weeks", "sortByWeek", "()V"⟩, 11), (⟨"WornType$Weeks", "keep", "(II)V"⟩, 11), (⟨"WornType$Weeks", "printOne", "(I[I)Z"⟩, 11), (⟨"WornType$Weeks", "startGreedy", "()V"⟩, 11), (⟨"WornType$Weeks", "printNext", "(I)V"⟩, 11), (⟨"WornType$Trade", "weigh", "(III)V"⟩, 9)]
theorem lw_r2 : ∀ q ∈ lw_privs_2, lw_okq q := List.forall_mem_cons.mpr ⟨lw_p16, List.forall_mem_cons.mpr ⟨lw_p17, List.forall_mem_cons.mpr ⟨lw_p18, List.forall_mem_cons.mpr ⟨lw_p19, List.forall_mem_cons.mpr ⟨lw_p20, List.forall_mem_cons.mpr ⟨lw_p21, List.forall_mem_cons.mpr ⟨lw_p22, List.forall_mem_cons.mpr ⟨lw_p23, List.forall_mem_cons.mpr ⟨lw_p24, List.forall_mem_cons.mpr ⟨lw_p25, List.forall_mem_cons.mpr ⟨lw_p26, List.forall_mem_cons.mpr ⟨lw_p27, List.forall_mem_cons.mpr ⟨lw_p28, List.forall_mem_cons.mpr ⟨lw_p29, List.forall_mem_cons.mpr ⟨lw_p30, List.forall_mem_cons.mpr ⟨lw_p31, fun _ h => absurd h List.not_mem_nil⟩⟩⟩⟩⟩⟩⟩⟩⟩⟩⟩⟩⟩⟩⟩⟩
set_option maxRecDepth 100000 in
theorem lw_p32 : lw_okq (⟨"WornType$Trade", "reachWithoutLeast", "(II)I"⟩, 9) := ⟨⟨by decide +kernel, by decide +kernel⟩, (lw_in2 (List.mem_of_getElem? (i := 132) rfl)), (lw_in6 (List.mem_of_getElem? (i := 144) rfl)), (lw_in6 (List.mem_of_getElem? (i := 145) rfl))⟩
set_option maxRecDepth 100000 in
theorem lw_p33 : lw_okq (⟨"WornType$Trade", "leastOf", "(II)I"⟩, 9) := ⟨⟨by decide +kernel, by decide +kernel⟩, (lw_in2 (List.mem_of_getElem? (i := 132) rfl)), (lw_in6 (List.mem_of_getElem? (i := 155) rfl)), (lw_in6 (List.mem_of_getElem? (i := 156) rfl))⟩
set_option maxRecDepth 100000 in
theorem lw_p34 : lw_okq (⟨"WornType$Trade", "standAtOnce", "(I)Z"⟩, 9) := ⟨⟨by decide +kernel, by decide +kernel⟩, (lw_in2 (List.mem_of_getElem? (i := 132) rfl)), (lw_in6 (List.mem_of_getElem? (i := 190) rfl)), (lw_in6 (List.mem_of_getElem? (i := 191) rfl))⟩
set_option maxRecDepth 100000 in
theorem lw_p35 : lw_okq (⟨"WornTypeModel", "clearsCase", "()V"⟩, 64) := ⟨⟨by decide +kernel, by decide +kernel⟩, (lw_in6 (List.mem_of_getElem? (i := 194) rfl)), (lw_in6 (List.mem_of_getElem? (i := 201) rfl)), (lw_in6 (List.mem_of_getElem? (i := 202) rfl))⟩
set_option maxRecDepth 100000 in
theorem lw_p36 : lw_okq (⟨"WornTypeModel", "takesCase", "()V"⟩, 64) := ⟨⟨by decide +kernel, by decide +kernel⟩, (lw_in6 (List.mem_of_getElem? (i := 194) rfl)), (lw_in6 (List.mem_of_getElem? (i := 205) rfl)), (lw_in6 (List.mem_of_getElem? (i := 206) rfl))⟩
set_option maxRecDepth 100000 in
theorem lw_p37 : lw_okq (⟨"WornTypeModel", "bad", "(ZI)Z"⟩, 64) := ⟨⟨by decide +kernel, by decide +kernel⟩, (lw_in6 (List.mem_of_getElem? (i := 194) rfl)), (lw_in7 (List.mem_of_getElem? (i := 173) rfl)), (lw_in7 (List.mem_of_getElem? (i := 174) rfl))⟩
set_option maxRecDepth 100000 in
theorem lw_p38 : lw_okq (⟨"WornTypeModel", "starts", "(I)V"⟩, 64) := ⟨⟨by decide +kernel, by decide +kernel⟩, (lw_in6 (List.mem_of_getElem? (i := 194) rfl)), (lw_in7 (List.mem_of_getElem? (i := 177) rfl)), (lw_in7 (List.mem_of_getElem? (i := 178) rfl))⟩
set_option maxRecDepth 100000 in
theorem lw_p39 : lw_okq (⟨"WornTypeModel", "blanks", "()V"⟩, 64) := ⟨⟨by decide +kernel, by decide +kernel⟩, (lw_in6 (List.mem_of_getElem? (i := 194) rfl)), (lw_in7 (List.mem_of_getElem? (i := 181) rfl)), (lw_in7 (List.mem_of_getElem? (i := 182) rfl))⟩
set_option maxRecDepth 100000 in
theorem lw_p40 : lw_okq (⟨"WornTypeModel", "byteAt", "(I)I"⟩, 64) := ⟨⟨by decide +kernel, by decide +kernel⟩, (lw_in6 (List.mem_of_getElem? (i := 194) rfl)), (lw_in7 (List.mem_of_getElem? (i := 185) rfl)), (lw_in7 (List.mem_of_getElem? (i := 186) rfl))⟩
set_option maxRecDepth 100000 in
theorem lw_p41 : lw_okq (⟨"WornTypeModel", "clause", "()V"⟩, 64) := ⟨⟨by decide +kernel, by decide +kernel⟩, (lw_in6 (List.mem_of_getElem? (i := 194) rfl)), (lw_in7 (List.mem_of_getElem? (i := 189) rfl)), (lw_in7 (List.mem_of_getElem? (i := 190) rfl))⟩
set_option maxRecDepth 100000 in
theorem lw_p42 : lw_okq (⟨"WornTypeModel", "isWord", "(I)Z"⟩, 64) := ⟨⟨by decide +kernel, by decide +kernel⟩, (lw_in6 (List.mem_of_getElem? (i := 194) rfl)), (lw_in7 (List.mem_of_getElem? (i := 196) rfl)), (lw_in7 (List.mem_of_getElem? (i := 197) rfl))⟩
set_option maxRecDepth 100000 in
theorem lw_p43 : lw_okq (⟨"WornTypeModel", "lettersHere", "()I"⟩, 64) := ⟨⟨by decide +kernel, by decide +kernel⟩, (lw_in6 (List.mem_of_getElem? (i := 194) rfl)), (lw_in7 (List.mem_of_getElem? (i := 200) rfl)), (lw_in7 (List.mem_of_getElem? (i := 201) rfl))⟩
set_option maxRecDepth 100000 in
theorem lw_p44 : lw_okq (⟨"WornTypeModel", "wrong", "(II)V"⟩, 64) := ⟨⟨by decide +kernel, by decide +kernel⟩, (lw_in6 (List.mem_of_getElem? (i := 194) rfl)), (lw_in7 (List.mem_of_getElem? (i := 207) rfl)), (lw_in7 (List.mem_of_getElem? (i := 208) rfl))⟩
set_option maxRecDepth 100000 in
theorem lw_p45 : lw_okq (⟨"WornTypeModel", "pieces", "([I[I)V"⟩, 64) := ⟨⟨by decide +kernel, by decide +kernel⟩, (lw_in6 (List.mem_of_getElem? (i := 194) rfl)), (lw_in7 (List.mem_of_getElem? (i := 211) rfl)), (lw_in7 (List.mem_of_getElem? (i := 212) rfl))⟩
set_option maxRecDepth 100000 in
theorem lw_p46 : lw_okq (⟨"WornTypeModel", "letterHere", "()I"⟩, 64) := ⟨⟨by decide +kernel, by decide +kernel⟩, (lw_in6 (List.mem_of_getElem? (i := 194) rfl)), (lw_in7 (List.mem_of_getElem? (i := 215) rfl)), (lw_in7 (List.mem_of_getElem? (i := 216) rfl))⟩
set_option maxRecDepth 100000 in
theorem lw_p47 : lw_okq (⟨"WornTypeModel", "number", "(II)I"⟩, 64) := ⟨⟨by decide +kernel, by decide +kernel⟩, (lw_in6 (List.mem_of_getElem? (i := 194) rfl)), (lw_in7 (List.mem_of_getElem? (i := 219) rfl)), (lw_in7 (List.mem_of_getElem? (i := 220) rfl))⟩
def lw_privs_3 : List (MethodName × Nat) := [(⟨"WornType$Trade", "reachWithoutLeast", "(II)I"⟩, 9), (⟨"WornType$Trade", "leastOf", "(II)I"⟩, 9), (⟨"WornType$Trade", "standAtOnce", "(I)Z"⟩, 9), (⟨"WornTypeModel", "clearsCase", "()V"⟩, 64), (⟨"WornTypeModel", "takesCase", "()V"⟩, 64), (⟨"WornTypeModel", "bad", "(ZI)Z"⟩, 64), (⟨"WornTypeModel", "starts", "(I)V"⟩, 64), (⟨"WornTypeModel", "blanks", "()V"⟩, 64), (⟨"WornTypeModel", "byteAt", "(I)I"⟩, 64), (⟨"WornTypeModel", "clause", "()V"⟩, 64), (⟨"WornTypeModel", "isWord", "(I)Z"⟩, 64), (⟨"WornTypeModel", "lettersHere", "()I"⟩, 64), (⟨"WornTypeModel", "wrong", "(II)V"⟩, 64), (⟨"WornTypeModel", "pieces", "([I[I)V"⟩, 64), (⟨"WornTypeModel", "letterHere", "()I"⟩, 64), (⟨"WornTypeModel", "number", "(II)I"⟩, 64)]
theorem lw_r3 : ∀ q ∈ lw_privs_3, lw_okq q := List.forall_mem_cons.mpr ⟨lw_p32, List.forall_mem_cons.mpr ⟨lw_p33, List.forall_mem_cons.mpr ⟨lw_p34, List.forall_mem_cons.mpr ⟨lw_p35, List.forall_mem_cons.mpr ⟨lw_p36, List.forall_mem_cons.mpr ⟨lw_p37, List.forall_mem_cons.mpr ⟨lw_p38, List.forall_mem_cons.mpr ⟨lw_p39, List.forall_mem_cons.mpr ⟨lw_p40, List.forall_mem_cons.mpr ⟨lw_p41, List.forall_mem_cons.mpr ⟨lw_p42, List.forall_mem_cons.mpr ⟨lw_p43, List.forall_mem_cons.mpr ⟨lw_p44, List.forall_mem_cons.mpr ⟨lw_p45, List.forall_mem_cons.mpr ⟨lw_p46, List.forall_mem_cons.mpr ⟨lw_p47, fun _ h => absurd h List.not_mem_nil⟩⟩⟩⟩⟩⟩⟩⟩⟩⟩⟩⟩⟩⟩⟩⟩
set_option maxRecDepth 100000 in
theorem lw_p48 : lw_okq (⟨"WornTypeModel", "closes", "(I)V"⟩, 64) := ⟨⟨by decide +kernel, by decide +kernel⟩, (lw_in6 (List.mem_of_getElem? (i := 194) rfl)), (lw_in7 (List.mem_of_getElem? (i := 230) rfl)), (lw_in7 (List.mem_of_getElem? (i := 231) rfl))⟩
set_option maxRecDepth 100000 in
theorem lw_p49 : lw_okq (⟨"WornTypeModel", "allPieces", "()I"⟩, 64) := ⟨⟨by decide +kernel, by decide +kernel⟩, (lw_in6 (List.mem_of_getElem? (i := 194) rfl)), (lw_in7 (List.mem_of_getElem? (i := 234) rfl)), (lw_in7 (List.mem_of_getElem? (i := 235) rfl))⟩
set_option maxRecDepth 100000 in
theorem lw_p50 : lw_okq (⟨"WornTypeModel", "reads", "(I)V"⟩, 64) := ⟨⟨by decide +kernel, by decide +kernel⟩, (lw_in6 (List.mem_of_getElem? (i := 194) rfl)), (lw_in8 (List.mem_of_getElem? (i := 2) rfl)), (lw_in8 (List.mem_of_getElem? (i := 3) rfl))⟩
set_option maxRecDepth 100000 in
theorem lw_p51 : lw_okq (⟨"WornTypeModel", "wordOf", "(I[[I[II)I"⟩, 64) := ⟨⟨by decide +kernel, by decide +kernel⟩, (lw_in6 (List.mem_of_getElem? (i := 194) rfl)), (lw_in8 (List.mem_of_getElem? (i := 6) rfl)), (lw_in8 (List.mem_of_getElem? (i := 7) rfl))⟩
set_option maxRecDepth 100000 in
theorem lw_p52 : lw_okq (⟨"WornTypeModel", "takesApart", "(I)V"⟩, 64) := ⟨⟨by decide +kernel, by decide +kernel⟩, (lw_in6 (List.mem_of_getElem? (i := 194) rfl)), (lw_in8 (List.mem_of_getElem? (i := 10) rfl)), (lw_in8 (List.mem_of_getElem? (i := 11) rfl))⟩
set_option maxRecDepth 100000 in
theorem lw_p53 : lw_okq (⟨"WornTypeModel", "standing", "()I"⟩, 64) := ⟨⟨by decide +kernel, by decide +kernel⟩, (lw_in6 (List.mem_of_getElem? (i := 194) rfl)), (lw_in8 (List.mem_of_getElem? (i := 26) rfl)), (lw_in8 (List.mem_of_getElem? (i := 27) rfl))⟩
set_option maxRecDepth 100000 in
theorem lw_p54 : lw_okq (⟨"WornTypeModel", "isWordNumber", "(I)Z"⟩, 64) := ⟨⟨by decide +kernel, by decide +kernel⟩, (lw_in6 (List.mem_of_getElem? (i := 194) rfl)), (lw_in8 (List.mem_of_getElem? (i := 45) rfl)), (lw_in8 (List.mem_of_getElem? (i := 46) rfl))⟩
set_option maxRecDepth 100000 in
theorem lw_p55 : lw_okq (⟨"WornTypeModel", "priceOf", "(I)I"⟩, 64) := ⟨⟨by decide +kernel, by decide +kernel⟩, (lw_in6 (List.mem_of_getElem? (i := 194) rfl)), (lw_in8 (List.mem_of_getElem? (i := 49) rfl)), (lw_in8 (List.mem_of_getElem? (i := 50) rfl))⟩
set_option maxRecDepth 100000 in
theorem lw_p56 : lw_okq (⟨"WornTypeModel", "canWord", "(I)I"⟩, 64) := ⟨⟨by decide +kernel, by decide +kernel⟩, (lw_in6 (List.mem_of_getElem? (i := 194) rfl)), (lw_in8 (List.mem_of_getElem? (i := 53) rfl)), (lw_in8 (List.mem_of_getElem? (i := 54) rfl))⟩
set_option maxRecDepth 100000 in
theorem lw_p57 : lw_okq (⟨"WornTypeModel", "needsNone", "()V"⟩, 64) := ⟨⟨by decide +kernel, by decide +kernel⟩, (lw_in6 (List.mem_of_getElem? (i := 194) rfl)), (lw_in8 (List.mem_of_getElem? (i := 57) rfl)), (lw_in8 (List.mem_of_getElem? (i := 58) rfl))⟩
set_option maxRecDepth 100000 in
theorem lw_p58 : lw_okq (⟨"WornTypeModel", "needsWord", "(I)V"⟩, 64) := ⟨⟨by decide +kernel, by decide +kernel⟩, (lw_in6 (List.mem_of_getElem? (i := 194) rfl)), (lw_in8 (List.mem_of_getElem? (i := 61) rfl)), (lw_in8 (List.mem_of_getElem? (i := 62) rfl))⟩
set_option maxRecDepth 100000 in
theorem lw_p59 : lw_okq (⟨"WornTypeModel", "often", "()I"⟩, 64) := ⟨⟨by decide +kernel, by decide +kernel⟩, (lw_in6 (List.mem_of_getElem? (i := 194) rfl)), (lw_in8 (List.mem_of_getElem? (i := 65) rfl)), (lw_in8 (List.mem_of_getElem? (i := 66) rfl))⟩
set_option maxRecDepth 100000 in
theorem lw_p60 : lw_okq (⟨"WornTypeModel", "lacking", "(I)I"⟩, 64) := ⟨⟨by decide +kernel, by decide +kernel⟩, (lw_in6 (List.mem_of_getElem? (i := 194) rfl)), (lw_in8 (List.mem_of_getElem? (i := 69) rfl)), (lw_in8 (List.mem_of_getElem? (i := 70) rfl))⟩
set_option maxRecDepth 100000 in
theorem lw_p61 : lw_okq (⟨"WornTypeModel", "goodFor", "(II)I"⟩, 64) := ⟨⟨by decide +kernel, by decide +kernel⟩, (lw_in6 (List.mem_of_getElem? (i := 194) rfl)), (lw_in8 (List.mem_of_getElem? (i := 73) rfl)), (lw_in8 (List.mem_of_getElem? (i := 74) rfl))⟩
set_option maxRecDepth 100000 in
theorem lw_p62 : lw_okq (⟨"WornTypeModel", "isText", "(I)Z"⟩, 64) := ⟨⟨by decide +kernel, by decide +kernel⟩, (lw_in6 (List.mem_of_getElem? (i := 194) rfl)), (lw_in8 (List.mem_of_getElem? (i := 81) rfl)), (lw_in8 (List.mem_of_getElem? (i := 82) rfl))⟩
set_option maxRecDepth 100000 in
theorem lw_p63 : lw_okq (⟨"WornTypeModel", "needsText", "(I)V"⟩, 64) := ⟨⟨by decide +kernel, by decide +kernel⟩, (lw_in6 (List.mem_of_getElem? (i := 194) rfl)), (lw_in8 (List.mem_of_getElem? (i := 89) rfl)), (lw_in8 (List.mem_of_getElem? (i := 90) rfl))⟩
def lw_privs_4 : List (MethodName × Nat) := [(⟨"WornTypeModel", "closes", "(I)V"⟩, 64), (⟨"WornTypeModel", "allPieces", "()I"⟩, 64), (⟨"WornTypeModel", "reads", "(I)V"⟩, 64), (⟨"WornTypeModel", "wordOf", "(I[[I[II)I"⟩, 64), (⟨"WornTypeModel", "takesApart", "(I)V"⟩, 64), (⟨"WornTypeModel", "standing", "()I"⟩, 64), (⟨"WornTypeModel", "isWordNumber", "(I)Z"⟩, 64), (⟨"WornTypeModel", "priceOf", "(I)I"⟩, 64), (⟨"WornTypeModel", "canWord", "(I)I"⟩, 64), (⟨"WornTypeModel", "needsNone", "()V"⟩, 64), (⟨"WornTypeModel", "needsWord", "(I)V"⟩, 64), (⟨"WornTypeModel", "often", "()I"⟩, 64), (⟨"WornTypeModel", "lacking", "(I)I"⟩, 64), (⟨"WornTypeModel", "goodFor", "(II)I"⟩, 64), (⟨"WornTypeModel", "isText", "(I)Z"⟩, 64), (⟨"WornTypeModel", "needsText", "(I)V"⟩, 64)]
theorem lw_r4 : ∀ q ∈ lw_privs_4, lw_okq q := List.forall_mem_cons.mpr ⟨lw_p48, List.forall_mem_cons.mpr ⟨lw_p49, List.forall_mem_cons.mpr ⟨lw_p50, List.forall_mem_cons.mpr ⟨lw_p51, List.forall_mem_cons.mpr ⟨lw_p52, List.forall_mem_cons.mpr ⟨lw_p53, List.forall_mem_cons.mpr ⟨lw_p54, List.forall_mem_cons.mpr ⟨lw_p55, List.forall_mem_cons.mpr ⟨lw_p56, List.forall_mem_cons.mpr ⟨lw_p57, List.forall_mem_cons.mpr ⟨lw_p58, List.forall_mem_cons.mpr ⟨lw_p59, List.forall_mem_cons.mpr ⟨lw_p60, List.forall_mem_cons.mpr ⟨lw_p61, List.forall_mem_cons.mpr ⟨lw_p62, List.forall_mem_cons.mpr ⟨lw_p63, fun _ h => absurd h List.not_mem_nil⟩⟩⟩⟩⟩⟩⟩⟩⟩⟩⟩⟩⟩⟩⟩⟩
set_option maxRecDepth 100000 in
theorem lw_p64 : lw_okq (⟨"WornTypeModel", "takes", "(II)Z"⟩, 64) := ⟨⟨by decide +kernel, by decide +kernel⟩, (lw_in6 (List.mem_of_getElem? (i := 194) rfl)), (lw_in8 (List.mem_of_getElem? (i := 112) rfl)), (lw_in8 (List.mem_of_getElem? (i := 113) rfl))⟩
set_option maxRecDepth 100000 in
theorem lw_p65 : lw_okq (⟨"WornTypeModel", "nextPiece", "(II)I"⟩, 64) := ⟨⟨by decide +kernel, by decide +kernel⟩, (lw_in6 (List.mem_of_getElem? (i := 194) rfl)), (lw_in8 (List.mem_of_getElem? (i := 116) rfl)), (lw_in8 (List.mem_of_getElem? (i := 117) rfl))⟩
set_option maxRecDepth 100000 in
theorem lw_p66 : lw_okq (⟨"WornTypeModel", "isPage", "(I)Z"⟩, 64) := ⟨⟨by decide +kernel, by decide +kernel⟩, (lw_in6 (List.mem_of_getElem? (i := 194) rfl)), (lw_in8 (List.mem_of_getElem? (i := 124) rfl)), (lw_in8 (List.mem_of_getElem? (i := 125) rfl))⟩
set_option maxRecDepth 100000 in
theorem lw_p67 : lw_okq (⟨"WornTypeModel", "leastOf", "(I)I"⟩, 64) := ⟨⟨by decide +kernel, by decide +kernel⟩, (lw_in6 (List.mem_of_getElem? (i := 194) rfl)), (lw_in8 (List.mem_of_getElem? (i := 128) rfl)), (lw_in8 (List.mem_of_getElem? (i := 129) rfl))⟩
set_option maxRecDepth 100000 in
theorem lw_p68 : lw_okq (⟨"WornTypeModel", "readOf", "(II)I"⟩, 64) := ⟨⟨by decide +kernel, by decide +kernel⟩, (lw_in6 (List.mem_of_getElem? (i := 194) rfl)), (lw_in8 (List.mem_of_getElem? (i := 140) rfl)), (lw_in8 (List.mem_of_getElem? (i := 141) rfl))⟩
set_option maxRecDepth 100000 in
theorem lw_p69 : lw_okq (⟨"WornTypeModel", "pieceOn", "(III)I"⟩, 64) := ⟨⟨by decide +kernel, by decide +kernel⟩, (lw_in6 (List.mem_of_getElem? (i := 194) rfl)), (lw_in8 (List.mem_of_getElem? (i := 144) rfl)), (lw_in8 (List.mem_of_getElem? (i := 145) rfl))⟩
set_option maxRecDepth 100000 in
theorem lw_p70 : lw_okq (⟨"WornTypeModel", "laysRests", "(I)V"⟩, 64) := ⟨⟨by decide +kernel, by decide +kernel⟩, (lw_in6 (List.mem_of_getElem? (i := 194) rfl)), (lw_in8 (List.mem_of_getElem? (i := 156) rfl)), (lw_in8 (List.mem_of_getElem? (i := 157) rfl))⟩
set_option maxRecDepth 100000 in
theorem lw_p71 : lw_okq (⟨"WornTypeModel", "isOf", "(III)Z"⟩, 64) := ⟨⟨by decide +kernel, by decide +kernel⟩, (lw_in6 (List.mem_of_getElem? (i := 194) rfl)), (lw_in8 (List.mem_of_getElem? (i := 160) rfl)), (lw_in8 (List.mem_of_getElem? (i := 161) rfl))⟩
set_option maxRecDepth 100000 in
theorem lw_p72 : lw_okq (⟨"WornTypeModel", "mayFollow", "(II)Z"⟩, 64) := ⟨⟨by decide +kernel, by decide +kernel⟩, (lw_in6 (List.mem_of_getElem? (i := 194) rfl)), (lw_in8 (List.mem_of_getElem? (i := 164) rfl)), (lw_in8 (List.mem_of_getElem? (i := 165) rfl))⟩
set_option maxRecDepth 100000 in
theorem lw_p73 : lw_okq (⟨"WornTypeModel", "tries", "(IIII)V"⟩, 64) := ⟨⟨by decide +kernel, by decide +kernel⟩, (lw_in6 (List.mem_of_getElem? (i := 194) rfl)), (lw_in8 (List.mem_of_getElem? (i := 173) rfl)), (lw_in8 (List.mem_of_getElem? (i := 174) rfl))⟩
set_option maxRecDepth 100000 in
theorem lw_p74 : lw_okq (⟨"WornTypeModel", "puts", "()V"⟩, 64) := ⟨⟨by decide +kernel, by decide +kernel⟩, (lw_in6 (List.mem_of_getElem? (i := 194) rfl)), (lw_in8 (List.mem_of_getElem? (i := 193) rfl)), (lw_in8 (List.mem_of_getElem? (i := 194) rfl))⟩
set_option maxRecDepth 100000 in
theorem lw_p75 : lw_okq (⟨"WornTypeModel", "prints", "(IZI)I"⟩, 64) := ⟨⟨by decide +kernel, by decide +kernel⟩, (lw_in6 (List.mem_of_getElem? (i := 194) rfl)), (lw_in8 (List.mem_of_getElem? (i := 197) rfl)), (lw_in8 (List.mem_of_getElem? (i := 198) rfl))⟩
set_option maxRecDepth 100000 in
theorem lw_p76 : lw_okq (⟨"WornTypeModel", "isPrinted", "(I)Z"⟩, 64) := ⟨⟨by decide +kernel, by decide +kernel⟩, (lw_in6 (List.mem_of_getElem? (i := 194) rfl)), (lw_in8 (List.mem_of_getElem? (i := 201) rfl)), (lw_in8 (List.mem_of_getElem? (i := 202) rfl))⟩
set_option maxRecDepth 100000 in
theorem lw_p77 : lw_okq (⟨"WornTypeModel", "putsBack", "()V"⟩, 64) := ⟨⟨by decide +kernel, by decide +kernel⟩, (lw_in6 (List.mem_of_getElem? (i := 194) rfl)), (lw_in8 (List.mem_of_getElem? (i := 205) rfl)), (lw_in8 (List.mem_of_getElem? (i := 206) rfl))⟩
set_option maxRecDepth 100000 in
theorem lw_p78 : lw_okq (⟨"WornTypeModel", "worthOf", "(I)I"⟩, 64) := ⟨⟨by decide +kernel, by decide +kernel⟩, (lw_in6 (List.mem_of_getElem? (i := 194) rfl)), (lw_in8 (List.mem_of_getElem? (i := 209) rfl)), (lw_in8 (List.mem_of_getElem? (i := 210) rfl))⟩
set_option maxRecDepth 100000 in
theorem lw_p79 : lw_okq (⟨"WornTypeModel", "greedyAhead", "(I)I"⟩, 64) := ⟨⟨by decide +kernel, by decide +kernel⟩, (lw_in6 (List.mem_of_getElem? (i := 194) rfl)), (lw_in8 (List.mem_of_getElem? (i := 217) rfl)), (lw_in8 (List.mem_of_getElem? (i := 218) rfl))⟩
def lw_privs_5 : List (MethodName × Nat) := [(⟨"WornTypeModel", "takes", "(II)Z"⟩, 64), (⟨"WornTypeModel", "nextPiece", "(II)I"⟩, 64), (⟨"WornTypeModel", "isPage", "(I)Z"⟩, 64), (⟨"WornTypeModel", "leastOf", "(I)I"⟩, 64), (⟨"WornTypeModel", "readOf", "(II)I"⟩, 64), (⟨"WornTypeModel", "pieceOn", "(III)I"⟩, 64), (⟨"WornTypeModel", "laysRests", "(I)V"⟩, 64), (⟨"WornTypeModel", "isOf", "(III)Z"⟩, 64), (⟨"WornTypeModel", "mayFollow", "(II)Z"⟩, 64), (⟨"WornTypeModel", "tries", "(IIII)V"⟩, 64), (⟨"WornTypeModel", "puts", "()V"⟩, 64), (⟨"WornTypeModel", "prints", "(IZI)I"⟩, 64), (⟨"WornTypeModel", "isPrinted", "(I)Z"⟩, 64), (⟨"WornTypeModel", "putsBack", "()V"⟩, 64), (⟨"WornTypeModel", "worthOf", "(I)I"⟩, 64), (⟨"WornTypeModel", "greedyAhead", "(I)I"⟩, 64)]
theorem lw_r5 : ∀ q ∈ lw_privs_5, lw_okq q := List.forall_mem_cons.mpr ⟨lw_p64, List.forall_mem_cons.mpr ⟨lw_p65, List.forall_mem_cons.mpr ⟨lw_p66, List.forall_mem_cons.mpr ⟨lw_p67, List.forall_mem_cons.mpr ⟨lw_p68, List.forall_mem_cons.mpr ⟨lw_p69, List.forall_mem_cons.mpr ⟨lw_p70, List.forall_mem_cons.mpr ⟨lw_p71, List.forall_mem_cons.mpr ⟨lw_p72, List.forall_mem_cons.mpr ⟨lw_p73, List.forall_mem_cons.mpr ⟨lw_p74, List.forall_mem_cons.mpr ⟨lw_p75, List.forall_mem_cons.mpr ⟨lw_p76, List.forall_mem_cons.mpr ⟨lw_p77, List.forall_mem_cons.mpr ⟨lw_p78, List.forall_mem_cons.mpr ⟨lw_p79, fun _ h => absurd h List.not_mem_nil⟩⟩⟩⟩⟩⟩⟩⟩⟩⟩⟩⟩⟩⟩⟩⟩
set_option maxRecDepth 100000 in
theorem lw_p80 : lw_okq (⟨"WornTypeModel", "boundOf", "(I)I"⟩, 64) := ⟨⟨by decide +kernel, by decide +kernel⟩, (lw_in6 (List.mem_of_getElem? (i := 194) rfl)), (lw_in8 (List.mem_of_getElem? (i := 225) rfl)), (lw_in8 (List.mem_of_getElem? (i := 226) rfl))⟩
set_option maxRecDepth 100000 in
theorem lw_p81 : lw_okq (⟨"WornTypeModel", "withOne", "(II)I"⟩, 64) := ⟨⟨by decide +kernel, by decide +kernel⟩, (lw_in6 (List.mem_of_getElem? (i := 194) rfl)), (lw_in9 (List.mem_of_getElem? (i := 8) rfl)), (lw_in9 (List.mem_of_getElem? (i := 9) rfl))⟩
set_option maxRecDepth 100000 in
theorem lw_p82 : lw_okq (⟨"WornTypeModel", "movesAll", "([IZ)V"⟩, 64) := ⟨⟨by decide +kernel, by decide +kernel⟩, (lw_in6 (List.mem_of_getElem? (i := 194) rfl)), (lw_in9 (List.mem_of_getElem? (i := 27) rfl)), (lw_in9 (List.mem_of_getElem? (i := 28) rfl))⟩
set_option maxRecDepth 100000 in
theorem lw_p83 : lw_okq (⟨"WornTypeModel", "moves", "([IIZ)I"⟩, 64) := ⟨⟨by decide +kernel, by decide +kernel⟩, (lw_in6 (List.mem_of_getElem? (i := 194) rfl)), (lw_in9 (List.mem_of_getElem? (i := 31) rfl)), (lw_in9 (List.mem_of_getElem? (i := 32) rfl))⟩
def lw_privs_6 : List (MethodName × Nat) := [(⟨"WornTypeModel", "boundOf", "(I)I"⟩, 64), (⟨"WornTypeModel", "withOne", "(II)I"⟩, 64), (⟨"WornTypeModel", "movesAll", "([IZ)V"⟩, 64), (⟨"WornTypeModel", "moves", "([IIZ)I"⟩, 64)]
theorem lw_r6 : ∀ q ∈ lw_privs_6, lw_okq q := List.forall_mem_cons.mpr ⟨lw_p80, List.forall_mem_cons.mpr ⟨lw_p81, List.forall_mem_cons.mpr ⟨lw_p82, List.forall_mem_cons.mpr ⟨lw_p83, fun _ h => absurd h List.not_mem_nil⟩⟩⟩⟩
def lw_privs : List (MethodName × Nat) := lw_privs_1 ++ (lw_privs_2 ++ (lw_privs_3 ++ (lw_privs_4 ++ (lw_privs_5 ++ (lw_privs_6)))))
def lw_tbl : List Cond := k2_sels lw_privs ++ tables_1
theorem lw_privs_ok : ∀ q ∈ lw_privs, lw_okq q := by
  show ∀ q ∈ lw_privs_1 ++ (lw_privs_2 ++ (lw_privs_3 ++ (lw_privs_4 ++ (lw_privs_5 ++ (lw_privs_6))))), lw_okq q
  exact List.forall_mem_append.mpr ⟨lw_r1, List.forall_mem_append.mpr ⟨lw_r2, List.forall_mem_append.mpr ⟨lw_r3, List.forall_mem_append.mpr ⟨lw_r4, List.forall_mem_append.mpr ⟨lw_r5, lw_r6⟩⟩⟩⟩⟩
