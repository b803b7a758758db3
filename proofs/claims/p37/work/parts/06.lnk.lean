section WTL
abbrev wt_iT (r : Nat) : Nat := r
abbrev wt_y_ap_init : MethodName := ⟨"WornType", "<init>", "()V"⟩
theorem wt_qc0 : plainName "WornType" = true := by decide +kernel
theorem wt_qm0 : "WornType" ≠ "java/lang/invoke/MethodHandle" ∧ "WornType" ≠ "java/lang/invoke/VarHandle" := by decide
theorem wt_qd0 : (parseMethodDescriptor "()V").map (fun d => d.parameters.length) = some 0 := by decide +kernel
set_option maxRecDepth 100000 in
theorem wt_ya_ap_init : wt_Ya wt_y_ap_init prog_1_method_1_code 2 (Option.none : Option Jvm.ClassFile.FieldType) 0 := ⟨⟨wt_qm0.1, wt_qm0.2, wt_qd0⟩, wt_g1 29 rfl rfl, by decide⟩
theorem wt_pl_ap_init : plainName (wt_y_ap_init).cls = true := wt_qc0
abbrev wt_y_ap_apart : MethodName := ⟨"WornType", "apart", "(I)I"⟩
theorem wt_qd1 : (parseMethodDescriptor "(I)I").map (fun d => d.parameters.length) = some 1 := by decide +kernel
set_option maxRecDepth 100000 in
theorem wt_ya_ap_apart : wt_Ya wt_y_ap_apart prog_1_method_18_code 3 (Option.some Jvm.ClassFile.FieldType.int) 1 := ⟨⟨wt_qm0.1, wt_qm0.2, wt_qd1⟩, wt_g5 116 rfl rfl, by decide⟩
theorem wt_pl_ap_apart : plainName (wt_y_ap_apart).cls = true := wt_qc0
abbrev wt_y_ap_at : MethodName := ⟨"WornType", "at", "(II)I"⟩
theorem wt_qd2 : (parseMethodDescriptor "(II)I").map (fun d => d.parameters.length) = some 2 := by decide +kernel
set_option maxRecDepth 100000 in
theorem wt_ya_ap_at : wt_Ya wt_y_ap_at prog_1_method_11_code 3 (Option.some Jvm.ClassFile.FieldType.int) 2 := ⟨⟨wt_qm0.1, wt_qm0.2, wt_qd2⟩, wt_g5 12 rfl rfl, by decide⟩
theorem wt_pl_ap_at : plainName (wt_y_ap_at).cls = true := wt_qc0
abbrev wt_y_ap_bound : MethodName := ⟨"WornType", "bound", "()I"⟩
theorem wt_qd3 : (parseMethodDescriptor "()I").map (fun d => d.parameters.length) = some 0 := by decide +kernel
set_option maxRecDepth 100000 in
theorem wt_ya_ap_bound : wt_Ya wt_y_ap_bound prog_1_method_28_code 1 (Option.some Jvm.ClassFile.FieldType.int) 0 := ⟨⟨wt_qm0.1, wt_qm0.2, wt_qd3⟩, wt_g2 233 rfl rfl, by decide⟩
theorem wt_pl_ap_bound : plainName (wt_y_ap_bound).cls = true := wt_qc0
abbrev wt_y_ap_can : MethodName := ⟨"WornType", "can", "(I)I"⟩
set_option maxRecDepth 100000 in
theorem wt_ya_ap_can : wt_Ya wt_y_ap_can prog_1_method_14_code 2 (Option.some Jvm.ClassFile.FieldType.int) 1 := ⟨⟨wt_qm0.1, wt_qm0.2, wt_qd1⟩, wt_g5 46 rfl rfl, by decide⟩
theorem wt_pl_ap_can : plainName (wt_y_ap_can).cls = true := wt_qc0
abbrev wt_y_ap_cast : MethodName := ⟨"WornType", "cast", "(II)I"⟩
set_option maxRecDepth 100000 in
theorem wt_ya_ap_cast : wt_Ya wt_y_ap_cast prog_1_method_33_code 3 (Option.some Jvm.ClassFile.FieldType.int) 2 := ⟨⟨wt_qm0.1, wt_qm0.2, wt_qd2⟩, wt_g6 166 rfl rfl, by decide⟩
theorem wt_pl_ap_cast : plainName (wt_y_ap_cast).cls = true := wt_qc0
abbrev wt_y_ap_copyRow : MethodName := ⟨"WornType", "copyRow", "([I[I)V"⟩
theorem wt_qd4 : (parseMethodDescriptor "([I[I)V").map (fun d => d.parameters.length) = some 2 := by decide +kernel
set_option maxRecDepth 100000 in
theorem wt_ya_ap_copyRow : wt_Ya wt_y_ap_copyRow prog_1_method_44_code 3 (Option.none : Option Jvm.ClassFile.FieldType) 2 := ⟨⟨wt_qm0.1, wt_qm0.2, wt_qd4⟩, wt_g3 44 rfl rfl, by decide⟩
theorem wt_pl_ap_copyRow : plainName (wt_y_ap_copyRow).cls = true := wt_qc0
abbrev wt_y_ap_count : MethodName := ⟨"WornType", "count", "(I)I"⟩
set_option maxRecDepth 100000 in
theorem wt_ya_ap_count : wt_Ya wt_y_ap_count prog_1_method_37_code 2 (Option.some Jvm.ClassFile.FieldType.int) 1 := ⟨⟨wt_qm0.1, wt_qm0.2, wt_qd1⟩, wt_g3 52 rfl rfl, by decide⟩
theorem wt_pl_ap_count : plainName (wt_y_ap_count).cls = true := wt_qc0
abbrev wt_y_ap_ends : MethodName := ⟨"WornType", "ends", "(I)I"⟩
set_option maxRecDepth 100000 in
theorem wt_ya_ap_ends : wt_Ya wt_y_ap_ends prog_1_method_31_code 2 (Option.some Jvm.ClassFile.FieldType.int) 1 := ⟨⟨wt_qm0.1, wt_qm0.2, wt_qd1⟩, wt_g6 116 rfl rfl, by decide⟩
theorem wt_pl_ap_ends : plainName (wt_y_ap_ends).cls = true := wt_qc0
abbrev wt_y_ap_exchange : MethodName := ⟨"WornType", "exchange", "(I)I"⟩
set_option maxRecDepth 100000 in
theorem wt_ya_ap_exchange : wt_Ya wt_y_ap_exchange prog_1_method_32_code 2 (Option.some Jvm.ClassFile.FieldType.int) 1 := ⟨⟨wt_qm0.1, wt_qm0.2, wt_qd1⟩, wt_g6 127 rfl rfl, by decide⟩
theorem wt_pl_ap_exchange : plainName (wt_y_ap_exchange).cls = true := wt_qc0
abbrev wt_y_ap_fault : MethodName := ⟨"WornType", "fault", "()I"⟩
set_option maxRecDepth 100000 in
theorem wt_ya_ap_fault : wt_Ya wt_y_ap_fault prog_1_method_6_code 1 (Option.some Jvm.ClassFile.FieldType.int) 0 := ⟨⟨wt_qm0.1, wt_qm0.2, wt_qd3⟩, wt_g2 225 rfl rfl, by decide⟩
theorem wt_pl_ap_fault : plainName (wt_y_ap_fault).cls = true := wt_qc0
abbrev wt_y_ap_feed : MethodName := ⟨"WornType", "feed", "(IIIII)I"⟩
theorem wt_qd5 : (parseMethodDescriptor "(IIIII)I").map (fun d => d.parameters.length) = some 5 := by decide +kernel
set_option maxRecDepth 100000 in
theorem wt_ya_ap_feed : wt_Ya wt_y_ap_feed prog_1_method_2_code 6 (Option.some Jvm.ClassFile.FieldType.int) 5 := ⟨⟨wt_qm0.1, wt_qm0.2, wt_qd5⟩, wt_g2 214 rfl rfl, by decide⟩
theorem wt_pl_ap_feed : plainName (wt_y_ap_feed).cls = true := wt_qc0
abbrev wt_y_ap_fillRow : MethodName := ⟨"WornType", "fillRow", "([II)V"⟩
theorem wt_qd6 : (parseMethodDescriptor "([II)V").map (fun d => d.parameters.length) = some 2 := by decide +kernel
set_option maxRecDepth 100000 in
theorem wt_ya_ap_fillRow : wt_Ya wt_y_ap_fillRow prog_1_method_43_code 3 (Option.none : Option Jvm.ClassFile.FieldType) 2 := ⟨⟨wt_qm0.1, wt_qm0.2, wt_qd6⟩, wt_g1 82 rfl rfl, by decide⟩
theorem wt_pl_ap_fillRow : plainName (wt_y_ap_fillRow).cls = true := wt_qc0
abbrev wt_y_ap_fitting : MethodName := ⟨"WornType", "fitting", "(IIII)I"⟩
theorem wt_qd7 : (parseMethodDescriptor "(IIII)I").map (fun d => d.parameters.length) = some 4 := by decide +kernel
set_option maxRecDepth 100000 in
theorem wt_ya_ap_fitting : wt_Ya wt_y_ap_fitting prog_1_method_22_code 5 (Option.some Jvm.ClassFile.FieldType.int) 4 := ⟨⟨wt_qm0.1, wt_qm0.2, wt_qd7⟩, wt_g5 224 rfl rfl, by decide⟩
theorem wt_pl_ap_fitting : plainName (wt_y_ap_fitting).cls = true := wt_qc0
abbrev wt_y_ap_forget : MethodName := ⟨"WornType", "forget", "()I"⟩
set_option maxRecDepth 100000 in
theorem wt_ya_ap_forget : wt_Ya wt_y_ap_forget prog_1_method_25_code 2 (Option.some Jvm.ClassFile.FieldType.int) 0 := ⟨⟨wt_qm0.1, wt_qm0.2, wt_qd3⟩, wt_g2 229 rfl rfl, by decide⟩
theorem wt_pl_ap_forget : plainName (wt_y_ap_forget).cls = true := wt_qc0
abbrev wt_y_ap_greedy : MethodName := ⟨"WornType", "greedy", "(I)I"⟩
set_option maxRecDepth 100000 in
theorem wt_ya_ap_greedy : wt_Ya wt_y_ap_greedy prog_1_method_27_code 2 (Option.some Jvm.ClassFile.FieldType.int) 1 := ⟨⟨wt_qm0.1, wt_qm0.2, wt_qd1⟩, wt_g6 72 rfl rfl, by decide⟩
theorem wt_pl_ap_greedy : plainName (wt_y_ap_greedy).cls = true := wt_qc0
abbrev wt_y_ap_habit : MethodName := ⟨"WornType", "habit", "(I)I"⟩
set_option maxRecDepth 100000 in
theorem wt_ya_ap_habit : wt_Ya wt_y_ap_habit prog_1_method_13_code 3 (Option.some Jvm.ClassFile.FieldType.int) 1 := ⟨⟨wt_qm0.1, wt_qm0.2, wt_qd1⟩, wt_g5 39 rfl rfl, by decide⟩
theorem wt_pl_ap_habit : plainName (wt_y_ap_habit).cls = true := wt_qc0
abbrev wt_y_ap_image : MethodName := ⟨"WornType", "image", "()I"⟩
set_option maxRecDepth 100000 in
theorem wt_ya_ap_image : wt_Ya wt_y_ap_image prog_1_method_35_code 1 (Option.some Jvm.ClassFile.FieldType.int) 0 := ⟨⟨wt_qm0.1, wt_qm0.2, wt_qd3⟩, wt_g3 37 rfl rfl, by decide⟩
theorem wt_pl_ap_image : plainName (wt_y_ap_image).cls = true := wt_qc0
abbrev wt_y_ap_kase : MethodName := ⟨"WornType", "kase", "(I)I"⟩
set_option maxRecDepth 100000 in
theorem wt_ya_ap_kase : wt_Ya wt_y_ap_kase prog_1_method_3_code 2 (Option.some Jvm.ClassFile.FieldType.int) 1 := ⟨⟨wt_qm0.1, wt_qm0.2, wt_qd1⟩, wt_g3 60 rfl rfl, by decide⟩
theorem wt_pl_ap_kase : plainName (wt_y_ap_kase).cls = true := wt_qc0
abbrev wt_y_ap_lacks : MethodName := ⟨"WornType", "lacks", "(II)I"⟩
set_option maxRecDepth 100000 in
theorem wt_ya_ap_lacks : wt_Ya wt_y_ap_lacks prog_1_method_15_code 3 (Option.some Jvm.ClassFile.FieldType.int) 2 := ⟨⟨wt_qm0.1, wt_qm0.2, wt_qd2⟩, wt_g5 58 rfl rfl, by decide⟩
theorem wt_pl_ap_lacks : plainName (wt_y_ap_lacks).cls = true := wt_qc0
abbrev wt_y_ap_least : MethodName := ⟨"WornType", "least", "(III)I"⟩
theorem wt_qd8 : (parseMethodDescriptor "(III)I").map (fun d => d.parameters.length) = some 3 := by decide +kernel
set_option maxRecDepth 100000 in
theorem wt_ya_ap_least : wt_Ya wt_y_ap_least prog_1_method_21_code 4 (Option.some Jvm.ClassFile.FieldType.int) 3 := ⟨⟨wt_qm0.1, wt_qm0.2, wt_qd8⟩, wt_g5 176 rfl rfl, by decide⟩
theorem wt_pl_ap_least : plainName (wt_y_ap_least).cls = true := wt_qc0
abbrev wt_y_ap_letter : MethodName := ⟨"WornType", "letter", "(II)I"⟩
set_option maxRecDepth 100000 in
theorem wt_ya_ap_letter : wt_Ya wt_y_ap_letter prog_1_method_8_code 3 (Option.some Jvm.ClassFile.FieldType.int) 2 := ⟨⟨wt_qm0.1, wt_qm0.2, wt_qd2⟩, wt_g4 141 rfl rfl, by decide⟩
theorem wt_pl_ap_letter : plainName (wt_y_ap_letter).cls = true := wt_qc0
abbrev wt_y_ap_look : MethodName := ⟨"WornType", "look", "([II)I"⟩
theorem wt_qd9 : (parseMethodDescriptor "([II)I").map (fun d => d.parameters.length) = some 2 := by decide +kernel
set_option maxRecDepth 100000 in
theorem wt_ya_ap_look : wt_Ya wt_y_ap_look prog_1_method_41_code 2 (Option.some Jvm.ClassFile.FieldType.int) 2 := ⟨⟨wt_qm0.1, wt_qm0.2, wt_qd9⟩, wt_g3 12 rfl rfl, by decide⟩
theorem wt_pl_ap_look : plainName (wt_y_ap_look).cls = true := wt_qc0
abbrev wt_y_ap_lost : MethodName := ⟨"WornType", "lost", "(I)I"⟩
set_option maxRecDepth 100000 in
theorem wt_ya_ap_lost : wt_Ya wt_y_ap_lost prog_1_method_30_code 2 (Option.some Jvm.ClassFile.FieldType.int) 1 := ⟨⟨wt_qm0.1, wt_qm0.2, wt_qd1⟩, wt_g6 104 rfl rfl, by decide⟩
theorem wt_pl_ap_lost : plainName (wt_y_ap_lost).cls = true := wt_qc0
abbrev wt_y_ap_miss : MethodName := ⟨"WornType", "miss", "(Z)V"⟩
theorem wt_qd10 : (parseMethodDescriptor "(Z)V").map (fun d => d.parameters.length) = some 1 := by decide +kernel
set_option maxRecDepth 100000 in
theorem wt_ya_ap_miss : wt_Ya wt_y_ap_miss prog_1_method_40_code 1 (Option.none : Option Jvm.ClassFile.FieldType) 1 := ⟨⟨wt_qm0.1, wt_qm0.2, wt_qd10⟩, wt_g4 206 rfl rfl, by decide⟩
theorem wt_pl_ap_miss : plainName (wt_y_ap_miss).cls = true := wt_qc0
abbrev wt_y_ap_most : MethodName := ⟨"WornType", "most", "(I)I"⟩
set_option maxRecDepth 100000 in
theorem wt_ya_ap_most : wt_Ya wt_y_ap_most prog_1_method_26_code 2 (Option.some Jvm.ClassFile.FieldType.int) 1 := ⟨⟨wt_qm0.1, wt_qm0.2, wt_qd1⟩, wt_g6 36 rfl rfl, by decide⟩
theorem wt_pl_ap_most : plainName (wt_y_ap_most).cls = true := wt_qc0
abbrev wt_y_ap_needs : MethodName := ⟨"WornType", "needs", "(II)I"⟩
set_option maxRecDepth 100000 in
theorem wt_ya_ap_needs : wt_Ya wt_y_ap_needs prog_1_method_12_code 3 (Option.some Jvm.ClassFile.FieldType.int) 2 := ⟨⟨wt_qm0.1, wt_qm0.2, wt_qd2⟩, wt_g5 31 rfl rfl, by decide⟩
theorem wt_pl_ap_needs : plainName (wt_y_ap_needs).cls = true := wt_qc0
abbrev wt_y_ap_page : MethodName := ⟨"WornType", "page", "(II)I"⟩
set_option maxRecDepth 100000 in
theorem wt_ya_ap_page : wt_Ya wt_y_ap_page prog_1_method_19_code 3 (Option.some Jvm.ClassFile.FieldType.int) 2 := ⟨⟨wt_qm0.1, wt_qm0.2, wt_qd2⟩, wt_g5 132 rfl rfl, by decide⟩
theorem wt_pl_ap_page : plainName (wt_y_ap_page).cls = true := wt_qc0
abbrev wt_y_ap_piece : MethodName := ⟨"WornType", "piece", "(III)I"⟩
set_option maxRecDepth 100000 in
theorem wt_ya_ap_piece : wt_Ya wt_y_ap_piece prog_1_method_9_code 4 (Option.some Jvm.ClassFile.FieldType.int) 3 := ⟨⟨wt_qm0.1, wt_qm0.2, wt_qd8⟩, wt_g4 175 rfl rfl, by decide⟩
theorem wt_pl_ap_piece : plainName (wt_y_ap_piece).cls = true := wt_qc0
abbrev wt_y_ap_print : MethodName := ⟨"WornType", "print", "(II)I"⟩
set_option maxRecDepth 100000 in
theorem wt_ya_ap_print : wt_Ya wt_y_ap_print prog_1_method_17_code 3 (Option.some Jvm.ClassFile.FieldType.int) 2 := ⟨⟨wt_qm0.1, wt_qm0.2, wt_qd2⟩, wt_g5 98 rfl rfl, by decide⟩
theorem wt_pl_ap_print : plainName (wt_y_ap_print).cls = true := wt_qc0
abbrev wt_y_ap_put : MethodName := ⟨"WornType", "put", "([III)V"⟩
theorem wt_qd11 : (parseMethodDescriptor "([III)V").map (fun d => d.parameters.length) = some 3 := by decide +kernel
set_option maxRecDepth 100000 in
theorem wt_ya_ap_put : wt_Ya wt_y_ap_put prog_1_method_42_code 3 (Option.none : Option Jvm.ClassFile.FieldType) 3 := ⟨⟨wt_qm0.1, wt_qm0.2, wt_qd11⟩, wt_g2 221 rfl rfl, by decide⟩
theorem wt_pl_ap_put : plainName (wt_y_ap_put).cls = true := wt_qc0
abbrev wt_y_ap_read : MethodName := ⟨"WornType", "read", "(II)I"⟩
set_option maxRecDepth 100000 in
theorem wt_ya_ap_read : wt_Ya wt_y_ap_read prog_1_method_20_code 3 (Option.some Jvm.ClassFile.FieldType.int) 2 := ⟨⟨wt_qm0.1, wt_qm0.2, wt_qd2⟩, wt_g5 168 rfl rfl, by decide⟩
theorem wt_pl_ap_read : plainName (wt_y_ap_read).cls = true := wt_qc0
abbrev wt_y_ap_refuse : MethodName := ⟨"WornType", "refuse", "(Z)V"⟩
set_option maxRecDepth 100000 in
theorem wt_ya_ap_refuse : wt_Ya wt_y_ap_refuse prog_1_method_38_code 1 (Option.none : Option Jvm.ClassFile.FieldType) 1 := ⟨⟨wt_qm0.1, wt_qm0.2, wt_qd10⟩, wt_g3 63 rfl rfl, by decide⟩
theorem wt_pl_ap_refuse : plainName (wt_y_ap_refuse).cls = true := wt_qc0
abbrev wt_y_ap_refuseCopies : MethodName := ⟨"WornType", "refuseCopies", "(I)V"⟩
theorem wt_qd12 : (parseMethodDescriptor "(I)V").map (fun d => d.parameters.length) = some 1 := by decide +kernel
set_option maxRecDepth 100000 in
theorem wt_ya_ap_refuseCopies : wt_Ya wt_y_ap_refuseCopies prog_1_method_39_code 1 (Option.none : Option Jvm.ClassFile.FieldType) 1 := ⟨⟨wt_qm0.1, wt_qm0.2, wt_qd12⟩, wt_g5 61 rfl rfl, by decide⟩
theorem wt_pl_ap_refuseCopies : plainName (wt_y_ap_refuseCopies).cls = true := wt_qc0
abbrev wt_y_ap_restore : MethodName := ⟨"WornType", "restore", "()I"⟩
set_option maxRecDepth 100000 in
theorem wt_ya_ap_restore : wt_Ya wt_y_ap_restore prog_1_method_36_code 2 (Option.some Jvm.ClassFile.FieldType.int) 0 := ⟨⟨wt_qm0.1, wt_qm0.2, wt_qd3⟩, wt_g3 48 rfl rfl, by decide⟩
theorem wt_pl_ap_restore : plainName (wt_y_ap_restore).cls = true := wt_qc0
abbrev wt_y_ap_said : MethodName := ⟨"WornType", "said", "(II)I"⟩
set_option maxRecDepth 100000 in
theorem wt_ya_ap_said : wt_Ya wt_y_ap_said prog_1_method_29_code 3 (Option.some Jvm.ClassFile.FieldType.int) 2 := ⟨⟨wt_qm0.1, wt_qm0.2, wt_qd2⟩, wt_g6 91 rfl rfl, by decide⟩
theorem wt_pl_ap_said : plainName (wt_y_ap_said).cls = true := wt_qc0
abbrev wt_y_ap_set : MethodName := ⟨"WornType", "set", "(II)I"⟩
set_option maxRecDepth 100000 in
theorem wt_ya_ap_set : wt_Ya wt_y_ap_set prog_1_method_16_code 3 (Option.some Jvm.ClassFile.FieldType.int) 2 := ⟨⟨wt_qm0.1, wt_qm0.2, wt_qd2⟩, wt_g5 72 rfl rfl, by decide⟩
theorem wt_pl_ap_set : plainName (wt_y_ap_set).cls = true := wt_qc0
abbrev wt_y_ap_text : MethodName := ⟨"WornType", "text", "(I)I"⟩
set_option maxRecDepth 100000 in
theorem wt_ya_ap_text : wt_Ya wt_y_ap_text prog_1_method_5_code 2 (Option.some Jvm.ClassFile.FieldType.int) 1 := ⟨⟨wt_qm0.1, wt_qm0.2, wt_qd1⟩, wt_g4 98 rfl rfl, by decide⟩
theorem wt_pl_ap_text : plainName (wt_y_ap_text).cls = true := wt_qc0
abbrev wt_y_ap_together : MethodName := ⟨"WornType", "together", "(I)I"⟩
set_option maxRecDepth 100000 in
theorem wt_ya_ap_together : wt_Ya wt_y_ap_together prog_1_method_34_code 2 (Option.some Jvm.ClassFile.FieldType.int) 1 := ⟨⟨wt_qm0.1, wt_qm0.2, wt_qd1⟩, wt_g6 177 rfl rfl, by decide⟩
theorem wt_pl_ap_together : plainName (wt_y_ap_together).cls = true := wt_qc0
abbrev wt_y_ap_told : MethodName := ⟨"WornType", "told", "(I)I"⟩
set_option maxRecDepth 100000 in
theorem wt_ya_ap_told : wt_Ya wt_y_ap_told prog_1_method_7_code 2 (Option.some Jvm.ClassFile.FieldType.int) 1 := ⟨⟨wt_qm0.1, wt_qm0.2, wt_qd1⟩, wt_g4 124 rfl rfl, by decide⟩
theorem wt_pl_ap_told : plainName (wt_y_ap_told).cls = true := wt_qc0
abbrev wt_y_ap_tongue : MethodName := ⟨"WornType", "tongue", "(I)I"⟩
set_option maxRecDepth 100000 in
theorem wt_ya_ap_tongue : wt_Ya wt_y_ap_tongue prog_1_method_4_code 2 (Option.some Jvm.ClassFile.FieldType.int) 1 := ⟨⟨wt_qm0.1, wt_qm0.2, wt_qd1⟩, wt_g4 52 rfl rfl, by decide⟩
theorem wt_pl_ap_tongue : plainName (wt_y_ap_tongue).cls = true := wt_qc0
abbrev wt_y_ap_want : MethodName := ⟨"WornType", "want", "(IIII)I"⟩
set_option maxRecDepth 100000 in
theorem wt_ya_ap_want : wt_Ya wt_y_ap_want prog_1_method_24_code 5 (Option.some Jvm.ClassFile.FieldType.int) 4 := ⟨⟨wt_qm0.1, wt_qm0.2, wt_qd7⟩, wt_g6 25 rfl rfl, by decide⟩
theorem wt_pl_ap_want : plainName (wt_y_ap_want).cls = true := wt_qc0
abbrev wt_y_ap_word : MethodName := ⟨"WornType", "word", "(II)I"⟩
set_option maxRecDepth 100000 in
theorem wt_ya_ap_word : wt_Ya wt_y_ap_word prog_1_method_10_code 3 (Option.some Jvm.ClassFile.FieldType.int) 2 := ⟨⟨wt_qm0.1, wt_qm0.2, wt_qd2⟩, wt_g4 199 rfl rfl, by decide⟩
theorem wt_pl_ap_word : plainName (wt_y_ap_word).cls = true := wt_qc0
abbrev wt_y_ap_wordings : MethodName := ⟨"WornType", "wordings", "(I)I"⟩
set_option maxRecDepth 100000 in
theorem wt_ya_ap_wordings : wt_Ya wt_y_ap_wordings prog_1_method_23_code 2 (Option.some Jvm.ClassFile.FieldType.int) 1 := ⟨⟨wt_qm0.1, wt_qm0.2, wt_qd1⟩, wt_g6 8 rfl rfl, by decide⟩
theorem wt_pl_ap_wordings : plainName (wt_y_ap_wordings).cls = true := wt_qc0
abbrev wt_y_ld_init : MethodName := ⟨"WornType$Lead", "<init>", "()V"⟩
theorem wt_qc1 : plainName "WornType$Lead" = true := by decide +kernel
theorem wt_qm1 : "WornType$Lead" ≠ "java/lang/invoke/MethodHandle" ∧ "WornType$Lead" ≠ "java/lang/invoke/VarHandle" := by decide
set_option maxRecDepth 100000 in
theorem wt_ya_ld_init : wt_Ya wt_y_ld_init prog_2_method_1_code 1 (Option.none : Option Jvm.ClassFile.FieldType) 0 := ⟨⟨wt_qm1.1, wt_qm1.2, wt_qd0⟩, wt_g1 74 rfl rfl, by decide⟩
theorem wt_pl_ld_init : plainName (wt_y_ld_init).cls = true := wt_qc1
abbrev wt_y_ld_become : MethodName := ⟨"WornType$Lead", "become", "(LWornType$Lead;)V"⟩
theorem wt_qd13 : (parseMethodDescriptor "(LWornType$Lead;)V").map (fun d => d.parameters.length) = some 1 := by decide +kernel
set_option maxRecDepth 100000 in
theorem wt_ya_ld_become : wt_Ya wt_y_ld_become prog_2_method_2_code 2 (Option.none : Option Jvm.ClassFile.FieldType) 1 := ⟨⟨wt_qm1.1, wt_qm1.2, wt_qd13⟩, wt_g4 36 rfl rfl, by decide⟩
theorem wt_pl_ld_become : plainName (wt_y_ld_become).cls = true := wt_qc1
abbrev wt_y_ld_clear : MethodName := ⟨"WornType$Lead", "clear", "()V"⟩
set_option maxRecDepth 100000 in
theorem wt_ya_ld_clear : wt_Ya wt_y_ld_clear prog_2_method_6_code 1 (Option.none : Option Jvm.ClassFile.FieldType) 0 := ⟨⟨wt_qm1.1, wt_qm1.2, wt_qd0⟩, wt_g1 79 rfl rfl, by decide⟩
theorem wt_pl_ld_clear : plainName (wt_y_ld_clear).cls = true := wt_qc1
abbrev wt_y_ld_fill : MethodName := ⟨"WornType$Lead", "fill", "(LWornType$Tape;)Z"⟩
theorem wt_qd14 : (parseMethodDescriptor "(LWornType$Tape;)Z").map (fun d => d.parameters.length) = some 1 := by decide +kernel
set_option maxRecDepth 100000 in
theorem wt_ya_ld_fill : wt_Ya wt_y_ld_fill prog_2_method_5_code 3 (Option.some Jvm.ClassFile.FieldType.boolean) 1 := ⟨⟨wt_qm1.1, wt_qm1.2, wt_qd14⟩, wt_g3 139 rfl rfl, by decide⟩
theorem wt_pl_ld_fill : plainName (wt_y_ld_fill).cls = true := wt_qc1
abbrev wt_y_ld_fillClause : MethodName := ⟨"WornType$Lead", "fillClause", "(LWornType$Tape;I)Z"⟩
theorem wt_qd15 : (parseMethodDescriptor "(LWornType$Tape;I)Z").map (fun d => d.parameters.length) = some 2 := by decide +kernel
set_option maxRecDepth 100000 in
theorem wt_ya_ld_fillClause : wt_Ya wt_y_ld_fillClause prog_2_method_7_code 3 (Option.some Jvm.ClassFile.FieldType.boolean) 2 := ⟨⟨wt_qm1.1, wt_qm1.2, wt_qd15⟩, wt_g3 152 rfl rfl, by decide⟩
theorem wt_pl_ld_fillClause : plainName (wt_y_ld_fillClause).cls = true := wt_qc1
abbrev wt_y_ld_fillFaint : MethodName := ⟨"WornType$Lead", "fillFaint", "(LWornType$Tape;)Z"⟩
set_option maxRecDepth 100000 in
theorem wt_ya_ld_fillFaint : wt_Ya wt_y_ld_fillFaint prog_2_method_11_code 3 (Option.some Jvm.ClassFile.FieldType.boolean) 1 := ⟨⟨wt_qm1.1, wt_qm1.2, wt_qd14⟩, wt_g4 16 rfl rfl, by decide⟩
theorem wt_pl_ld_fillFaint : plainName (wt_y_ld_fillFaint).cls = true := wt_qc1
abbrev wt_y_ld_fillFollow : MethodName := ⟨"WornType$Lead", "fillFollow", "(LWornType$Tape;)Z"⟩
set_option maxRecDepth 100000 in
theorem wt_ya_ld_fillFollow : wt_Ya wt_y_ld_fillFollow prog_2_method_13_code 4 (Option.some Jvm.ClassFile.FieldType.boolean) 1 := ⟨⟨wt_qm1.1, wt_qm1.2, wt_qd14⟩, wt_g4 24 rfl rfl, by decide⟩
theorem wt_pl_ld_fillFollow : plainName (wt_y_ld_fillFollow).cls = true := wt_qc1
abbrev wt_y_ld_fillLike : MethodName := ⟨"WornType$Lead", "fillLike", "(LWornType$Tape;)Z"⟩
set_option maxRecDepth 100000 in
theorem wt_ya_ld_fillLike : wt_Ya wt_y_ld_fillLike prog_2_method_12_code 4 (Option.some Jvm.ClassFile.FieldType.boolean) 1 := ⟨⟨wt_qm1.1, wt_qm1.2, wt_qd14⟩, wt_g4 20 rfl rfl, by decide⟩
theorem wt_pl_ld_fillLike : plainName (wt_y_ld_fillLike).cls = true := wt_qc1
abbrev wt_y_ld_fillPieces : MethodName := ⟨"WornType$Lead", "fillPieces", "(LWornType$Tape;[I[I)Z"⟩
theorem wt_qd16 : (parseMethodDescriptor "(LWornType$Tape;[I[I)Z").map (fun d => d.parameters.length) = some 3 := by decide +kernel
set_option maxRecDepth 100000 in
theorem wt_ya_ld_fillPieces : wt_Ya wt_y_ld_fillPieces prog_2_method_9_code 8 (Option.some Jvm.ClassFile.FieldType.boolean) 3 := ⟨⟨wt_qm1.1, wt_qm1.2, wt_qd16⟩, wt_g3 232 rfl rfl, by decide⟩
theorem wt_pl_ld_fillPieces : plainName (wt_y_ld_fillPieces).cls = true := wt_qc1
abbrev wt_y_ld_fillPrice : MethodName := ⟨"WornType$Lead", "fillPrice", "(LWornType$Tape;)Z"⟩
set_option maxRecDepth 100000 in
theorem wt_ya_ld_fillPrice : wt_Ya wt_y_ld_fillPrice prog_2_method_10_code 4 (Option.some Jvm.ClassFile.FieldType.boolean) 1 := ⟨⟨wt_qm1.1, wt_qm1.2, wt_qd14⟩, wt_g4 12 rfl rfl, by decide⟩
theorem wt_pl_ld_fillPrice : plainName (wt_y_ld_fillPrice).cls = true := wt_qc1
abbrev wt_y_ld_mayFollow : MethodName := ⟨"WornType$Lead", "mayFollow", "(II)Z"⟩
theorem wt_qd17 : (parseMethodDescriptor "(II)Z").map (fun d => d.parameters.length) = some 2 := by decide +kernel
set_option maxRecDepth 100000 in
theorem wt_ya_ld_mayFollow : wt_Ya wt_y_ld_mayFollow prog_2_method_4_code 3 (Option.some Jvm.ClassFile.FieldType.boolean) 2 := ⟨⟨wt_qm1.1, wt_qm1.2, wt_qd17⟩, wt_g5 212 rfl rfl, by decide⟩
theorem wt_pl_ld_mayFollow : plainName (wt_y_ld_mayFollow).cls = true := wt_qc1
abbrev wt_y_ld_mostThere : MethodName := ⟨"WornType$Lead", "mostThere", "(I)I"⟩
set_option maxRecDepth 100000 in
theorem wt_ya_ld_mostThere : wt_Ya wt_y_ld_mostThere prog_2_method_3_code 4 (Option.some Jvm.ClassFile.FieldType.int) 1 := ⟨⟨wt_qm1.1, wt_qm1.2, wt_qd1⟩, wt_g6 135 rfl rfl, by decide⟩
theorem wt_pl_ld_mostThere : plainName (wt_y_ld_mostThere).cls = true := wt_qc1
abbrev wt_y_ld_namesClause : MethodName := ⟨"WornType$Lead", "namesClause", "(LWornType$Tape;)Z"⟩
set_option maxRecDepth 100000 in
theorem wt_ya_ld_namesClause : wt_Ya wt_y_ld_namesClause prog_2_method_8_code 1 (Option.some Jvm.ClassFile.FieldType.boolean) 1 := ⟨⟨wt_qm1.1, wt_qm1.2, wt_qd14⟩, wt_g3 166 rfl rfl, by decide⟩
theorem wt_pl_ld_namesClause : plainName (wt_y_ld_namesClause).cls = true := wt_qc1
abbrev wt_y_pg_init : MethodName := ⟨"WornType$Pages", "<init>", "(LWornType$Lead;LWornType$Tongue;LWornType$Texts;LWornType$State;LWornType$Stock;)V"⟩
theorem wt_qc2 : plainName "WornType$Pages" = true := by decide +kernel
theorem wt_qm2 : "WornType$Pages" ≠ "java/lang/invoke/MethodHandle" ∧ "WornType$Pages" ≠ "java/lang/invoke/VarHandle" := by decide
theorem wt_qd18 : (parseMethodDescriptor "(LWornType$Lead;LWornType$Tongue;LWornType$Texts;LWornType$State;LWornType$Stock;)V").map (fun d => d.parameters.length) = some 5 := by decide +kernel
set_option maxRecDepth 100000 in
theorem wt_ya_pg_init : wt_Ya wt_y_pg_init prog_3_method_1_code 6 (Option.none : Option Jvm.ClassFile.FieldType) 5 := ⟨⟨wt_qm2.1, wt_qm2.2, wt_qd18⟩, wt_g2 22 rfl rfl, by decide⟩
theorem wt_pl_pg_init : plainName (wt_y_pg_init).cls = true := wt_qc2
abbrev wt_y_pg_faintOn : MethodName := ⟨"WornType$Pages", "faintOn", "(I)I"⟩
set_option maxRecDepth 100000 in
theorem wt_ya_pg_faintOn : wt_Ya wt_y_pg_faintOn prog_3_method_7_code 4 (Option.some Jvm.ClassFile.FieldType.int) 1 := ⟨⟨wt_qm2.1, wt_qm2.2, wt_qd1⟩, wt_g5 136 rfl rfl, by decide⟩
theorem wt_pl_pg_faintOn : plainName (wt_y_pg_faintOn).cls = true := wt_qc2
abbrev wt_y_pg_firstFree : MethodName := ⟨"WornType$Pages", "firstFree", "()I"⟩
set_option maxRecDepth 100000 in
theorem wt_ya_pg_firstFree : wt_Ya wt_y_pg_firstFree prog_3_method_13_code 2 (Option.some Jvm.ClassFile.FieldType.int) 0 := ⟨⟨wt_qm2.1, wt_qm2.2, wt_qd3⟩, wt_g5 82 rfl rfl, by decide⟩
theorem wt_pl_pg_firstFree : plainName (wt_y_pg_firstFree).cls = true := wt_qc2
abbrev wt_y_pg_isFaint : MethodName := ⟨"WornType$Pages", "isFaint", "(I)Z"⟩
theorem wt_qd19 : (parseMethodDescriptor "(I)Z").map (fun d => d.parameters.length) = some 1 := by decide +kernel
set_option maxRecDepth 100000 in
theorem wt_ya_pg_isFaint : wt_Ya wt_y_pg_isFaint prog_3_method_12_code 2 (Option.some Jvm.ClassFile.FieldType.boolean) 1 := ⟨⟨wt_qm2.1, wt_qm2.2, wt_qd19⟩, wt_g5 140 rfl rfl, by decide⟩
theorem wt_pl_pg_isFaint : plainName (wt_y_pg_isFaint).cls = true := wt_qc2
abbrev wt_y_pg_leastLeftOn : MethodName := ⟨"WornType$Pages", "leastLeftOn", "(I)I"⟩
set_option maxRecDepth 100000 in
theorem wt_ya_pg_leastLeftOn : wt_Ya wt_y_pg_leastLeftOn prog_3_method_8_code 4 (Option.some Jvm.ClassFile.FieldType.int) 1 := ⟨⟨wt_qm2.1, wt_qm2.2, wt_qd1⟩, wt_g5 107 rfl rfl, by decide⟩
theorem wt_pl_pg_leastLeftOn : plainName (wt_y_pg_leastLeftOn).cls = true := wt_qc2
abbrev wt_y_pg_misreadOn : MethodName := ⟨"WornType$Pages", "misreadOn", "(I)I"⟩
set_option maxRecDepth 100000 in
theorem wt_ya_pg_misreadOn : wt_Ya wt_y_pg_misreadOn prog_3_method_9_code 5 (Option.some Jvm.ClassFile.FieldType.int) 1 := ⟨⟨wt_qm2.1, wt_qm2.2, wt_qd1⟩, wt_g5 145 rfl rfl, by decide⟩
theorem wt_pl_pg_misreadOn : plainName (wt_y_pg_misreadOn).cls = true := wt_qc2
abbrev wt_y_pg_piecesOn : MethodName := ⟨"WornType$Pages", "piecesOn", "(I)I"⟩
set_option maxRecDepth 100000 in
theorem wt_ya_pg_piecesOn : wt_Ya wt_y_pg_piecesOn prog_3_method_6_code 4 (Option.some Jvm.ClassFile.FieldType.int) 1 := ⟨⟨wt_qm2.1, wt_qm2.2, wt_qd1⟩, wt_g5 120 rfl rfl, by decide⟩
theorem wt_pl_pg_piecesOn : plainName (wt_y_pg_piecesOn).cls = true := wt_qc2
abbrev wt_y_pg_press : MethodName := ⟨"WornType$Pages", "press", "(II)I"⟩
set_option maxRecDepth 100000 in
theorem wt_ya_pg_press : wt_Ya wt_y_pg_press prog_3_method_5_code 6 (Option.some Jvm.ClassFile.FieldType.int) 2 := ⟨⟨wt_qm2.1, wt_qm2.2, wt_qd2⟩, wt_g5 103 rfl rfl, by decide⟩
theorem wt_pl_pg_press : plainName (wt_y_pg_press).cls = true := wt_qc2
abbrev wt_y_pg_readAs : MethodName := ⟨"WornType$Pages", "readAs", "(II)I"⟩
set_option maxRecDepth 100000 in
theorem wt_ya_pg_readAs : wt_Ya wt_y_pg_readAs prog_3_method_10_code 9 (Option.some Jvm.ClassFile.FieldType.int) 2 := ⟨⟨wt_qm2.1, wt_qm2.2, wt_qd2⟩, wt_g5 150 rfl rfl, by decide⟩
theorem wt_pl_pg_readAs : plainName (wt_y_pg_readAs).cls = true := wt_qc2
abbrev wt_y_pg_readLetter : MethodName := ⟨"WornType$Pages", "readLetter", "(III)I"⟩
set_option maxRecDepth 100000 in
theorem wt_ya_pg_readLetter : wt_Ya wt_y_pg_readLetter prog_3_method_11_code 7 (Option.some Jvm.ClassFile.FieldType.int) 3 := ⟨⟨wt_qm2.1, wt_qm2.2, wt_qd8⟩, wt_g5 158 rfl rfl, by decide⟩
theorem wt_pl_pg_readLetter : plainName (wt_y_pg_readLetter).cls = true := wt_qc2
abbrev wt_y_pg_stand : MethodName := ⟨"WornType$Pages", "stand", "(II)I"⟩
set_option maxRecDepth 100000 in
theorem wt_ya_pg_stand : wt_Ya wt_y_pg_stand prog_3_method_4_code 7 (Option.some Jvm.ClassFile.FieldType.int) 2 := ⟨⟨wt_qm2.1, wt_qm2.2, wt_qd2⟩, wt_g5 76 rfl rfl, by decide⟩
theorem wt_pl_pg_stand : plainName (wt_y_pg_stand).cls = true := wt_qc2
abbrev wt_y_pg_standing : MethodName := ⟨"WornType$Pages", "standing", "()I"⟩
set_option maxRecDepth 100000 in
theorem wt_ya_pg_standing : wt_Ya wt_y_pg_standing prog_3_method_3_code 3 (Option.some Jvm.ClassFile.FieldType.int) 0 := ⟨⟨wt_qm2.1, wt_qm2.2, wt_qd3⟩, wt_g4 128 rfl rfl, by decide⟩
theorem wt_pl_pg_standing : plainName (wt_y_pg_standing).cls = true := wt_qc2
abbrev wt_y_pg_stands : MethodName := ⟨"WornType$Pages", "stands", "(I)Z"⟩
set_option maxRecDepth 100000 in
theorem wt_ya_pg_stands : wt_Ya wt_y_pg_stands prog_3_method_2_code 2 (Option.some Jvm.ClassFile.FieldType.boolean) 1 := ⟨⟨wt_qm2.1, wt_qm2.2, wt_qd19⟩, wt_g4 132 rfl rfl, by decide⟩
theorem wt_pl_pg_stands : plainName (wt_y_pg_stands).cls = true := wt_qc2
abbrev wt_y_rw_init : MethodName := ⟨"WornType$Rows", "<init>", "(LWornType$Lead;LWornType$Tongue;LWornType$Texts;LWornType$State;LWornType$Stock;)V"⟩
theorem wt_qc3 : plainName "WornType$Rows" = true := by decide +kernel
theorem wt_qm3 : "WornType$Rows" ≠ "java/lang/invoke/MethodHandle" ∧ "WornType$Rows" ≠ "java/lang/invoke/VarHandle" := by decide
set_option maxRecDepth 100000 in
theorem wt_ya_rw_init : wt_Ya wt_y_rw_init prog_4_method_1_code 6 (Option.none : Option Jvm.ClassFile.FieldType) 5 := ⟨⟨wt_qm3.1, wt_qm3.2, wt_qd18⟩, wt_g2 53 rfl rfl, by decide⟩
theorem wt_pl_rw_init : plainName (wt_y_rw_init).cls = true := wt_qc3
abbrev wt_y_rw_cheapestBehind : MethodName := ⟨"WornType$Rows", "cheapestBehind", "(III)I"⟩
set_option maxRecDepth 100000 in
theorem wt_ya_rw_cheapestBehind : wt_Ya wt_y_rw_cheapestBehind prog_4_method_14_code 10 (Option.some Jvm.ClassFile.FieldType.int) 3 := ⟨⟨wt_qm3.1, wt_qm3.2, wt_qd8⟩, wt_g5 199 rfl rfl, by decide⟩
theorem wt_pl_rw_cheapestBehind : plainName (wt_y_rw_cheapestBehind).cls = true := wt_qc3
abbrev wt_y_rw_findFitting : MethodName := ⟨"WornType$Rows", "findFitting", "(II)V"⟩
theorem wt_qd20 : (parseMethodDescriptor "(II)V").map (fun d => d.parameters.length) = some 2 := by decide +kernel
set_option maxRecDepth 100000 in
theorem wt_ya_rw_findFitting : wt_Ya wt_y_rw_findFitting prog_4_method_7_code 4 (Option.none : Option Jvm.ClassFile.FieldType) 2 := ⟨⟨wt_qm3.1, wt_qm3.2, wt_qd20⟩, wt_g5 232 rfl rfl, by decide⟩
theorem wt_pl_rw_findFitting : plainName (wt_y_rw_findFitting).cls = true := wt_qc3
abbrev wt_y_rw_findLeast : MethodName := ⟨"WornType$Rows", "findLeast", "(I)V"⟩
set_option maxRecDepth 100000 in
theorem wt_ya_rw_findLeast : wt_Ya wt_y_rw_findLeast prog_4_method_6_code 6 (Option.none : Option Jvm.ClassFile.FieldType) 1 := ⟨⟨wt_qm3.1, wt_qm3.2, wt_qd12⟩, wt_g5 180 rfl rfl, by decide⟩
theorem wt_pl_rw_findLeast : plainName (wt_y_rw_findLeast).cls = true := wt_qc3
abbrev wt_y_rw_fitFrom : MethodName := ⟨"WornType$Rows", "fitFrom", "(LWornType$Rows;IIII)V"⟩
theorem wt_qd21 : (parseMethodDescriptor "(LWornType$Rows;IIII)V").map (fun d => d.parameters.length) = some 5 := by decide +kernel
set_option maxRecDepth 100000 in
theorem wt_ya_rw_fitFrom : wt_Ya wt_y_rw_fitFrom prog_4_method_8_code 9 (Option.none : Option Jvm.ClassFile.FieldType) 5 := ⟨⟨wt_qm3.1, wt_qm3.2, wt_qd21⟩, wt_g5 236 rfl rfl, by decide⟩
theorem wt_pl_rw_fitFrom : plainName (wt_y_rw_fitFrom).cls = true := wt_qc3
abbrev wt_y_rw_found : MethodName := ⟨"WornType$Rows", "found", "(III)I"⟩
set_option maxRecDepth 100000 in
theorem wt_ya_rw_found : wt_Ya wt_y_rw_found prog_4_method_3_code 4 (Option.some Jvm.ClassFile.FieldType.int) 3 := ⟨⟨wt_qm3.1, wt_qm3.2, wt_qd8⟩, wt_g5 217 rfl rfl, by decide⟩
theorem wt_pl_rw_found : plainName (wt_y_rw_found).cls = true := wt_qc3
abbrev wt_y_rw_howMany : MethodName := ⟨"WornType$Rows", "howMany", "(I)I"⟩
set_option maxRecDepth 100000 in
theorem wt_ya_rw_howMany : wt_Ya wt_y_rw_howMany prog_4_method_5_code 5 (Option.some Jvm.ClassFile.FieldType.int) 1 := ⟨⟨wt_qm3.1, wt_qm3.2, wt_qd1⟩, wt_g6 12 rfl rfl, by decide⟩
theorem wt_pl_rw_howMany : plainName (wt_y_rw_howMany).cls = true := wt_qc3
abbrev wt_y_rw_leastFrom : MethodName := ⟨"WornType$Rows", "leastFrom", "(III)I"⟩
set_option maxRecDepth 100000 in
theorem wt_ya_rw_leastFrom : wt_Ya wt_y_rw_leastFrom prog_4_method_13_code 5 (Option.some Jvm.ClassFile.FieldType.int) 3 := ⟨⟨wt_qm3.1, wt_qm3.2, wt_qd8⟩, wt_g5 194 rfl rfl, by decide⟩
theorem wt_pl_rw_leastFrom : plainName (wt_y_rw_leastFrom).cls = true := wt_qc3
abbrev wt_y_rw_mayFollow : MethodName := ⟨"WornType$Rows", "mayFollow", "(II)Z"⟩
set_option maxRecDepth 100000 in
theorem wt_ya_rw_mayFollow : wt_Ya wt_y_rw_mayFollow prog_4_method_10_code 3 (Option.some Jvm.ClassFile.FieldType.boolean) 2 := ⟨⟨wt_qm3.1, wt_qm3.2, wt_qd17⟩, wt_g5 208 rfl rfl, by decide⟩
theorem wt_pl_rw_mayFollow : plainName (wt_y_rw_mayFollow).cls = true := wt_qc3
abbrev wt_y_rw_priceOf : MethodName := ⟨"WornType$Rows", "priceOf", "(I)I"⟩
set_option maxRecDepth 100000 in
theorem wt_ya_rw_priceOf : wt_Ya wt_y_rw_priceOf prog_4_method_2_code 4 (Option.some Jvm.ClassFile.FieldType.int) 1 := ⟨⟨wt_qm3.1, wt_qm3.2, wt_qd1⟩, wt_g4 226 rfl rfl, by decide⟩
theorem wt_pl_rw_priceOf : plainName (wt_y_rw_priceOf).cls = true := wt_qc3
abbrev wt_y_rw_spend : MethodName := ⟨"WornType$Rows", "spend", "(II)Z"⟩
set_option maxRecDepth 100000 in
theorem wt_ya_rw_spend : wt_Ya wt_y_rw_spend prog_4_method_9_code 7 (Option.some Jvm.ClassFile.FieldType.boolean) 2 := ⟨⟨wt_qm3.1, wt_qm3.2, wt_qd17⟩, wt_g6 1 rfl rfl, by decide⟩
theorem wt_pl_rw_spend : plainName (wt_y_rw_spend).cls = true := wt_qc3
abbrev wt_y_rw_sumAt : MethodName := ⟨"WornType$Rows", "sumAt", "(III)I"⟩
set_option maxRecDepth 100000 in
theorem wt_ya_rw_sumAt : wt_Ya wt_y_rw_sumAt prog_4_method_11_code 4 (Option.some Jvm.ClassFile.FieldType.int) 3 := ⟨⟨wt_qm3.1, wt_qm3.2, wt_qd8⟩, wt_g5 204 rfl rfl, by decide⟩
theorem wt_pl_rw_sumAt : plainName (wt_y_rw_sumAt).cls = true := wt_qc3
abbrev wt_y_rw_tooMany : MethodName := ⟨"WornType$Rows", "tooMany", "(I)Z"⟩
set_option maxRecDepth 100000 in
theorem wt_ya_rw_tooMany : wt_Ya wt_y_rw_tooMany prog_4_method_4_code 4 (Option.some Jvm.ClassFile.FieldType.boolean) 1 := ⟨⟨wt_qm3.1, wt_qm3.2, wt_qd19⟩, wt_g5 228 rfl rfl, by decide⟩
theorem wt_pl_rw_tooMany : plainName (wt_y_rw_tooMany).cls = true := wt_qc3
abbrev wt_y_rw_waysBehind : MethodName := ⟨"WornType$Rows", "waysBehind", "(III)I"⟩
set_option maxRecDepth 100000 in
theorem wt_ya_rw_waysBehind : wt_Ya wt_y_rw_waysBehind prog_4_method_12_code 9 (Option.some Jvm.ClassFile.FieldType.int) 3 := ⟨⟨wt_qm3.1, wt_qm3.2, wt_qd8⟩, wt_g6 16 rfl rfl, by decide⟩
theorem wt_pl_rw_waysBehind : plainName (wt_y_rw_waysBehind).cls = true := wt_qc3
abbrev wt_y_st_init : MethodName := ⟨"WornType$State", "<init>", "()V"⟩
theorem wt_qc4 : plainName "WornType$State" = true := by decide +kernel
theorem wt_qm4 : "WornType$State" ≠ "java/lang/invoke/MethodHandle" ∧ "WornType$State" ≠ "java/lang/invoke/VarHandle" := by decide
set_option maxRecDepth 100000 in
theorem wt_ya_st_init : wt_Ya wt_y_st_init prog_5_method_1_code 1 (Option.none : Option Jvm.ClassFile.FieldType) 0 := ⟨⟨wt_qm4.1, wt_qm4.2, wt_qd0⟩, wt_g1 186 rfl rfl, by decide⟩
theorem wt_pl_st_init : plainName (wt_y_st_init).cls = true := wt_qc4
abbrev wt_y_st_addWanted : MethodName := ⟨"WornType$State", "addWanted", "(IIII)V"⟩
theorem wt_qd22 : (parseMethodDescriptor "(IIII)V").map (fun d => d.parameters.length) = some 4 := by decide +kernel
set_option maxRecDepth 100000 in
theorem wt_ya_st_addWanted : wt_Ya wt_y_st_addWanted prog_5_method_6_code 5 (Option.none : Option Jvm.ClassFile.FieldType) 4 := ⟨⟨wt_qm4.1, wt_qm4.2, wt_qd22⟩, wt_g6 29 rfl rfl, by decide⟩
theorem wt_pl_st_addWanted : plainName (wt_y_st_addWanted).cls = true := wt_qc4
abbrev wt_y_st_become : MethodName := ⟨"WornType$State", "become", "(LWornType$State;)V"⟩
theorem wt_qd23 : (parseMethodDescriptor "(LWornType$State;)V").map (fun d => d.parameters.length) = some 1 := by decide +kernel
set_option maxRecDepth 100000 in
theorem wt_ya_st_become : wt_Ya wt_y_st_become prog_5_method_2_code 2 (Option.none : Option Jvm.ClassFile.FieldType) 1 := ⟨⟨wt_qm4.1, wt_qm4.2, wt_qd23⟩, wt_g3 41 rfl rfl, by decide⟩
theorem wt_pl_st_become : plainName (wt_y_st_become).cls = true := wt_qc4
abbrev wt_y_st_clearPage : MethodName := ⟨"WornType$State", "clearPage", "(I)V"⟩
set_option maxRecDepth 100000 in
theorem wt_ya_st_clearPage : wt_Ya wt_y_st_clearPage prog_5_method_5_code 3 (Option.none : Option Jvm.ClassFile.FieldType) 1 := ⟨⟨wt_qm4.1, wt_qm4.2, wt_qd12⟩, wt_g5 124 rfl rfl, by decide⟩
theorem wt_pl_st_clearPage : plainName (wt_y_st_clearPage).cls = true := wt_qc4
abbrev wt_y_st_clearPages : MethodName := ⟨"WornType$State", "clearPages", "()V"⟩
set_option maxRecDepth 100000 in
theorem wt_ya_st_clearPages : wt_Ya wt_y_st_clearPages prog_5_method_4_code 1 (Option.none : Option Jvm.ClassFile.FieldType) 0 := ⟨⟨wt_qm4.1, wt_qm4.2, wt_qd0⟩, wt_g1 191 rfl rfl, by decide⟩
theorem wt_pl_st_clearPages : plainName (wt_y_st_clearPages).cls = true := wt_qc4
abbrev wt_y_st_lay : MethodName := ⟨"WornType$State", "lay", "(LWornType$Lead;)V"⟩
set_option maxRecDepth 100000 in
theorem wt_ya_st_lay : wt_Ya wt_y_st_lay prog_5_method_3_code 2 (Option.none : Option Jvm.ClassFile.FieldType) 1 := ⟨⟨wt_qm4.1, wt_qm4.2, wt_qd13⟩, wt_g4 41 rfl rfl, by decide⟩
theorem wt_pl_st_lay : plainName (wt_y_st_lay).cls = true := wt_qc4
abbrev wt_y_sk_init : MethodName := ⟨"WornType$Stock", "<init>", "(LWornType$Lead;LWornType$State;)V"⟩
theorem wt_qc5 : plainName "WornType$Stock" = true := by decide +kernel
theorem wt_qm5 : "WornType$Stock" ≠ "java/lang/invoke/MethodHandle" ∧ "WornType$Stock" ≠ "java/lang/invoke/VarHandle" := by decide
theorem wt_qd24 : (parseMethodDescriptor "(LWornType$Lead;LWornType$State;)V").map (fun d => d.parameters.length) = some 2 := by decide +kernel
set_option maxRecDepth 100000 in
theorem wt_ya_sk_init : wt_Ya wt_y_sk_init prog_6_method_1_code 3 (Option.none : Option Jvm.ClassFile.FieldType) 2 := ⟨⟨wt_qm5.1, wt_qm5.2, wt_qd24⟩, wt_g2 9 rfl rfl, by decide⟩
theorem wt_pl_sk_init : plainName (wt_y_sk_init).cls = true := wt_qc5
abbrev wt_y_sk_choose : MethodName := ⟨"WornType$Stock", "choose", "(II[II)I"⟩
theorem wt_qd25 : (parseMethodDescriptor "(II[II)I").map (fun d => d.parameters.length) = some 4 := by decide +kernel
set_option maxRecDepth 100000 in
theorem wt_ya_sk_choose : wt_Ya wt_y_sk_choose prog_6_method_13_code 9 (Option.some Jvm.ClassFile.FieldType.int) 4 := ⟨⟨wt_qm5.1, wt_qm5.2, wt_qd25⟩, wt_g5 86 rfl rfl, by decide⟩
theorem wt_pl_sk_choose : plainName (wt_y_sk_choose).cls = true := wt_qc5
abbrev wt_y_sk_comesFirst : MethodName := ⟨"WornType$Stock", "comesFirst", "(II)Z"⟩
set_option maxRecDepth 100000 in
theorem wt_ya_sk_comesFirst : wt_Ya wt_y_sk_comesFirst prog_6_method_16_code 3 (Option.some Jvm.ClassFile.FieldType.boolean) 2 := ⟨⟨wt_qm5.1, wt_qm5.2, wt_qd17⟩, wt_g5 90 rfl rfl, by decide⟩
theorem wt_pl_sk_comesFirst : plainName (wt_y_sk_comesFirst).cls = true := wt_qc5
abbrev wt_y_sk_inCase : MethodName := ⟨"WornType$Stock", "inCase", "(I)I"⟩
set_option maxRecDepth 100000 in
theorem wt_ya_sk_inCase : wt_Ya wt_y_sk_inCase prog_6_method_4_code 2 (Option.some Jvm.ClassFile.FieldType.int) 1 := ⟨⟨wt_qm5.1, wt_qm5.2, wt_qd1⟩, wt_g4 146 rfl rfl, by decide⟩
theorem wt_pl_sk_inCase : plainName (wt_y_sk_inCase).cls = true := wt_qc5
abbrev wt_y_sk_lacking : MethodName := ⟨"WornType$Stock", "lacking", "([II[I)I"⟩
theorem wt_qd26 : (parseMethodDescriptor "([II[I)I").map (fun d => d.parameters.length) = some 3 := by decide +kernel
set_option maxRecDepth 100000 in
theorem wt_ya_sk_lacking : wt_Ya wt_y_sk_lacking prog_6_method_10_code 5 (Option.some Jvm.ClassFile.FieldType.int) 3 := ⟨⟨wt_qm5.1, wt_qm5.2, wt_qd26⟩, wt_g5 65 rfl rfl, by decide⟩
theorem wt_pl_sk_lacking : plainName (wt_y_sk_lacking).cls = true := wt_qc5
abbrev wt_y_sk_leftInCase : MethodName := ⟨"WornType$Stock", "leftInCase", "(I)I"⟩
set_option maxRecDepth 100000 in
theorem wt_ya_sk_leftInCase : wt_Ya wt_y_sk_leftInCase prog_6_method_6_code 5 (Option.some Jvm.ClassFile.FieldType.int) 1 := ⟨⟨wt_qm5.1, wt_qm5.2, wt_qd1⟩, wt_g3 5 rfl rfl, by decide⟩
theorem wt_pl_sk_leftInCase : plainName (wt_y_sk_leftInCase).cls = true := wt_qc5
abbrev wt_y_sk_leftOfAll : MethodName := ⟨"WornType$Stock", "leftOfAll", "(I)I"⟩
set_option maxRecDepth 100000 in
theorem wt_ya_sk_leftOfAll : wt_Ya wt_y_sk_leftOfAll prog_6_method_5_code 4 (Option.some Jvm.ClassFile.FieldType.int) 1 := ⟨⟨wt_qm5.1, wt_qm5.2, wt_qd1⟩, wt_g4 154 rfl rfl, by decide⟩
theorem wt_pl_sk_leftOfAll : plainName (wt_y_sk_leftOfAll).cls = true := wt_qc5
abbrev wt_y_sk_lies : MethodName := ⟨"WornType$Stock", "lies", "(I)Z"⟩
set_option maxRecDepth 100000 in
theorem wt_ya_sk_lies : wt_Ya wt_y_sk_lies prog_6_method_15_code 2 (Option.some Jvm.ClassFile.FieldType.boolean) 1 := ⟨⟨wt_qm5.1, wt_qm5.2, wt_qd19⟩, wt_g3 16 rfl rfl, by decide⟩
theorem wt_pl_sk_lies : plainName (wt_y_sk_lies).cls = true := wt_qc5
abbrev wt_y_sk_mostLeft : MethodName := ⟨"WornType$Stock", "mostLeft", "(I)I"⟩
set_option maxRecDepth 100000 in
theorem wt_ya_sk_mostLeft : wt_Ya wt_y_sk_mostLeft prog_6_method_7_code 4 (Option.some Jvm.ClassFile.FieldType.int) 1 := ⟨⟨wt_qm5.1, wt_qm5.2, wt_qd1⟩, wt_g4 158 rfl rfl, by decide⟩
theorem wt_pl_sk_mostLeft : plainName (wt_y_sk_mostLeft).cls = true := wt_qc5
abbrev wt_y_sk_often : MethodName := ⟨"WornType$Stock", "often", "([I[I)I"⟩
theorem wt_qd27 : (parseMethodDescriptor "([I[I)I").map (fun d => d.parameters.length) = some 2 := by decide +kernel
set_option maxRecDepth 100000 in
theorem wt_ya_sk_often : wt_Ya wt_y_sk_often prog_6_method_12_code 5 (Option.some Jvm.ClassFile.FieldType.int) 2 := ⟨⟨wt_qm5.1, wt_qm5.2, wt_qd27⟩, wt_g4 238 rfl rfl, by decide⟩
theorem wt_pl_sk_often : plainName (wt_y_sk_often).cls = true := wt_qc5
abbrev wt_y_sk_pieces : MethodName := ⟨"WornType$Stock", "pieces", "(I)I"⟩
set_option maxRecDepth 100000 in
theorem wt_ya_sk_pieces : wt_Ya wt_y_sk_pieces prog_6_method_2_code 2 (Option.some Jvm.ClassFile.FieldType.int) 1 := ⟨⟨wt_qm5.1, wt_qm5.2, wt_qd1⟩, wt_g3 9 rfl rfl, by decide⟩
theorem wt_pl_sk_pieces : plainName (wt_y_sk_pieces).cls = true := wt_qc5
abbrev wt_y_sk_piecesOfAll : MethodName := ⟨"WornType$Stock", "piecesOfAll", "()I"⟩
set_option maxRecDepth 100000 in
theorem wt_ya_sk_piecesOfAll : wt_Ya wt_y_sk_piecesOfAll prog_6_method_3_code 3 (Option.some Jvm.ClassFile.FieldType.int) 0 := ⟨⟨wt_qm5.1, wt_qm5.2, wt_qd3⟩, wt_g4 45 rfl rfl, by decide⟩
theorem wt_pl_sk_piecesOfAll : plainName (wt_y_sk_piecesOfAll).cls = true := wt_qc5
abbrev wt_y_sk_reach : MethodName := ⟨"WornType$Stock", "reach", "(II[I)I"⟩
theorem wt_qd28 : (parseMethodDescriptor "(II[I)I").map (fun d => d.parameters.length) = some 3 := by decide +kernel
set_option maxRecDepth 100000 in
theorem wt_ya_sk_reach : wt_Ya wt_y_sk_reach prog_6_method_11_code 8 (Option.some Jvm.ClassFile.FieldType.int) 3 := ⟨⟨wt_qm5.1, wt_qm5.2, wt_qd28⟩, wt_g5 3 rfl rfl, by decide⟩
theorem wt_pl_sk_reach : plainName (wt_y_sk_reach).cls = true := wt_qc5
abbrev wt_y_sk_ready : MethodName := ⟨"WornType$Stock", "ready", "(II[I)I"⟩
set_option maxRecDepth 100000 in
theorem wt_ya_sk_ready : wt_Ya wt_y_sk_ready prog_6_method_9_code 7 (Option.some Jvm.ClassFile.FieldType.int) 3 := ⟨⟨wt_qm5.1, wt_qm5.2, wt_qd28⟩, wt_g4 150 rfl rfl, by decide⟩
theorem wt_pl_sk_ready : plainName (wt_y_sk_ready).cls = true := wt_qc5
abbrev wt_y_sk_wear : MethodName := ⟨"WornType$Stock", "wear", "([II[I)V"⟩
theorem wt_qd29 : (parseMethodDescriptor "([II[I)V").map (fun d => d.parameters.length) = some 3 := by decide +kernel
set_option maxRecDepth 100000 in
theorem wt_ya_sk_wear : wt_Ya wt_y_sk_wear prog_6_method_14_code 8 (Option.none : Option Jvm.ClassFile.FieldType) 3 := ⟨⟨wt_qm5.1, wt_qm5.2, wt_qd29⟩, wt_g6 63 rfl rfl, by decide⟩
theorem wt_pl_sk_wear : plainName (wt_y_sk_wear).cls = true := wt_qc5
abbrev wt_y_sk_wornOut : MethodName := ⟨"WornType$Stock", "wornOut", "(I)I"⟩
set_option maxRecDepth 100000 in
theorem wt_ya_sk_wornOut : wt_Ya wt_y_sk_wornOut prog_6_method_8_code 4 (Option.some Jvm.ClassFile.FieldType.int) 1 := ⟨⟨wt_qm5.1, wt_qm5.2, wt_qd1⟩, wt_g4 165 rfl rfl, by decide⟩
theorem wt_pl_sk_wornOut : plainName (wt_y_sk_wornOut).cls = true := wt_qc5
abbrev wt_y_tp_init : MethodName := ⟨"WornType$Tape", "<init>", "()V"⟩
theorem wt_qc6 : plainName "WornType$Tape" = true := by decide +kernel
theorem wt_qm6 : "WornType$Tape" ≠ "java/lang/invoke/MethodHandle" ∧ "WornType$Tape" ≠ "java/lang/invoke/VarHandle" := by decide
set_option maxRecDepth 100000 in
theorem wt_ya_tp_init : wt_Ya wt_y_tp_init prog_7_method_1_code 1 (Option.none : Option Jvm.ClassFile.FieldType) 0 := ⟨⟨wt_qm6.1, wt_qm6.2, wt_qd0⟩, wt_g1 37 rfl rfl, by decide⟩
theorem wt_pl_tp_init : plainName (wt_y_tp_init).cls = true := wt_qc6
abbrev wt_y_tp_begin : MethodName := ⟨"WornType$Tape", "begin", "(I)V"⟩
set_option maxRecDepth 100000 in
theorem wt_ya_tp_begin : wt_Ya wt_y_tp_begin prog_7_method_3_code 2 (Option.none : Option Jvm.ClassFile.FieldType) 1 := ⟨⟨wt_qm6.1, wt_qm6.2, wt_qd12⟩, wt_g3 135 rfl rfl, by decide⟩
theorem wt_pl_tp_begin : plainName (wt_y_tp_begin).cls = true := wt_qc6
abbrev wt_y_tp_fail : MethodName := ⟨"WornType$Tape", "fail", "(I)Z"⟩
set_option maxRecDepth 100000 in
theorem wt_ya_tp_fail : wt_Ya wt_y_tp_fail prog_7_method_12_code 2 (Option.some Jvm.ClassFile.FieldType.boolean) 1 := ⟨⟨wt_qm6.1, wt_qm6.2, wt_qd19⟩, wt_g3 163 rfl rfl, by decide⟩
theorem wt_pl_tp_fail : plainName (wt_y_tp_fail).cls = true := wt_qc6
abbrev wt_y_tp_isDigit : MethodName := ⟨"WornType$Tape", "isDigit", "(I)Z"⟩
set_option maxRecDepth 100000 in
theorem wt_ya_tp_isDigit : wt_Ya wt_y_tp_isDigit prog_7_method_15_code 1 (Option.some Jvm.ClassFile.FieldType.boolean) 1 := ⟨⟨wt_qm6.1, wt_qm6.2, wt_qd19⟩, wt_g4 5 rfl rfl, by decide⟩
theorem wt_pl_tp_isDigit : plainName (wt_y_tp_isDigit).cls = true := wt_qc6
abbrev wt_y_tp_isSmall : MethodName := ⟨"WornType$Tape", "isSmall", "(I)Z"⟩
set_option maxRecDepth 100000 in
theorem wt_ya_tp_isSmall : wt_Ya wt_y_tp_isSmall prog_7_method_14_code 1 (Option.some Jvm.ClassFile.FieldType.boolean) 1 := ⟨⟨wt_qm6.1, wt_qm6.2, wt_qd19⟩, wt_g3 159 rfl rfl, by decide⟩
theorem wt_pl_tp_isSmall : plainName (wt_y_tp_isSmall).cls = true := wt_qc6
abbrev wt_y_tp_needSign : MethodName := ⟨"WornType$Tape", "needSign", "(I)Z"⟩
set_option maxRecDepth 100000 in
theorem wt_ya_tp_needSign : wt_Ya wt_y_tp_needSign prog_7_method_11_code 2 (Option.some Jvm.ClassFile.FieldType.boolean) 1 := ⟨⟨wt_qm6.1, wt_qm6.2, wt_qd19⟩, wt_g4 28 rfl rfl, by decide⟩
theorem wt_pl_tp_needSign : plainName (wt_y_tp_needSign).cls = true := wt_qc6
abbrev wt_y_tp_over : MethodName := ⟨"WornType$Tape", "over", "()Z"⟩
theorem wt_qd30 : (parseMethodDescriptor "()Z").map (fun d => d.parameters.length) = some 0 := by decide +kernel
set_option maxRecDepth 100000 in
theorem wt_ya_tp_over : wt_Ya wt_y_tp_over prog_7_method_4_code 1 (Option.some Jvm.ClassFile.FieldType.boolean) 0 := ⟨⟨wt_qm6.1, wt_qm6.2, wt_qd30⟩, wt_g3 143 rfl rfl, by decide⟩
theorem wt_pl_tp_over : plainName (wt_y_tp_over).cls = true := wt_qc6
abbrev wt_y_tp_push : MethodName := ⟨"WornType$Tape", "push", "(I)V"⟩
set_option maxRecDepth 100000 in
theorem wt_ya_tp_push : wt_Ya wt_y_tp_push prog_7_method_2_code 3 (Option.none : Option Jvm.ClassFile.FieldType) 1 := ⟨⟨wt_qm6.1, wt_qm6.2, wt_qd12⟩, wt_g2 218 rfl rfl, by decide⟩
theorem wt_pl_tp_push : plainName (wt_y_tp_push).cls = true := wt_qc6
abbrev wt_y_tp_skipBlanks : MethodName := ⟨"WornType$Tape", "skipBlanks", "()V"⟩
set_option maxRecDepth 100000 in
theorem wt_ya_tp_skipBlanks : wt_Ya wt_y_tp_skipBlanks prog_7_method_13_code 1 (Option.none : Option Jvm.ClassFile.FieldType) 0 := ⟨⟨wt_qm6.1, wt_qm6.2, wt_qd0⟩, wt_g3 147 rfl rfl, by decide⟩
theorem wt_pl_tp_skipBlanks : plainName (wt_y_tp_skipBlanks).cls = true := wt_qc6
abbrev wt_y_tp_takeLetter : MethodName := ⟨"WornType$Tape", "takeLetter", "()I"⟩
set_option maxRecDepth 100000 in
theorem wt_ya_tp_takeLetter : wt_Ya wt_y_tp_takeLetter prog_7_method_8_code 1 (Option.some Jvm.ClassFile.FieldType.int) 0 := ⟨⟨wt_qm6.1, wt_qm6.2, wt_qd3⟩, wt_g3 236 rfl rfl, by decide⟩
theorem wt_pl_tp_takeLetter : plainName (wt_y_tp_takeLetter).cls = true := wt_qc6
abbrev wt_y_tp_takeNumber : MethodName := ⟨"WornType$Tape", "takeNumber", "(II)I"⟩
set_option maxRecDepth 100000 in
theorem wt_ya_tp_takeNumber : wt_Ya wt_y_tp_takeNumber prog_7_method_9_code 4 (Option.some Jvm.ClassFile.FieldType.int) 2 := ⟨⟨wt_qm6.1, wt_qm6.2, wt_qd2⟩, wt_g4 2 rfl rfl, by decide⟩
theorem wt_pl_tp_takeNumber : plainName (wt_y_tp_takeNumber).cls = true := wt_qc6
abbrev wt_y_tp_takeSign : MethodName := ⟨"WornType$Tape", "takeSign", "(I)Z"⟩
set_option maxRecDepth 100000 in
theorem wt_ya_tp_takeSign : wt_Ya wt_y_tp_takeSign prog_7_method_10_code 2 (Option.some Jvm.ClassFile.FieldType.boolean) 1 := ⟨⟨wt_qm6.1, wt_qm6.2, wt_qd19⟩, wt_g4 32 rfl rfl, by decide⟩
theorem wt_pl_tp_takeSign : plainName (wt_y_tp_takeSign).cls = true := wt_qc6
abbrev wt_y_tp_takeWord : MethodName := ⟨"WornType$Tape", "takeWord", "()Z"⟩
set_option maxRecDepth 100000 in
theorem wt_ya_tp_takeWord : wt_Ya wt_y_tp_takeWord prog_7_method_5_code 2 (Option.some Jvm.ClassFile.FieldType.boolean) 0 := ⟨⟨wt_qm6.1, wt_qm6.2, wt_qd30⟩, wt_g3 156 rfl rfl, by decide⟩
theorem wt_pl_tp_takeWord : plainName (wt_y_tp_takeWord).cls = true := wt_qc6
abbrev wt_y_tp_wordIs : MethodName := ⟨"WornType$Tape", "wordIs", "(Ljava/lang/String;)Z"⟩
theorem wt_qd31 : (parseMethodDescriptor "(Ljava/lang/String;)Z").map (fun d => d.parameters.length) = some 1 := by decide +kernel
set_option maxRecDepth 100000 in
theorem wt_ya_tp_wordIs : wt_Ya wt_y_tp_wordIs prog_7_method_7_code 3 (Option.some Jvm.ClassFile.FieldType.boolean) 1 := ⟨⟨wt_qm6.1, wt_qm6.2, wt_qd31⟩, wt_g3 171 rfl rfl, by decide⟩
theorem wt_pl_tp_wordIs : plainName (wt_y_tp_wordIs).cls = true := wt_qc6
abbrev wt_y_tp_wordLength : MethodName := ⟨"WornType$Tape", "wordLength", "()I"⟩
set_option maxRecDepth 100000 in
theorem wt_ya_tp_wordLength : wt_Ya wt_y_tp_wordLength prog_7_method_6_code 1 (Option.some Jvm.ClassFile.FieldType.int) 0 := ⟨⟨wt_qm6.1, wt_qm6.2, wt_qd3⟩, wt_g3 175 rfl rfl, by decide⟩
theorem wt_pl_tp_wordLength : plainName (wt_y_tp_wordLength).cls = true := wt_qc6
abbrev wt_y_tx_init : MethodName := ⟨"WornType$Texts", "<init>", "()V"⟩
theorem wt_qc7 : plainName "WornType$Texts" = true := by decide +kernel
theorem wt_qm7 : "WornType$Texts" ≠ "java/lang/invoke/MethodHandle" ∧ "WornType$Texts" ≠ "java/lang/invoke/VarHandle" := by decide
set_option maxRecDepth 100000 in
theorem wt_ya_tx_init : wt_Ya wt_y_tx_init prog_8_method_1_code 1 (Option.none : Option Jvm.ClassFile.FieldType) 0 := ⟨⟨wt_qm7.1, wt_qm7.2, wt_qd0⟩, wt_g1 162 rfl rfl, by decide⟩
theorem wt_pl_tx_init : plainName (wt_y_tx_init).cls = true := wt_qc7
abbrev wt_y_tx_close : MethodName := ⟨"WornType$Texts", "close", "(LWornType$Tongue;I)Z"⟩
theorem wt_qd32 : (parseMethodDescriptor "(LWornType$Tongue;I)Z").map (fun d => d.parameters.length) = some 2 := by decide +kernel
set_option maxRecDepth 100000 in
theorem wt_ya_tx_close : wt_Ya wt_y_tx_close prog_8_method_8_code 4 (Option.some Jvm.ClassFile.FieldType.boolean) 2 := ⟨⟨wt_qm7.1, wt_qm7.2, wt_qd32⟩, wt_g4 107 rfl rfl, by decide⟩
theorem wt_pl_tx_close : plainName (wt_y_tx_close).cls = true := wt_qc7
abbrev wt_y_tx_fill : MethodName := ⟨"WornType$Texts", "fill", "(LWornType$Tape;LWornType$Tongue;)Z"⟩
theorem wt_qd33 : (parseMethodDescriptor "(LWornType$Tape;LWornType$Tongue;)Z").map (fun d => d.parameters.length) = some 2 := by decide +kernel
set_option maxRecDepth 100000 in
theorem wt_ya_tx_fill : wt_Ya wt_y_tx_fill prog_8_method_7_code 5 (Option.some Jvm.ClassFile.FieldType.boolean) 2 := ⟨⟨wt_qm7.1, wt_qm7.2, wt_qd33⟩, wt_g4 102 rfl rfl, by decide⟩
theorem wt_pl_tx_fill : plainName (wt_y_tx_fill).cls = true := wt_qc7
abbrev wt_y_tx_has : MethodName := ⟨"WornType$Texts", "has", "(I)Z"⟩
set_option maxRecDepth 100000 in
theorem wt_ya_tx_has : wt_Ya wt_y_tx_has prog_8_method_2_code 2 (Option.some Jvm.ClassFile.FieldType.boolean) 1 := ⟨⟨wt_qm7.1, wt_qm7.2, wt_qd19⟩, wt_g5 16 rfl rfl, by decide⟩
theorem wt_pl_tx_has : plainName (wt_y_tx_has).cls = true := wt_qc7
abbrev wt_y_tx_lengthOf : MethodName := ⟨"WornType$Texts", "lengthOf", "(I)I"⟩
set_option maxRecDepth 100000 in
theorem wt_ya_tx_lengthOf : wt_Ya wt_y_tx_lengthOf prog_8_method_3_code 2 (Option.some Jvm.ClassFile.FieldType.int) 1 := ⟨⟨wt_qm7.1, wt_qm7.2, wt_qd1⟩, wt_g5 24 rfl rfl, by decide⟩
theorem wt_pl_tx_lengthOf : plainName (wt_y_tx_lengthOf).cls = true := wt_qc7
abbrev wt_y_tx_needOf : MethodName := ⟨"WornType$Texts", "needOf", "(II)I"⟩
set_option maxRecDepth 100000 in
theorem wt_ya_tx_needOf : wt_Ya wt_y_tx_needOf prog_8_method_5_code 3 (Option.some Jvm.ClassFile.FieldType.int) 2 := ⟨⟨wt_qm7.1, wt_qm7.2, wt_qd2⟩, wt_g3 29 rfl rfl, by decide⟩
theorem wt_pl_tx_needOf : plainName (wt_y_tx_needOf).cls = true := wt_qc7
abbrev wt_y_tx_spell : MethodName := ⟨"WornType$Texts", "spell", "(I[I)V"⟩
theorem wt_qd34 : (parseMethodDescriptor "(I[I)V").map (fun d => d.parameters.length) = some 2 := by decide +kernel
set_option maxRecDepth 100000 in
theorem wt_ya_tx_spell : wt_Ya wt_y_tx_spell prog_8_method_6_code 4 (Option.none : Option Jvm.ClassFile.FieldType) 2 := ⟨⟨wt_qm7.1, wt_qm7.2, wt_qd34⟩, wt_g5 50 rfl rfl, by decide⟩
theorem wt_pl_tx_spell : plainName (wt_y_tx_spell).cls = true := wt_qc7
abbrev wt_y_tx_wordAt : MethodName := ⟨"WornType$Texts", "wordAt", "(II)I"⟩
set_option maxRecDepth 100000 in
theorem wt_ya_tx_wordAt : wt_Ya wt_y_tx_wordAt prog_8_method_4_code 3 (Option.some Jvm.ClassFile.FieldType.int) 2 := ⟨⟨wt_qm7.1, wt_qm7.2, wt_qd2⟩, wt_g5 20 rfl rfl, by decide⟩
theorem wt_pl_tx_wordAt : plainName (wt_y_tx_wordAt).cls = true := wt_qc7
abbrev wt_y_tg_init : MethodName := ⟨"WornType$Tongue", "<init>", "()V"⟩
theorem wt_qc8 : plainName "WornType$Tongue" = true := by decide +kernel
theorem wt_qm8 : "WornType$Tongue" ≠ "java/lang/invoke/MethodHandle" ∧ "WornType$Tongue" ≠ "java/lang/invoke/VarHandle" := by decide
set_option maxRecDepth 100000 in
theorem wt_ya_tg_init : wt_Ya wt_y_tg_init prog_9_method_1_code 1 (Option.none : Option Jvm.ClassFile.FieldType) 0 := ⟨⟨wt_qm8.1, wt_qm8.2, wt_qd0⟩, wt_g1 122 rfl rfl, by decide⟩
theorem wt_pl_tg_init : plainName (wt_y_tg_init).cls = true := wt_qc8
abbrev wt_y_tg_become : MethodName := ⟨"WornType$Tongue", "become", "(LWornType$Tongue;)V"⟩
theorem wt_qd35 : (parseMethodDescriptor "(LWornType$Tongue;)V").map (fun d => d.parameters.length) = some 1 := by decide +kernel
set_option maxRecDepth 100000 in
theorem wt_ya_tg_become : wt_Ya wt_y_tg_become prog_9_method_2_code 2 (Option.none : Option Jvm.ClassFile.FieldType) 1 := ⟨⟨wt_qm8.1, wt_qm8.2, wt_qd35⟩, wt_g4 89 rfl rfl, by decide⟩
theorem wt_pl_tg_become : plainName (wt_y_tg_become).cls = true := wt_qc8
abbrev wt_y_tg_countInto : MethodName := ⟨"WornType$Tongue", "countInto", "(I[I)V"⟩
set_option maxRecDepth 100000 in
theorem wt_ya_tg_countInto : wt_Ya wt_y_tg_countInto prog_9_method_8_code 6 (Option.none : Option Jvm.ClassFile.FieldType) 2 := ⟨⟨wt_qm8.1, wt_qm8.2, wt_qd34⟩, wt_g4 112 rfl rfl, by decide⟩
theorem wt_pl_tg_countInto : plainName (wt_y_tg_countInto).cls = true := wt_qc8
abbrev wt_y_tg_fill : MethodName := ⟨"WornType$Tongue", "fill", "(LWornType$Tape;)Z"⟩
set_option maxRecDepth 100000 in
theorem wt_ya_tg_fill : wt_Ya wt_y_tg_fill prog_9_method_10_code 3 (Option.some Jvm.ClassFile.FieldType.boolean) 1 := ⟨⟨wt_qm8.1, wt_qm8.2, wt_qd14⟩, wt_g4 56 rfl rfl, by decide⟩
theorem wt_pl_tg_fill : plainName (wt_y_tg_fill).cls = true := wt_qc8
abbrev wt_y_tg_fillGroup : MethodName := ⟨"WornType$Tongue", "fillGroup", "(LWornType$Tape;)Z"⟩
set_option maxRecDepth 100000 in
theorem wt_ya_tg_fillGroup : wt_Ya wt_y_tg_fillGroup prog_9_method_12_code 4 (Option.some Jvm.ClassFile.FieldType.boolean) 1 := ⟨⟨wt_qm8.1, wt_qm8.2, wt_qd14⟩, wt_g4 61 rfl rfl, by decide⟩
theorem wt_pl_tg_fillGroup : plainName (wt_y_tg_fillGroup).cls = true := wt_qc8
abbrev wt_y_tg_fillWord : MethodName := ⟨"WornType$Tongue", "fillWord", "(LWornType$Tape;I)Z"⟩
set_option maxRecDepth 100000 in
theorem wt_ya_tg_fillWord : wt_Ya wt_y_tg_fillWord prog_9_method_13_code 5 (Option.some Jvm.ClassFile.FieldType.boolean) 2 := ⟨⟨wt_qm8.1, wt_qm8.2, wt_qd15⟩, wt_g4 65 rfl rfl, by decide⟩
theorem wt_pl_tg_fillWord : plainName (wt_y_tg_fillWord).cls = true := wt_qc8
abbrev wt_y_tg_find : MethodName := ⟨"WornType$Tongue", "find", "([II)I"⟩
set_option maxRecDepth 100000 in
theorem wt_ya_tg_find : wt_Ya wt_y_tg_find prog_9_method_9_code 4 (Option.some Jvm.ClassFile.FieldType.int) 2 := ⟨⟨wt_qm8.1, wt_qm8.2, wt_qd9⟩, wt_g4 71 rfl rfl, by decide⟩
theorem wt_pl_tg_find : plainName (wt_y_tg_find).cls = true := wt_qc8
abbrev wt_y_tg_firstLike : MethodName := ⟨"WornType$Tongue", "firstLike", "(I)I"⟩
set_option maxRecDepth 100000 in
theorem wt_ya_tg_firstLike : wt_Ya wt_y_tg_firstLike prog_9_method_5_code 2 (Option.some Jvm.ClassFile.FieldType.int) 1 := ⟨⟨wt_qm8.1, wt_qm8.2, wt_qd1⟩, wt_g5 190 rfl rfl, by decide⟩
theorem wt_pl_tg_firstLike : plainName (wt_y_tg_firstLike).cls = true := wt_qc8
abbrev wt_y_tg_has : MethodName := ⟨"WornType$Tongue", "has", "(I)Z"⟩
set_option maxRecDepth 100000 in
theorem wt_ya_tg_has : wt_Ya wt_y_tg_has prog_9_method_3_code 2 (Option.some Jvm.ClassFile.FieldType.boolean) 1 := ⟨⟨wt_qm8.1, wt_qm8.2, wt_qd19⟩, wt_g4 203 rfl rfl, by decide⟩
theorem wt_pl_tg_has : plainName (wt_y_tg_has).cls = true := wt_qc8
abbrev wt_y_tg_isSpelled : MethodName := ⟨"WornType$Tongue", "isSpelled", "(I[II)Z"⟩
theorem wt_qd36 : (parseMethodDescriptor "(I[II)Z").map (fun d => d.parameters.length) = some 3 := by decide +kernel
set_option maxRecDepth 100000 in
theorem wt_ya_tg_isSpelled : wt_Ya wt_y_tg_isSpelled prog_9_method_11_code 5 (Option.some Jvm.ClassFile.FieldType.boolean) 3 := ⟨⟨wt_qm8.1, wt_qm8.2, wt_qd36⟩, wt_g4 76 rfl rfl, by decide⟩
theorem wt_pl_tg_isSpelled : plainName (wt_y_tg_isSpelled).cls = true := wt_qc8
abbrev wt_y_tg_letterAt : MethodName := ⟨"WornType$Tongue", "letterAt", "(II)I"⟩
set_option maxRecDepth 100000 in
theorem wt_ya_tg_letterAt : wt_Ya wt_y_tg_letterAt prog_9_method_4_code 3 (Option.some Jvm.ClassFile.FieldType.int) 2 := ⟨⟨wt_qm8.1, wt_qm8.2, wt_qd2⟩, wt_g4 80 rfl rfl, by decide⟩
theorem wt_pl_tg_letterAt : plainName (wt_y_tg_letterAt).cls = true := wt_qc8
abbrev wt_y_tg_membersLike : MethodName := ⟨"WornType$Tongue", "membersLike", "(I)I"⟩
set_option maxRecDepth 100000 in
theorem wt_ya_tg_membersLike : wt_Ya wt_y_tg_membersLike prog_9_method_6_code 2 (Option.some Jvm.ClassFile.FieldType.int) 1 := ⟨⟨wt_qm8.1, wt_qm8.2, wt_qd1⟩, wt_g5 186 rfl rfl, by decide⟩
theorem wt_pl_tg_membersLike : plainName (wt_y_tg_membersLike).cls = true := wt_qc8
abbrev wt_y_tg_spell : MethodName := ⟨"WornType$Tongue", "spell", "(I[I)V"⟩
set_option maxRecDepth 100000 in
theorem wt_ya_tg_spell : wt_Ya wt_y_tg_spell prog_9_method_7_code 3 (Option.none : Option Jvm.ClassFile.FieldType) 2 := ⟨⟨wt_qm8.1, wt_qm8.2, wt_qd34⟩, wt_g4 232 rfl rfl, by decide⟩
theorem wt_pl_tg_spell : plainName (wt_y_tg_spell).cls = true := wt_qc8
abbrev wt_y_tr_init : MethodName := ⟨"WornType$Trade", "<init>", "(LWornType$Lead;LWornType$Texts;LWornType$State;LWornType$Stock;)V"⟩
theorem wt_qc9 : plainName "WornType$Trade" = true := by decide +kernel
theorem wt_qm9 : "WornType$Trade" ≠ "java/lang/invoke/MethodHandle" ∧ "WornType$Trade" ≠ "java/lang/invoke/VarHandle" := by decide
theorem wt_qd37 : (parseMethodDescriptor "(LWornType$Lead;LWornType$Texts;LWornType$State;LWornType$Stock;)V").map (fun d => d.parameters.length) = some 4 := by decide +kernel
set_option maxRecDepth 100000 in
theorem wt_ya_tr_init : wt_Ya wt_y_tr_init prog_10_method_1_code 5 (Option.none : Option Jvm.ClassFile.FieldType) 4 := ⟨⟨wt_qm9.1, wt_qm9.2, wt_qd37⟩, wt_g2 135 rfl rfl, by decide⟩
theorem wt_pl_tr_init : plainName (wt_y_tr_init).cls = true := wt_qc9
abbrev wt_y_tr_bestCast : MethodName := ⟨"WornType$Trade", "bestCast", "(II)I"⟩
set_option maxRecDepth 100000 in
theorem wt_ya_tr_bestCast : wt_Ya wt_y_tr_bestCast prog_10_method_3_code 7 (Option.some Jvm.ClassFile.FieldType.int) 2 := ⟨⟨wt_qm9.1, wt_qm9.2, wt_qd2⟩, wt_g6 170 rfl rfl, by decide⟩
theorem wt_pl_tr_bestCast : plainName (wt_y_tr_bestCast).cls = true := wt_qc9
abbrev wt_y_tr_bestExchange : MethodName := ⟨"WornType$Trade", "bestExchange", "(I)I"⟩
set_option maxRecDepth 100000 in
theorem wt_ya_tr_bestExchange : wt_Ya wt_y_tr_bestExchange prog_10_method_2_code 8 (Option.some Jvm.ClassFile.FieldType.int) 1 := ⟨⟨wt_qm9.1, wt_qm9.2, wt_qd1⟩, wt_g6 131 rfl rfl, by decide⟩
theorem wt_pl_tr_bestExchange : plainName (wt_y_tr_bestExchange).cls = true := wt_qc9
abbrev wt_y_tr_joined : MethodName := ⟨"WornType$Trade", "joined", "(III)I"⟩
set_option maxRecDepth 100000 in
theorem wt_ya_tr_joined : wt_Ya wt_y_tr_joined prog_10_method_8_code 3 (Option.some Jvm.ClassFile.FieldType.int) 3 := ⟨⟨wt_qm9.1, wt_qm9.2, wt_qd8⟩, wt_g6 151 rfl rfl, by decide⟩
theorem wt_pl_tr_joined : plainName (wt_y_tr_joined).cls = true := wt_qc9
abbrev wt_y_tr_leastOf : MethodName := ⟨"WornType$Trade", "leastOf", "(II)I"⟩
set_option maxRecDepth 100000 in
theorem wt_ya_tr_leastOf : wt_Ya wt_y_tr_leastOf prog_10_method_9_code 6 (Option.some Jvm.ClassFile.FieldType.int) 2 := ⟨⟨wt_qm9.1, wt_qm9.2, wt_qd2⟩, wt_g6 157 rfl rfl, by decide⟩
theorem wt_pl_tr_leastOf : plainName (wt_y_tr_leastOf).cls = true := wt_qc9
abbrev wt_y_tr_mostAtOnce : MethodName := ⟨"WornType$Trade", "mostAtOnce", "(I)I"⟩
set_option maxRecDepth 100000 in
theorem wt_ya_tr_mostAtOnce : wt_Ya wt_y_tr_mostAtOnce prog_10_method_4_code 4 (Option.some Jvm.ClassFile.FieldType.int) 1 := ⟨⟨wt_qm9.1, wt_qm9.2, wt_qd1⟩, wt_g6 181 rfl rfl, by decide⟩
theorem wt_pl_tr_mostAtOnce : plainName (wt_y_tr_mostAtOnce).cls = true := wt_qc9
abbrev wt_y_tr_reachWithoutLeast : MethodName := ⟨"WornType$Trade", "reachWithoutLeast", "(II)I"⟩
set_option maxRecDepth 100000 in
theorem wt_ya_tr_reachWithoutLeast : wt_Ya wt_y_tr_reachWithoutLeast prog_10_method_7_code 3 (Option.some Jvm.ClassFile.FieldType.int) 2 := ⟨⟨wt_qm9.1, wt_qm9.2, wt_qd2⟩, wt_g6 146 rfl rfl, by decide⟩
theorem wt_pl_tr_reachWithoutLeast : plainName (wt_y_tr_reachWithoutLeast).cls = true := wt_qc9
abbrev wt_y_tr_standAtOnce : MethodName := ⟨"WornType$Trade", "standAtOnce", "(I)Z"⟩
set_option maxRecDepth 100000 in
theorem wt_ya_tr_standAtOnce : wt_Ya wt_y_tr_standAtOnce prog_10_method_5_code 5 (Option.some Jvm.ClassFile.FieldType.boolean) 1 := ⟨⟨wt_qm9.1, wt_qm9.2, wt_qd19⟩, wt_g6 192 rfl rfl, by decide⟩
theorem wt_pl_tr_standAtOnce : plainName (wt_y_tr_standAtOnce).cls = true := wt_qc9
abbrev wt_y_tr_weigh : MethodName := ⟨"WornType$Trade", "weigh", "(III)V"⟩
theorem wt_qd38 : (parseMethodDescriptor "(III)V").map (fun d => d.parameters.length) = some 3 := by decide +kernel
set_option maxRecDepth 100000 in
theorem wt_ya_tr_weigh : wt_Ya wt_y_tr_weigh prog_10_method_6_code 7 (Option.none : Option Jvm.ClassFile.FieldType) 3 := ⟨⟨wt_qm9.1, wt_qm9.2, wt_qd38⟩, wt_g6 140 rfl rfl, by decide⟩
theorem wt_pl_tr_weigh : plainName (wt_y_tr_weigh).cls = true := wt_qc9
abbrev wt_y_wk_init : MethodName := ⟨"WornType$Weeks", "<init>", "(LWornType$Tongue;LWornType$Texts;LWornType$State;LWornType$Stock;)V"⟩
theorem wt_qc10 : plainName "WornType$Weeks" = true := by decide +kernel
theorem wt_qm10 : "WornType$Weeks" ≠ "java/lang/invoke/MethodHandle" ∧ "WornType$Weeks" ≠ "java/lang/invoke/VarHandle" := by decide
theorem wt_qd39 : (parseMethodDescriptor "(LWornType$Tongue;LWornType$Texts;LWornType$State;LWornType$Stock;)V").map (fun d => d.parameters.length) = some 4 := by decide +kernel
set_option maxRecDepth 100000 in
theorem wt_ya_wk_init : wt_Ya wt_y_wk_init prog_11_method_1_code 5 (Option.none : Option Jvm.ClassFile.FieldType) 4 := ⟨⟨wt_qm10.1, wt_qm10.2, wt_qd39⟩, wt_g2 90 rfl rfl, by decide⟩
theorem wt_pl_wk_init : plainName (wt_y_wk_init).cls = true := wt_qc10
abbrev wt_y_wk_boundBy : MethodName := ⟨"WornType$Weeks", "boundBy", "(I)I"⟩
set_option maxRecDepth 100000 in
theorem wt_ya_wk_boundBy : wt_Ya wt_y_wk_boundBy prog_11_method_14_code 9 (Option.some Jvm.ClassFile.FieldType.int) 1 := ⟨⟨wt_qm10.1, wt_qm10.2, wt_qd1⟩, wt_g3 1 rfl rfl, by decide⟩
theorem wt_pl_wk_boundBy : plainName (wt_y_wk_boundBy).cls = true := wt_qc10
abbrev wt_y_wk_dearestOf : MethodName := ⟨"WornType$Weeks", "dearestOf", "(II)I"⟩
set_option maxRecDepth 100000 in
theorem wt_ya_wk_dearestOf : wt_Ya wt_y_wk_dearestOf prog_11_method_16_code 5 (Option.some Jvm.ClassFile.FieldType.int) 2 := ⟨⟨wt_qm10.1, wt_qm10.2, wt_qd2⟩, wt_g3 20 rfl rfl, by decide⟩
theorem wt_pl_wk_dearestOf : plainName (wt_y_wk_dearestOf).cls = true := wt_qc10
abbrev wt_y_wk_findMost : MethodName := ⟨"WornType$Weeks", "findMost", "()V"⟩
set_option maxRecDepth 100000 in
theorem wt_ya_wk_findMost : wt_Ya wt_y_wk_findMost prog_11_method_2_code 1 (Option.none : Option Jvm.ClassFile.FieldType) 0 := ⟨⟨wt_qm10.1, wt_qm10.2, wt_qd0⟩, wt_g6 40 rfl rfl, by decide⟩
theorem wt_pl_wk_findMost : plainName (wt_y_wk_findMost).cls = true := wt_qc10
abbrev wt_y_wk_firstLost : MethodName := ⟨"WornType$Weeks", "firstLost", "(I)I"⟩
set_option maxRecDepth 100000 in
theorem wt_ya_wk_firstLost : wt_Ya wt_y_wk_firstLost prog_11_method_6_code 4 (Option.some Jvm.ClassFile.FieldType.int) 1 := ⟨⟨wt_qm10.1, wt_qm10.2, wt_qd1⟩, wt_g6 120 rfl rfl, by decide⟩
theorem wt_pl_wk_firstLost : plainName (wt_y_wk_firstLost).cls = true := wt_qc10
abbrev wt_y_wk_keep : MethodName := ⟨"WornType$Weeks", "keep", "(II)V"⟩
set_option maxRecDepth 100000 in
theorem wt_ya_wk_keep : wt_Ya wt_y_wk_keep prog_11_method_9_code 3 (Option.none : Option Jvm.ClassFile.FieldType) 2 := ⟨⟨wt_qm10.1, wt_qm10.2, wt_qd20⟩, wt_g6 52 rfl rfl, by decide⟩
theorem wt_pl_wk_keep : plainName (wt_y_wk_keep).cls = true := wt_qc10
abbrev wt_y_wk_leastBound : MethodName := ⟨"WornType$Weeks", "leastBound", "()I"⟩
set_option maxRecDepth 100000 in
theorem wt_ya_wk_leastBound : wt_Ya wt_y_wk_leastBound prog_11_method_7_code 3 (Option.some Jvm.ClassFile.FieldType.int) 0 := ⟨⟨wt_qm10.1, wt_qm10.2, wt_qd3⟩, wt_g2 237 rfl rfl, by decide⟩
theorem wt_pl_wk_leastBound : plainName (wt_y_wk_leastBound).cls = true := wt_qc10
abbrev wt_y_wk_printGreedily : MethodName := ⟨"WornType$Weeks", "printGreedily", "(I)V"⟩
set_option maxRecDepth 100000 in
theorem wt_ya_wk_printGreedily : wt_Ya wt_y_wk_printGreedily prog_11_method_3_code 4 (Option.none : Option Jvm.ClassFile.FieldType) 1 := ⟨⟨wt_qm10.1, wt_qm10.2, wt_qd12⟩, wt_g6 76 rfl rfl, by decide⟩
theorem wt_pl_wk_printGreedily : plainName (wt_y_wk_printGreedily).cls = true := wt_qc10
abbrev wt_y_wk_printNext : MethodName := ⟨"WornType$Weeks", "printNext", "(I)V"⟩
set_option maxRecDepth 100000 in
theorem wt_ya_wk_printNext : wt_Ya wt_y_wk_printNext prog_11_method_11_code 2 (Option.none : Option Jvm.ClassFile.FieldType) 1 := ⟨⟨wt_qm10.1, wt_qm10.2, wt_qd12⟩, wt_g6 84 rfl rfl, by decide⟩
theorem wt_pl_wk_printNext : plainName (wt_y_wk_printNext).cls = true := wt_qc10
abbrev wt_y_wk_printOne : MethodName := ⟨"WornType$Weeks", "printOne", "(I[I)Z"⟩
theorem wt_qd40 : (parseMethodDescriptor "(I[I)Z").map (fun d => d.parameters.length) = some 2 := by decide +kernel
set_option maxRecDepth 100000 in
theorem wt_ya_wk_printOne : wt_Ya wt_y_wk_printOne prog_11_method_12_code 4 (Option.some Jvm.ClassFile.FieldType.boolean) 2 := ⟨⟨wt_qm10.1, wt_qm10.2, wt_qd40⟩, wt_g6 57 rfl rfl, by decide⟩
theorem wt_pl_wk_printOne : plainName (wt_y_wk_printOne).cls = true := wt_qc10
abbrev wt_y_wk_printsOf : MethodName := ⟨"WornType$Weeks", "printsOf", "(II)I"⟩
set_option maxRecDepth 100000 in
theorem wt_ya_wk_printsOf : wt_Ya wt_y_wk_printsOf prog_11_method_15_code 3 (Option.some Jvm.ClassFile.FieldType.int) 2 := ⟨⟨wt_qm10.1, wt_qm10.2, wt_qd2⟩, wt_g3 25 rfl rfl, by decide⟩
theorem wt_pl_wk_printsOf : plainName (wt_y_wk_printsOf).cls = true := wt_qc10
abbrev wt_y_wk_sortByWeek : MethodName := ⟨"WornType$Weeks", "sortByWeek", "()V"⟩
set_option maxRecDepth 100000 in
theorem wt_ya_wk_sortByWeek : wt_Ya wt_y_wk_sortByWeek prog_11_method_13_code 4 (Option.none : Option Jvm.ClassFile.FieldType) 0 := ⟨⟨wt_qm10.1, wt_qm10.2, wt_qd0⟩, wt_g6 44 rfl rfl, by decide⟩
theorem wt_pl_wk_sortByWeek : plainName (wt_y_wk_sortByWeek).cls = true := wt_qc10
abbrev wt_y_wk_startGreedy : MethodName := ⟨"WornType$Weeks", "startGreedy", "()V"⟩
set_option maxRecDepth 100000 in
theorem wt_ya_wk_startGreedy : wt_Ya wt_y_wk_startGreedy prog_11_method_10_code 1 (Option.none : Option Jvm.ClassFile.FieldType) 0 := ⟨⟨wt_qm10.1, wt_qm10.2, wt_qd0⟩, wt_g6 80 rfl rfl, by decide⟩
theorem wt_pl_wk_startGreedy : plainName (wt_y_wk_startGreedy).cls = true := wt_qc10
abbrev wt_y_wk_stillSaid : MethodName := ⟨"WornType$Weeks", "stillSaid", "(I)I"⟩
set_option maxRecDepth 100000 in
theorem wt_ya_wk_stillSaid : wt_Ya wt_y_wk_stillSaid prog_11_method_4_code 2 (Option.some Jvm.ClassFile.FieldType.int) 1 := ⟨⟨wt_qm10.1, wt_qm10.2, wt_qd1⟩, wt_g6 95 rfl rfl, by decide⟩
theorem wt_pl_wk_stillSaid : plainName (wt_y_wk_stillSaid).cls = true := wt_qc10
abbrev wt_y_wk_tryFrom : MethodName := ⟨"WornType$Weeks", "tryFrom", "(LWornType$Weeks;[IIII)V"⟩
theorem wt_qd41 : (parseMethodDescriptor "(LWornType$Weeks;[IIII)V").map (fun d => d.parameters.length) = some 5 := by decide +kernel
set_option maxRecDepth 100000 in
theorem wt_ya_wk_tryFrom : wt_Ya wt_y_wk_tryFrom prog_11_method_8_code 7 (Option.none : Option Jvm.ClassFile.FieldType) 5 := ⟨⟨wt_qm10.1, wt_qm10.2, wt_qd41⟩, wt_g6 48 rfl rfl, by decide⟩
theorem wt_pl_wk_tryFrom : plainName (wt_y_wk_tryFrom).cls = true := wt_qc10
abbrev wt_y_wk_wordsLost : MethodName := ⟨"WornType$Weeks", "wordsLost", "()I"⟩
set_option maxRecDepth 100000 in
theorem wt_ya_wk_wordsLost : wt_Ya wt_y_wk_wordsLost prog_11_method_5_code 3 (Option.some Jvm.ClassFile.FieldType.int) 0 := ⟨⟨wt_qm10.1, wt_qm10.2, wt_qd3⟩, wt_g6 108 rfl rfl, by decide⟩
theorem wt_pl_wk_wordsLost : plainName (wt_y_wk_wordsLost).cls = true := wt_qc10
abbrev wt_y_md_init : MethodName := ⟨"WornTypeModel", "<init>", "()V"⟩
theorem wt_qc11 : plainName "WornTypeModel" = true := by decide +kernel
theorem wt_qm11 : "WornTypeModel" ≠ "java/lang/invoke/MethodHandle" ∧ "WornTypeModel" ≠ "java/lang/invoke/VarHandle" := by decide
set_option maxRecDepth 100000 in
theorem wt_ya_md_init : wt_Ya wt_y_md_init prog_13_method_1_code 2 (Option.none : Option Jvm.ClassFile.FieldType) 0 := ⟨⟨wt_qm11.1, wt_qm11.2, wt_qd0⟩, wt_g6 197 rfl rfl, by decide⟩
theorem wt_pl_md_init : plainName (wt_y_md_init).cls = true := wt_qc11
abbrev wt_y_md_allPieces : MethodName := ⟨"WornTypeModel", "allPieces", "()I"⟩
set_option maxRecDepth 100000 in
theorem wt_ya_md_allPieces : wt_Ya wt_y_md_allPieces prog_13_method_23_code 3 (Option.some Jvm.ClassFile.FieldType.int) 0 := ⟨⟨wt_qm11.1, wt_qm11.2, wt_qd3⟩, wt_g7 236 rfl rfl, by decide⟩
theorem wt_pl_md_allPieces : plainName (wt_y_md_allPieces).cls = true := wt_qc11
abbrev wt_y_md_apart : MethodName := ⟨"WornTypeModel", "apart", "(I)I"⟩
set_option maxRecDepth 100000 in
theorem wt_ya_md_apart : wt_Ya wt_y_md_apart prog_13_method_59_code 2 (Option.some Jvm.ClassFile.FieldType.int) 1 := ⟨⟨wt_qm11.1, wt_qm11.2, wt_qd1⟩, wt_g8 134 rfl rfl, by decide⟩
theorem wt_pl_md_apart : plainName (wt_y_md_apart).cls = true := wt_qc11
abbrev wt_y_md_at : MethodName := ⟨"WornTypeModel", "at", "(II)I"⟩
set_option maxRecDepth 100000 in
theorem wt_ya_md_at : wt_Ya wt_y_md_at prog_13_method_46_code 3 (Option.some Jvm.ClassFile.FieldType.int) 2 := ⟨⟨wt_qm11.1, wt_qm11.2, wt_qd2⟩, wt_g8 79 rfl rfl, by decide⟩
theorem wt_pl_md_at : plainName (wt_y_md_at).cls = true := wt_qc11
abbrev wt_y_md_bad : MethodName := ⟨"WornTypeModel", "bad", "(ZI)Z"⟩
theorem wt_qd42 : (parseMethodDescriptor "(ZI)Z").map (fun d => d.parameters.length) = some 2 := by decide +kernel
set_option maxRecDepth 100000 in
theorem wt_ya_md_bad : wt_Ya wt_y_md_bad prog_13_method_3_code 3 (Option.some Jvm.ClassFile.FieldType.boolean) 2 := ⟨⟨wt_qm11.1, wt_qm11.2, wt_qd42⟩, wt_g7 175 rfl rfl, by decide⟩
theorem wt_pl_md_bad : plainName (wt_y_md_bad).cls = true := wt_qc11
abbrev wt_y_md_blanks : MethodName := ⟨"WornTypeModel", "blanks", "()V"⟩
set_option maxRecDepth 100000 in
theorem wt_ya_md_blanks : wt_Ya wt_y_md_blanks prog_13_method_7_code 1 (Option.none : Option Jvm.ClassFile.FieldType) 0 := ⟨⟨wt_qm11.1, wt_qm11.2, wt_qd0⟩, wt_g7 183 rfl rfl, by decide⟩
theorem wt_pl_md_blanks : plainName (wt_y_md_blanks).cls = true := wt_qc11
abbrev wt_y_md_bound : MethodName := ⟨"WornTypeModel", "bound", "()I"⟩
set_option maxRecDepth 100000 in
theorem wt_ya_md_bound : wt_Ya wt_y_md_bound prog_13_method_82_code 3 (Option.some Jvm.ClassFile.FieldType.int) 0 := ⟨⟨wt_qm11.1, wt_qm11.2, wt_qd3⟩, wt_g8 223 rfl rfl, by decide⟩
theorem wt_pl_md_bound : plainName (wt_y_md_bound).cls = true := wt_qc11
abbrev wt_y_md_boundOf : MethodName := ⟨"WornTypeModel", "boundOf", "(I)I"⟩
set_option maxRecDepth 100000 in
theorem wt_ya_md_boundOf : wt_Ya wt_y_md_boundOf prog_13_method_81_code 7 (Option.some Jvm.ClassFile.FieldType.int) 1 := ⟨⟨wt_qm11.1, wt_qm11.2, wt_qd1⟩, wt_g8 227 rfl rfl, by decide⟩
theorem wt_pl_md_boundOf : plainName (wt_y_md_boundOf).cls = true := wt_qc11
abbrev wt_y_md_byteAt : MethodName := ⟨"WornTypeModel", "byteAt", "(I)I"⟩
set_option maxRecDepth 100000 in
theorem wt_ya_md_byteAt : wt_Ya wt_y_md_byteAt prog_13_method_6_code 2 (Option.some Jvm.ClassFile.FieldType.int) 1 := ⟨⟨wt_qm11.1, wt_qm11.2, wt_qd1⟩, wt_g7 187 rfl rfl, by decide⟩
theorem wt_pl_md_byteAt : plainName (wt_y_md_byteAt).cls = true := wt_qc11
abbrev wt_y_md_can : MethodName := ⟨"WornTypeModel", "can", "(I)I"⟩
set_option maxRecDepth 100000 in
theorem wt_ya_md_can : wt_Ya wt_y_md_can prog_13_method_49_code 2 (Option.some Jvm.ClassFile.FieldType.int) 1 := ⟨⟨wt_qm11.1, wt_qm11.2, wt_qd1⟩, wt_g8 99 rfl rfl, by decide⟩
theorem wt_pl_md_can : plainName (wt_y_md_can).cls = true := wt_qc11
abbrev wt_y_md_canWord : MethodName := ⟨"WornTypeModel", "canWord", "(I)I"⟩
set_option maxRecDepth 100000 in
theorem wt_ya_md_canWord : wt_Ya wt_y_md_canWord prog_13_method_43_code 2 (Option.some Jvm.ClassFile.FieldType.int) 1 := ⟨⟨wt_qm11.1, wt_qm11.2, wt_qd1⟩, wt_g8 55 rfl rfl, by decide⟩
theorem wt_pl_md_canWord : plainName (wt_y_md_canWord).cls = true := wt_qc11
abbrev wt_y_md_cast : MethodName := ⟨"WornTypeModel", "cast", "(II)I"⟩
set_option maxRecDepth 100000 in
theorem wt_ya_md_cast : wt_Ya wt_y_md_cast prog_13_method_89_code 7 (Option.some Jvm.ClassFile.FieldType.int) 2 := ⟨⟨wt_qm11.1, wt_qm11.2, wt_qd2⟩, wt_g9 14 rfl rfl, by decide⟩
theorem wt_pl_md_cast : plainName (wt_y_md_cast).cls = true := wt_qc11
abbrev wt_y_md_cell : MethodName := ⟨"WornTypeModel", "cell", "(II)I"⟩
set_option maxRecDepth 100000 in
theorem wt_ya_md_cell : wt_Ya wt_y_md_cell prog_13_method_20_code 2 (Option.some Jvm.ClassFile.FieldType.int) 2 := ⟨⟨wt_qm11.1, wt_qm11.2, wt_qd2⟩, wt_g7 228 rfl rfl, by decide⟩
theorem wt_pl_md_cell : plainName (wt_y_md_cell).cls = true := wt_qc11
abbrev wt_y_md_clause : MethodName := ⟨"WornTypeModel", "clause", "()V"⟩
set_option maxRecDepth 100000 in
theorem wt_ya_md_clause : wt_Ya wt_y_md_clause prog_13_method_21_code 5 (Option.none : Option Jvm.ClassFile.FieldType) 0 := ⟨⟨wt_qm11.1, wt_qm11.2, wt_qd0⟩, wt_g7 191 rfl rfl, by decide⟩
theorem wt_pl_md_clause : plainName (wt_y_md_clause).cls = true := wt_qc11
abbrev wt_y_md_clearsCase : MethodName := ⟨"WornTypeModel", "clearsCase", "()V"⟩
set_option maxRecDepth 100000 in
theorem wt_ya_md_clearsCase : wt_Ya wt_y_md_clearsCase prog_13_method_18_code 2 (Option.none : Option Jvm.ClassFile.FieldType) 0 := ⟨⟨wt_qm11.1, wt_qm11.2, wt_qd0⟩, wt_g6 203 rfl rfl, by decide⟩
theorem wt_pl_md_clearsCase : plainName (wt_y_md_clearsCase).cls = true := wt_qc11
abbrev wt_y_md_closes : MethodName := ⟨"WornTypeModel", "closes", "(I)V"⟩
set_option maxRecDepth 100000 in
theorem wt_ya_md_closes : wt_Ya wt_y_md_closes prog_13_method_16_code 2 (Option.none : Option Jvm.ClassFile.FieldType) 1 := ⟨⟨wt_qm11.1, wt_qm11.2, wt_qd12⟩, wt_g7 232 rfl rfl, by decide⟩
theorem wt_pl_md_closes : plainName (wt_y_md_closes).cls = true := wt_qc11
abbrev wt_y_md_count : MethodName := ⟨"WornTypeModel", "count", "(I)I"⟩
set_option maxRecDepth 100000 in
theorem wt_ya_md_count : wt_Ya wt_y_md_count prog_13_method_96_code 2 (Option.some Jvm.ClassFile.FieldType.int) 1 := ⟨⟨wt_qm11.1, wt_qm11.2, wt_qd1⟩, wt_g9 41 rfl rfl, by decide⟩
theorem wt_pl_md_count : plainName (wt_y_md_count).cls = true := wt_qc11
abbrev wt_y_md_ends : MethodName := ⟨"WornTypeModel", "ends", "(I)I"⟩
set_option maxRecDepth 100000 in
theorem wt_ya_md_ends : wt_Ya wt_y_md_ends prog_13_method_86_code 4 (Option.some Jvm.ClassFile.FieldType.int) 1 := ⟨⟨wt_qm11.1, wt_qm11.2, wt_qd1⟩, wt_g9 2 rfl rfl, by decide⟩
theorem wt_pl_md_ends : plainName (wt_y_md_ends).cls = true := wt_qc11
abbrev wt_y_md_exchange : MethodName := ⟨"WornTypeModel", "exchange", "(I)I"⟩
set_option maxRecDepth 100000 in
theorem wt_ya_md_exchange : wt_Ya wt_y_md_exchange prog_13_method_87_code 10 (Option.some Jvm.ClassFile.FieldType.int) 1 := ⟨⟨wt_qm11.1, wt_qm11.2, wt_qd1⟩, wt_g9 6 rfl rfl, by decide⟩
theorem wt_pl_md_exchange : plainName (wt_y_md_exchange).cls = true := wt_qc11
abbrev wt_y_md_fault : MethodName := ⟨"WornTypeModel", "fault", "()I"⟩
set_option maxRecDepth 100000 in
theorem wt_ya_md_fault : wt_Ya wt_y_md_fault prog_13_method_29_code 1 (Option.some Jvm.ClassFile.FieldType.int) 0 := ⟨⟨wt_qm11.1, wt_qm11.2, wt_qd3⟩, wt_g8 20 rfl rfl, by decide⟩
theorem wt_pl_md_fault : plainName (wt_y_md_fault).cls = true := wt_qc11
abbrev wt_y_md_feed : MethodName := ⟨"WornTypeModel", "feed", "(IIIII)I"⟩
set_option maxRecDepth 100000 in
theorem wt_ya_md_feed : wt_Ya wt_y_md_feed prog_13_method_5_code 8 (Option.some Jvm.ClassFile.FieldType.int) 5 := ⟨⟨wt_qm11.1, wt_qm11.2, wt_qd5⟩, wt_g7 164 rfl rfl, by decide⟩
theorem wt_pl_md_feed : plainName (wt_y_md_feed).cls = true := wt_qc11
abbrev wt_y_md_fitting : MethodName := ⟨"WornTypeModel", "fitting", "(IIII)I"⟩
set_option maxRecDepth 100000 in
theorem wt_ya_md_fitting : wt_Ya wt_y_md_fitting prog_13_method_69_code 9 (Option.some Jvm.ClassFile.FieldType.int) 4 := ⟨⟨wt_qm11.1, wt_qm11.2, wt_qd7⟩, wt_g8 171 rfl rfl, by decide⟩
theorem wt_pl_md_fitting : plainName (wt_y_md_fitting).cls = true := wt_qc11
abbrev wt_y_md_forget : MethodName := ⟨"WornTypeModel", "forget", "()I"⟩
set_option maxRecDepth 100000 in
theorem wt_ya_md_forget : wt_Ya wt_y_md_forget prog_13_method_72_code 2 (Option.some Jvm.ClassFile.FieldType.int) 0 := ⟨⟨wt_qm11.1, wt_qm11.2, wt_qd3⟩, wt_g8 187 rfl rfl, by decide⟩
theorem wt_pl_md_forget : plainName (wt_y_md_forget).cls = true := wt_qc11
abbrev wt_y_md_goodFor : MethodName := ⟨"WornTypeModel", "goodFor", "(II)I"⟩
set_option maxRecDepth 100000 in
theorem wt_ya_md_goodFor : wt_Ya wt_y_md_goodFor prog_13_method_38_code 5 (Option.some Jvm.ClassFile.FieldType.int) 2 := ⟨⟨wt_qm11.1, wt_qm11.2, wt_qd2⟩, wt_g8 75 rfl rfl, by decide⟩
theorem wt_pl_md_goodFor : plainName (wt_y_md_goodFor).cls = true := wt_qc11
abbrev wt_y_md_greedy : MethodName := ⟨"WornTypeModel", "greedy", "(I)I"⟩
set_option maxRecDepth 100000 in
theorem wt_ya_md_greedy : wt_Ya wt_y_md_greedy prog_13_method_80_code 3 (Option.some Jvm.ClassFile.FieldType.int) 1 := ⟨⟨wt_qm11.1, wt_qm11.2, wt_qd1⟩, wt_g8 215 rfl rfl, by decide⟩
theorem wt_pl_md_greedy : plainName (wt_y_md_greedy).cls = true := wt_qc11
abbrev wt_y_md_greedyAhead : MethodName := ⟨"WornTypeModel", "greedyAhead", "(I)I"⟩
set_option maxRecDepth 100000 in
theorem wt_ya_md_greedyAhead : wt_Ya wt_y_md_greedyAhead prog_13_method_79_code 2 (Option.some Jvm.ClassFile.FieldType.int) 1 := ⟨⟨wt_qm11.1, wt_qm11.2, wt_qd1⟩, wt_g8 219 rfl rfl, by decide⟩
theorem wt_pl_md_greedyAhead : plainName (wt_y_md_greedyAhead).cls = true := wt_qc11
abbrev wt_y_md_habit : MethodName := ⟨"WornTypeModel", "habit", "(I)I"⟩
set_option maxRecDepth 100000 in
theorem wt_ya_md_habit : wt_Ya wt_y_md_habit prog_13_method_48_code 3 (Option.some Jvm.ClassFile.FieldType.int) 1 := ⟨⟨wt_qm11.1, wt_qm11.2, wt_qd1⟩, wt_g8 95 rfl rfl, by decide⟩
theorem wt_pl_md_habit : plainName (wt_y_md_habit).cls = true := wt_qc11
abbrev wt_y_md_image : MethodName := ⟨"WornTypeModel", "image", "()I"⟩
set_option maxRecDepth 100000 in
theorem wt_ya_md_image : wt_Ya wt_y_md_image prog_13_method_94_code 1 (Option.some Jvm.ClassFile.FieldType.int) 0 := ⟨⟨wt_qm11.1, wt_qm11.2, wt_qd3⟩, wt_g9 25 rfl rfl, by decide⟩
theorem wt_pl_md_image : plainName (wt_y_md_image).cls = true := wt_qc11
abbrev wt_y_md_in : MethodName := ⟨"WornTypeModel", "in", "(III)Z"⟩
theorem wt_qd43 : (parseMethodDescriptor "(III)Z").map (fun d => d.parameters.length) = some 3 := by decide +kernel
set_option maxRecDepth 100000 in
theorem wt_ya_md_in : wt_Ya wt_y_md_in prog_13_method_4_code 3 (Option.some Jvm.ClassFile.FieldType.boolean) 3 := ⟨⟨wt_qm11.1, wt_qm11.2, wt_qd43⟩, wt_g7 171 rfl rfl, by decide⟩
theorem wt_pl_md_in : plainName (wt_y_md_in).cls = true := wt_qc11
abbrev wt_y_md_isCopies : MethodName := ⟨"WornTypeModel", "isCopies", "(I)Z"⟩
set_option maxRecDepth 100000 in
theorem wt_ya_md_isCopies : wt_Ya wt_y_md_isCopies prog_13_method_50_code 1 (Option.some Jvm.ClassFile.FieldType.boolean) 1 := ⟨⟨wt_qm11.1, wt_qm11.2, wt_qd19⟩, wt_g8 106 rfl rfl, by decide⟩
theorem wt_pl_md_isCopies : plainName (wt_y_md_isCopies).cls = true := wt_qc11
abbrev wt_y_md_isDigit : MethodName := ⟨"WornTypeModel", "isDigit", "(I)Z"⟩
set_option maxRecDepth 100000 in
theorem wt_ya_md_isDigit : wt_Ya wt_y_md_isDigit prog_13_method_9_code 1 (Option.some Jvm.ClassFile.FieldType.boolean) 1 := ⟨⟨wt_qm11.1, wt_qm11.2, wt_qd19⟩, wt_g7 224 rfl rfl, by decide⟩
theorem wt_pl_md_isDigit : plainName (wt_y_md_isDigit).cls = true := wt_qc11
abbrev wt_y_md_isLetter : MethodName := ⟨"WornTypeModel", "isLetter", "(I)Z"⟩
set_option maxRecDepth 100000 in
theorem wt_ya_md_isLetter : wt_Ya wt_y_md_isLetter prog_13_method_32_code 1 (Option.some Jvm.ClassFile.FieldType.boolean) 1 := ⟨⟨wt_qm11.1, wt_qm11.2, wt_qd19⟩, wt_g8 35 rfl rfl, by decide⟩
theorem wt_pl_md_isLetter : plainName (wt_y_md_isLetter).cls = true := wt_qc11
abbrev wt_y_md_isOf : MethodName := ⟨"WornTypeModel", "isOf", "(III)Z"⟩
set_option maxRecDepth 100000 in
theorem wt_ya_md_isOf : wt_Ya wt_y_md_isOf prog_13_method_65_code 4 (Option.some Jvm.ClassFile.FieldType.boolean) 3 := ⟨⟨wt_qm11.1, wt_qm11.2, wt_qd43⟩, wt_g8 162 rfl rfl, by decide⟩
theorem wt_pl_md_isOf : plainName (wt_y_md_isOf).cls = true := wt_qc11
abbrev wt_y_md_isPage : MethodName := ⟨"WornTypeModel", "isPage", "(I)Z"⟩
set_option maxRecDepth 100000 in
theorem wt_ya_md_isPage : wt_Ya wt_y_md_isPage prog_13_method_55_code 2 (Option.some Jvm.ClassFile.FieldType.boolean) 1 := ⟨⟨wt_qm11.1, wt_qm11.2, wt_qd19⟩, wt_g8 126 rfl rfl, by decide⟩
theorem wt_pl_md_isPage : plainName (wt_y_md_isPage).cls = true := wt_qc11
abbrev wt_y_md_isPrinted : MethodName := ⟨"WornTypeModel", "isPrinted", "(I)Z"⟩
set_option maxRecDepth 100000 in
theorem wt_ya_md_isPrinted : wt_Ya wt_y_md_isPrinted prog_13_method_75_code 3 (Option.some Jvm.ClassFile.FieldType.boolean) 1 := ⟨⟨wt_qm11.1, wt_qm11.2, wt_qd19⟩, wt_g8 203 rfl rfl, by decide⟩
theorem wt_pl_md_isPrinted : plainName (wt_y_md_isPrinted).cls = true := wt_qc11
abbrev wt_y_md_isSmall : MethodName := ⟨"WornTypeModel", "isSmall", "(I)Z"⟩
set_option maxRecDepth 100000 in
theorem wt_ya_md_isSmall : wt_Ya wt_y_md_isSmall prog_13_method_10_code 1 (Option.some Jvm.ClassFile.FieldType.boolean) 1 := ⟨⟨wt_qm11.1, wt_qm11.2, wt_qd19⟩, wt_g7 205 rfl rfl, by decide⟩
theorem wt_pl_md_isSmall : plainName (wt_y_md_isSmall).cls = true := wt_qc11
abbrev wt_y_md_isText : MethodName := ⟨"WornTypeModel", "isText", "(I)Z"⟩
set_option maxRecDepth 100000 in
theorem wt_ya_md_isText : wt_Ya wt_y_md_isText prog_13_method_45_code 2 (Option.some Jvm.ClassFile.FieldType.boolean) 1 := ⟨⟨wt_qm11.1, wt_qm11.2, wt_qd19⟩, wt_g8 83 rfl rfl, by decide⟩
theorem wt_pl_md_isText : plainName (wt_y_md_isText).cls = true := wt_qc11
abbrev wt_y_md_isWeek : MethodName := ⟨"WornTypeModel", "isWeek", "(I)Z"⟩
set_option maxRecDepth 100000 in
theorem wt_ya_md_isWeek : wt_Ya wt_y_md_isWeek prog_13_method_83_code 1 (Option.some Jvm.ClassFile.FieldType.boolean) 1 := ⟨⟨wt_qm11.1, wt_qm11.2, wt_qd19⟩, wt_g8 234 rfl rfl, by decide⟩
theorem wt_pl_md_isWeek : plainName (wt_y_md_isWeek).cls = true := wt_qc11
abbrev wt_y_md_isWord : MethodName := ⟨"WornTypeModel", "isWord", "(I)Z"⟩
set_option maxRecDepth 100000 in
theorem wt_ya_md_isWord : wt_Ya wt_y_md_isWord prog_13_method_14_code 5 (Option.some Jvm.ClassFile.FieldType.boolean) 1 := ⟨⟨wt_qm11.1, wt_qm11.2, wt_qd19⟩, wt_g7 198 rfl rfl, by decide⟩
theorem wt_pl_md_isWord : plainName (wt_y_md_isWord).cls = true := wt_qc11
abbrev wt_y_md_isWordNumber : MethodName := ⟨"WornTypeModel", "isWordNumber", "(I)Z"⟩
set_option maxRecDepth 100000 in
theorem wt_ya_md_isWordNumber : wt_Ya wt_y_md_isWordNumber prog_13_method_41_code 2 (Option.some Jvm.ClassFile.FieldType.boolean) 1 := ⟨⟨wt_qm11.1, wt_qm11.2, wt_qd19⟩, wt_g8 47 rfl rfl, by decide⟩
theorem wt_pl_md_isWordNumber : plainName (wt_y_md_isWordNumber).cls = true := wt_qc11
abbrev wt_y_md_kase : MethodName := ⟨"WornTypeModel", "kase", "(I)I"⟩
set_option maxRecDepth 100000 in
theorem wt_ya_md_kase : wt_Ya wt_y_md_kase prog_13_method_24_code 3 (Option.some Jvm.ClassFile.FieldType.int) 1 := ⟨⟨wt_qm11.1, wt_qm11.2, wt_qd1⟩, wt_g7 168 rfl rfl, by decide⟩
theorem wt_pl_md_kase : plainName (wt_y_md_kase).cls = true := wt_qc11
abbrev wt_y_md_lacking : MethodName := ⟨"WornTypeModel", "lacking", "(I)I"⟩
set_option maxRecDepth 100000 in
theorem wt_ya_md_lacking : wt_Ya wt_y_md_lacking prog_13_method_39_code 3 (Option.some Jvm.ClassFile.FieldType.int) 1 := ⟨⟨wt_qm11.1, wt_qm11.2, wt_qd1⟩, wt_g8 71 rfl rfl, by decide⟩
theorem wt_pl_md_lacking : plainName (wt_y_md_lacking).cls = true := wt_qc11
abbrev wt_y_md_lacks : MethodName := ⟨"WornTypeModel", "lacks", "(II)I"⟩
set_option maxRecDepth 100000 in
theorem wt_ya_md_lacks : wt_Ya wt_y_md_lacks prog_13_method_51_code 3 (Option.some Jvm.ClassFile.FieldType.int) 2 := ⟨⟨wt_qm11.1, wt_qm11.2, wt_qd2⟩, wt_g8 103 rfl rfl, by decide⟩
theorem wt_pl_md_lacks : plainName (wt_y_md_lacks).cls = true := wt_qc11
abbrev wt_y_md_laysRests : MethodName := ⟨"WornTypeModel", "laysRests", "(I)V"⟩
set_option maxRecDepth 100000 in
theorem wt_ya_md_laysRests : wt_Ya wt_y_md_laysRests prog_13_method_66_code 6 (Option.none : Option Jvm.ClassFile.FieldType) 1 := ⟨⟨wt_qm11.1, wt_qm11.2, wt_qd12⟩, wt_g8 158 rfl rfl, by decide⟩
theorem wt_pl_md_laysRests : plainName (wt_y_md_laysRests).cls = true := wt_qc11
abbrev wt_y_md_least : MethodName := ⟨"WornTypeModel", "least", "(III)I"⟩
set_option maxRecDepth 100000 in
theorem wt_ya_md_least : wt_Ya wt_y_md_least prog_13_method_67_code 9 (Option.some Jvm.ClassFile.FieldType.int) 3 := ⟨⟨wt_qm11.1, wt_qm11.2, wt_qd8⟩, wt_g8 154 rfl rfl, by decide⟩
theorem wt_pl_md_least : plainName (wt_y_md_least).cls = true := wt_qc11
abbrev wt_y_md_leastOf : MethodName := ⟨"WornTypeModel", "leastOf", "(I)I"⟩
set_option maxRecDepth 100000 in
theorem wt_ya_md_leastOf : wt_Ya wt_y_md_leastOf prog_13_method_56_code 4 (Option.some Jvm.ClassFile.FieldType.int) 1 := ⟨⟨wt_qm11.1, wt_qm11.2, wt_qd1⟩, wt_g8 130 rfl rfl, by decide⟩
theorem wt_pl_md_leastOf : plainName (wt_y_md_leastOf).cls = true := wt_qc11
abbrev wt_y_md_letter : MethodName := ⟨"WornTypeModel", "letter", "(II)I"⟩
set_option maxRecDepth 100000 in
theorem wt_ya_md_letter : wt_Ya wt_y_md_letter prog_13_method_33_code 9 (Option.some Jvm.ClassFile.FieldType.int) 2 := ⟨⟨wt_qm11.1, wt_qm11.2, wt_qd2⟩, wt_g8 32 rfl rfl, by decide⟩
theorem wt_pl_md_letter : plainName (wt_y_md_letter).cls = true := wt_qc11
abbrev wt_y_md_letterHere : MethodName := ⟨"WornTypeModel", "letterHere", "()I"⟩
set_option maxRecDepth 100000 in
theorem wt_ya_md_letterHere : wt_Ya wt_y_md_letterHere prog_13_method_15_code 3 (Option.some Jvm.ClassFile.FieldType.int) 0 := ⟨⟨wt_qm11.1, wt_qm11.2, wt_qd3⟩, wt_g7 217 rfl rfl, by decide⟩
theorem wt_pl_md_letterHere : plainName (wt_y_md_letterHere).cls = true := wt_qc11
abbrev wt_y_md_lettersHere : MethodName := ⟨"WornTypeModel", "lettersHere", "()I"⟩
set_option maxRecDepth 100000 in
theorem wt_ya_md_lettersHere : wt_Ya wt_y_md_lettersHere prog_13_method_12_code 2 (Option.some Jvm.ClassFile.FieldType.int) 0 := ⟨⟨wt_qm11.1, wt_qm11.2, wt_qd3⟩, wt_g7 202 rfl rfl, by decide⟩
theorem wt_pl_md_lettersHere : plainName (wt_y_md_lettersHere).cls = true := wt_qc11
abbrev wt_y_md_lost : MethodName := ⟨"WornTypeModel", "lost", "(I)I"⟩
set_option maxRecDepth 100000 in
theorem wt_ya_md_lost : wt_Ya wt_y_md_lost prog_13_method_85_code 4 (Option.some Jvm.ClassFile.FieldType.int) 1 := ⟨⟨wt_qm11.1, wt_qm11.2, wt_qd1⟩, wt_g8 238 rfl rfl, by decide⟩
theorem wt_pl_md_lost : plainName (wt_y_md_lost).cls = true := wt_qc11
abbrev wt_y_md_mayFollow : MethodName := ⟨"WornTypeModel", "mayFollow", "(II)Z"⟩
set_option maxRecDepth 100000 in
theorem wt_ya_md_mayFollow : wt_Ya wt_y_md_mayFollow prog_13_method_64_code 3 (Option.some Jvm.ClassFile.FieldType.boolean) 2 := ⟨⟨wt_qm11.1, wt_qm11.2, wt_qd17⟩, wt_g8 166 rfl rfl, by decide⟩
theorem wt_pl_md_mayFollow : plainName (wt_y_md_mayFollow).cls = true := wt_qc11
abbrev wt_y_md_most : MethodName := ⟨"WornTypeModel", "most", "(I)I"⟩
set_option maxRecDepth 100000 in
theorem wt_ya_md_most : wt_Ya wt_y_md_most prog_13_method_78_code 6 (Option.some Jvm.ClassFile.FieldType.int) 1 := ⟨⟨wt_qm11.1, wt_qm11.2, wt_qd1⟩, wt_g8 191 rfl rfl, by decide⟩
theorem wt_pl_md_most : plainName (wt_y_md_most).cls = true := wt_qc11
abbrev wt_y_md_moves : MethodName := ⟨"WornTypeModel", "moves", "([IIZ)I"⟩
theorem wt_qd44 : (parseMethodDescriptor "([IIZ)I").map (fun d => d.parameters.length) = some 3 := by decide +kernel
set_option maxRecDepth 100000 in
theorem wt_ya_md_moves : wt_Ya wt_y_md_moves prog_13_method_92_code 4 (Option.some Jvm.ClassFile.FieldType.int) 3 := ⟨⟨wt_qm11.1, wt_qm11.2, wt_qd44⟩, wt_g9 33 rfl rfl, by decide⟩
theorem wt_pl_md_moves : plainName (wt_y_md_moves).cls = true := wt_qc11
abbrev wt_y_md_movesAll : MethodName := ⟨"WornTypeModel", "movesAll", "([IZ)V"⟩
theorem wt_qd45 : (parseMethodDescriptor "([IZ)V").map (fun d => d.parameters.length) = some 2 := by decide +kernel
set_option maxRecDepth 100000 in
theorem wt_ya_md_movesAll : wt_Ya wt_y_md_movesAll prog_13_method_93_code 5 (Option.none : Option Jvm.ClassFile.FieldType) 2 := ⟨⟨wt_qm11.1, wt_qm11.2, wt_qd45⟩, wt_g9 29 rfl rfl, by decide⟩
theorem wt_pl_md_movesAll : plainName (wt_y_md_movesAll).cls = true := wt_qc11
abbrev wt_y_md_needs : MethodName := ⟨"WornTypeModel", "needs", "(II)I"⟩
set_option maxRecDepth 100000 in
theorem wt_ya_md_needs : wt_Ya wt_y_md_needs prog_13_method_47_code 3 (Option.some Jvm.ClassFile.FieldType.int) 2 := ⟨⟨wt_qm11.1, wt_qm11.2, wt_qd2⟩, wt_g8 87 rfl rfl, by decide⟩
theorem wt_pl_md_needs : plainName (wt_y_md_needs).cls = true := wt_qc11
abbrev wt_y_md_needsNone : MethodName := ⟨"WornTypeModel", "needsNone", "()V"⟩
set_option maxRecDepth 100000 in
theorem wt_ya_md_needsNone : wt_Ya wt_y_md_needsNone prog_13_method_35_code 2 (Option.none : Option Jvm.ClassFile.FieldType) 0 := ⟨⟨wt_qm11.1, wt_qm11.2, wt_qd0⟩, wt_g8 59 rfl rfl, by decide⟩
theorem wt_pl_md_needsNone : plainName (wt_y_md_needsNone).cls = true := wt_qc11
abbrev wt_y_md_needsText : MethodName := ⟨"WornTypeModel", "needsText", "(I)V"⟩
set_option maxRecDepth 100000 in
theorem wt_ya_md_needsText : wt_Ya wt_y_md_needsText prog_13_method_37_code 3 (Option.none : Option Jvm.ClassFile.FieldType) 1 := ⟨⟨wt_qm11.1, wt_qm11.2, wt_qd12⟩, wt_g8 91 rfl rfl, by decide⟩
theorem wt_pl_md_needsText : plainName (wt_y_md_needsText).cls = true := wt_qc11
abbrev wt_y_md_needsWord : MethodName := ⟨"WornTypeModel", "needsWord", "(I)V"⟩
set_option maxRecDepth 100000 in
theorem wt_ya_md_needsWord : wt_Ya wt_y_md_needsWord prog_13_method_36_code 3 (Option.none : Option Jvm.ClassFile.FieldType) 1 := ⟨⟨wt_qm11.1, wt_qm11.2, wt_qd12⟩, wt_g8 63 rfl rfl, by decide⟩
theorem wt_pl_md_needsWord : plainName (wt_y_md_needsWord).cls = true := wt_qc11
abbrev wt_y_md_nextPiece : MethodName := ⟨"WornTypeModel", "nextPiece", "(II)I"⟩
set_option maxRecDepth 100000 in
theorem wt_ya_md_nextPiece : wt_Ya wt_y_md_nextPiece prog_13_method_52_code 6 (Option.some Jvm.ClassFile.FieldType.int) 2 := ⟨⟨wt_qm11.1, wt_qm11.2, wt_qd2⟩, wt_g8 118 rfl rfl, by decide⟩
theorem wt_pl_md_nextPiece : plainName (wt_y_md_nextPiece).cls = true := wt_qc11
abbrev wt_y_md_number : MethodName := ⟨"WornTypeModel", "number", "(II)I"⟩
set_option maxRecDepth 100000 in
theorem wt_ya_md_number : wt_Ya wt_y_md_number prog_13_method_11_code 5 (Option.some Jvm.ClassFile.FieldType.int) 2 := ⟨⟨wt_qm11.1, wt_qm11.2, wt_qd2⟩, wt_g7 221 rfl rfl, by decide⟩
theorem wt_pl_md_number : plainName (wt_y_md_number).cls = true := wt_qc11
abbrev wt_y_md_often : MethodName := ⟨"WornTypeModel", "often", "()I"⟩
set_option maxRecDepth 100000 in
theorem wt_ya_md_often : wt_Ya wt_y_md_often prog_13_method_40_code 4 (Option.some Jvm.ClassFile.FieldType.int) 0 := ⟨⟨wt_qm11.1, wt_qm11.2, wt_qd3⟩, wt_g8 67 rfl rfl, by decide⟩
theorem wt_pl_md_often : plainName (wt_y_md_often).cls = true := wt_qc11
abbrev wt_y_md_ones : MethodName := ⟨"WornTypeModel", "ones", "(I)I"⟩
set_option maxRecDepth 100000 in
theorem wt_ya_md_ones : wt_Ya wt_y_md_ones prog_13_method_90_code 3 (Option.some Jvm.ClassFile.FieldType.int) 1 := ⟨⟨wt_qm11.1, wt_qm11.2, wt_qd1⟩, wt_g9 21 rfl rfl, by decide⟩
theorem wt_pl_md_ones : plainName (wt_y_md_ones).cls = true := wt_qc11
abbrev wt_y_md_page : MethodName := ⟨"WornTypeModel", "page", "(II)I"⟩
set_option maxRecDepth 100000 in
theorem wt_ya_md_page : wt_Ya wt_y_md_page prog_13_method_62_code 5 (Option.some Jvm.ClassFile.FieldType.int) 2 := ⟨⟨wt_qm11.1, wt_qm11.2, wt_qd2⟩, wt_g8 138 rfl rfl, by decide⟩
theorem wt_pl_md_page : plainName (wt_y_md_page).cls = true := wt_qc11
abbrev wt_y_md_piece : MethodName := ⟨"WornTypeModel", "piece", "(III)I"⟩
set_option maxRecDepth 100000 in
theorem wt_ya_md_piece : wt_Ya wt_y_md_piece prog_13_method_34_code 4 (Option.some Jvm.ClassFile.FieldType.int) 3 := ⟨⟨wt_qm11.1, wt_qm11.2, wt_qd8⟩, wt_g8 39 rfl rfl, by decide⟩
theorem wt_pl_md_piece : plainName (wt_y_md_piece).cls = true := wt_qc11
abbrev wt_y_md_pieceOn : MethodName := ⟨"WornTypeModel", "pieceOn", "(III)I"⟩
set_option maxRecDepth 100000 in
theorem wt_ya_md_pieceOn : wt_Ya wt_y_md_pieceOn prog_13_method_61_code 6 (Option.some Jvm.ClassFile.FieldType.int) 3 := ⟨⟨wt_qm11.1, wt_qm11.2, wt_qd8⟩, wt_g8 146 rfl rfl, by decide⟩
theorem wt_pl_md_pieceOn : plainName (wt_y_md_pieceOn).cls = true := wt_qc11
abbrev wt_y_md_pieces : MethodName := ⟨"WornTypeModel", "pieces", "([I[I)V"⟩
set_option maxRecDepth 100000 in
theorem wt_ya_md_pieces : wt_Ya wt_y_md_pieces prog_13_method_22_code 7 (Option.none : Option Jvm.ClassFile.FieldType) 2 := ⟨⟨wt_qm11.1, wt_qm11.2, wt_qd4⟩, wt_g7 213 rfl rfl, by decide⟩
theorem wt_pl_md_pieces : plainName (wt_y_md_pieces).cls = true := wt_qc11
abbrev wt_y_md_priceOf : MethodName := ⟨"WornTypeModel", "priceOf", "(I)I"⟩
set_option maxRecDepth 100000 in
theorem wt_ya_md_priceOf : wt_Ya wt_y_md_priceOf prog_13_method_42_code 4 (Option.some Jvm.ClassFile.FieldType.int) 1 := ⟨⟨wt_qm11.1, wt_qm11.2, wt_qd1⟩, wt_g8 51 rfl rfl, by decide⟩
theorem wt_pl_md_priceOf : plainName (wt_y_md_priceOf).cls = true := wt_qc11
abbrev wt_y_md_print : MethodName := ⟨"WornTypeModel", "print", "(II)I"⟩
set_option maxRecDepth 100000 in
theorem wt_ya_md_print : wt_Ya wt_y_md_print prog_13_method_57_code 5 (Option.some Jvm.ClassFile.FieldType.int) 2 := ⟨⟨wt_qm11.1, wt_qm11.2, wt_qd2⟩, wt_g8 122 rfl rfl, by decide⟩
theorem wt_pl_md_print : plainName (wt_y_md_print).cls = true := wt_qc11
abbrev wt_y_md_prints : MethodName := ⟨"WornTypeModel", "prints", "(IZI)I"⟩
theorem wt_qd46 : (parseMethodDescriptor "(IZI)I").map (fun d => d.parameters.length) = some 3 := by decide +kernel
set_option maxRecDepth 100000 in
theorem wt_ya_md_prints : wt_Ya wt_y_md_prints prog_13_method_76_code 7 (Option.some Jvm.ClassFile.FieldType.int) 3 := ⟨⟨wt_qm11.1, wt_qm11.2, wt_qd46⟩, wt_g8 199 rfl rfl, by decide⟩
theorem wt_pl_md_prints : plainName (wt_y_md_prints).cls = true := wt_qc11
abbrev wt_y_md_puts : MethodName := ⟨"WornTypeModel", "puts", "()V"⟩
set_option maxRecDepth 100000 in
theorem wt_ya_md_puts : wt_Ya wt_y_md_puts prog_13_method_73_code 2 (Option.none : Option Jvm.ClassFile.FieldType) 0 := ⟨⟨wt_qm11.1, wt_qm11.2, wt_qd0⟩, wt_g8 195 rfl rfl, by decide⟩
theorem wt_pl_md_puts : plainName (wt_y_md_puts).cls = true := wt_qc11
abbrev wt_y_md_putsBack : MethodName := ⟨"WornTypeModel", "putsBack", "()V"⟩
set_option maxRecDepth 100000 in
theorem wt_ya_md_putsBack : wt_Ya wt_y_md_putsBack prog_13_method_74_code 2 (Option.none : Option Jvm.ClassFile.FieldType) 0 := ⟨⟨wt_qm11.1, wt_qm11.2, wt_qd0⟩, wt_g8 207 rfl rfl, by decide⟩
theorem wt_pl_md_putsBack : plainName (wt_y_md_putsBack).cls = true := wt_qc11
abbrev wt_y_md_read : MethodName := ⟨"WornTypeModel", "read", "(II)I"⟩
set_option maxRecDepth 100000 in
theorem wt_ya_md_read : wt_Ya wt_y_md_read prog_13_method_63_code 3 (Option.some Jvm.ClassFile.FieldType.int) 2 := ⟨⟨wt_qm11.1, wt_qm11.2, wt_qd2⟩, wt_g8 150 rfl rfl, by decide⟩
theorem wt_pl_md_read : plainName (wt_y_md_read).cls = true := wt_qc11
abbrev wt_y_md_readOf : MethodName := ⟨"WornTypeModel", "readOf", "(II)I"⟩
set_option maxRecDepth 100000 in
theorem wt_ya_md_readOf : wt_Ya wt_y_md_readOf prog_13_method_60_code 9 (Option.some Jvm.ClassFile.FieldType.int) 2 := ⟨⟨wt_qm11.1, wt_qm11.2, wt_qd2⟩, wt_g8 142 rfl rfl, by decide⟩
theorem wt_pl_md_readOf : plainName (wt_y_md_readOf).cls = true := wt_qc11
abbrev wt_y_md_reads : MethodName := ⟨"WornTypeModel", "reads", "(I)V"⟩
set_option maxRecDepth 100000 in
theorem wt_ya_md_reads : wt_Ya wt_y_md_reads prog_13_method_26_code 5 (Option.none : Option Jvm.ClassFile.FieldType) 1 := ⟨⟨wt_qm11.1, wt_qm11.2, wt_qd12⟩, wt_g8 4 rfl rfl, by decide⟩
theorem wt_pl_md_reads : plainName (wt_y_md_reads).cls = true := wt_qc11
abbrev wt_y_md_restore : MethodName := ⟨"WornTypeModel", "restore", "()I"⟩
set_option maxRecDepth 100000 in
theorem wt_ya_md_restore : wt_Ya wt_y_md_restore prog_13_method_95_code 1 (Option.some Jvm.ClassFile.FieldType.int) 0 := ⟨⟨wt_qm11.1, wt_qm11.2, wt_qd3⟩, wt_g9 37 rfl rfl, by decide⟩
theorem wt_pl_md_restore : plainName (wt_y_md_restore).cls = true := wt_qc11
abbrev wt_y_md_said : MethodName := ⟨"WornTypeModel", "said", "(II)I"⟩
set_option maxRecDepth 100000 in
theorem wt_ya_md_said : wt_Ya wt_y_md_said prog_13_method_84_code 4 (Option.some Jvm.ClassFile.FieldType.int) 2 := ⟨⟨wt_qm11.1, wt_qm11.2, wt_qd2⟩, wt_g8 231 rfl rfl, by decide⟩
theorem wt_pl_md_said : plainName (wt_y_md_said).cls = true := wt_qc11
abbrev wt_y_md_set : MethodName := ⟨"WornTypeModel", "set", "(II)I"⟩
set_option maxRecDepth 100000 in
theorem wt_ya_md_set : wt_Ya wt_y_md_set prog_13_method_54_code 5 (Option.some Jvm.ClassFile.FieldType.int) 2 := ⟨⟨wt_qm11.1, wt_qm11.2, wt_qd2⟩, wt_g8 110 rfl rfl, by decide⟩
theorem wt_pl_md_set : plainName (wt_y_md_set).cls = true := wt_qc11
abbrev wt_y_md_six : MethodName := ⟨"WornTypeModel", "six", "(IIIIII)I"⟩
theorem wt_qd47 : (parseMethodDescriptor "(IIIIII)I").map (fun d => d.parameters.length) = some 6 := by decide +kernel
set_option maxRecDepth 100000 in
theorem wt_ya_md_six : wt_Ya wt_y_md_six prog_13_method_13_code 7 (Option.some Jvm.ClassFile.FieldType.int) 6 := ⟨⟨wt_qm11.1, wt_qm11.2, wt_qd47⟩, wt_g7 194 rfl rfl, by decide⟩
theorem wt_pl_md_six : plainName (wt_y_md_six).cls = true := wt_qc11
abbrev wt_y_md_standing : MethodName := ⟨"WornTypeModel", "standing", "()I"⟩
set_option maxRecDepth 100000 in
theorem wt_ya_md_standing : wt_Ya wt_y_md_standing prog_13_method_30_code 3 (Option.some Jvm.ClassFile.FieldType.int) 0 := ⟨⟨wt_qm11.1, wt_qm11.2, wt_qd3⟩, wt_g8 28 rfl rfl, by decide⟩
theorem wt_pl_md_standing : plainName (wt_y_md_standing).cls = true := wt_qc11
abbrev wt_y_md_starts : MethodName := ⟨"WornTypeModel", "starts", "(I)V"⟩
set_option maxRecDepth 100000 in
theorem wt_ya_md_starts : wt_Ya wt_y_md_starts prog_13_method_17_code 2 (Option.none : Option Jvm.ClassFile.FieldType) 1 := ⟨⟨wt_qm11.1, wt_qm11.2, wt_qd12⟩, wt_g7 179 rfl rfl, by decide⟩
theorem wt_pl_md_starts : plainName (wt_y_md_starts).cls = true := wt_qc11
abbrev wt_y_md_takes : MethodName := ⟨"WornTypeModel", "takes", "(II)Z"⟩
set_option maxRecDepth 100000 in
theorem wt_ya_md_takes : wt_Ya wt_y_md_takes prog_13_method_53_code 6 (Option.some Jvm.ClassFile.FieldType.boolean) 2 := ⟨⟨wt_qm11.1, wt_qm11.2, wt_qd17⟩, wt_g8 114 rfl rfl, by decide⟩
theorem wt_pl_md_takes : plainName (wt_y_md_takes).cls = true := wt_qc11
abbrev wt_y_md_takesApart : MethodName := ⟨"WornTypeModel", "takesApart", "(I)V"⟩
set_option maxRecDepth 100000 in
theorem wt_ya_md_takesApart : wt_Ya wt_y_md_takesApart prog_13_method_58_code 3 (Option.none : Option Jvm.ClassFile.FieldType) 1 := ⟨⟨wt_qm11.1, wt_qm11.2, wt_qd12⟩, wt_g8 12 rfl rfl, by decide⟩
theorem wt_pl_md_takesApart : plainName (wt_y_md_takesApart).cls = true := wt_qc11
abbrev wt_y_md_takesCase : MethodName := ⟨"WornTypeModel", "takesCase", "()V"⟩
set_option maxRecDepth 100000 in
theorem wt_ya_md_takesCase : wt_Ya wt_y_md_takesCase prog_13_method_19_code 2 (Option.none : Option Jvm.ClassFile.FieldType) 0 := ⟨⟨wt_qm11.1, wt_qm11.2, wt_qd0⟩, wt_g6 207 rfl rfl, by decide⟩
theorem wt_pl_md_takesCase : plainName (wt_y_md_takesCase).cls = true := wt_qc11
abbrev wt_y_md_text : MethodName := ⟨"WornTypeModel", "text", "(I)I"⟩
set_option maxRecDepth 100000 in
theorem wt_ya_md_text : wt_Ya wt_y_md_text prog_13_method_28_code 5 (Option.some Jvm.ClassFile.FieldType.int) 1 := ⟨⟨wt_qm11.1, wt_qm11.2, wt_qd1⟩, wt_g8 16 rfl rfl, by decide⟩
theorem wt_pl_md_text : plainName (wt_y_md_text).cls = true := wt_qc11
abbrev wt_y_md_together : MethodName := ⟨"WornTypeModel", "together", "(I)I"⟩
set_option maxRecDepth 100000 in
theorem wt_ya_md_together : wt_Ya wt_y_md_together prog_13_method_91_code 6 (Option.some Jvm.ClassFile.FieldType.int) 1 := ⟨⟨wt_qm11.1, wt_qm11.2, wt_qd1⟩, wt_g9 18 rfl rfl, by decide⟩
theorem wt_pl_md_together : plainName (wt_y_md_together).cls = true := wt_qc11
abbrev wt_y_md_told : MethodName := ⟨"WornTypeModel", "told", "(I)I"⟩
set_option maxRecDepth 100000 in
theorem wt_ya_md_told : wt_Ya wt_y_md_told prog_13_method_31_code 2 (Option.some Jvm.ClassFile.FieldType.int) 1 := ⟨⟨wt_qm11.1, wt_qm11.2, wt_qd1⟩, wt_g8 24 rfl rfl, by decide⟩
theorem wt_pl_md_told : plainName (wt_y_md_told).cls = true := wt_qc11
abbrev wt_y_md_tongue : MethodName := ⟨"WornTypeModel", "tongue", "(I)I"⟩
set_option maxRecDepth 100000 in
theorem wt_ya_md_tongue : wt_Ya wt_y_md_tongue prog_13_method_27_code 4 (Option.some Jvm.ClassFile.FieldType.int) 1 := ⟨⟨wt_qm11.1, wt_qm11.2, wt_qd1⟩, wt_g8 0 rfl rfl, by decide⟩
theorem wt_pl_md_tongue : plainName (wt_y_md_tongue).cls = true := wt_qc11
abbrev wt_y_md_tries : MethodName := ⟨"WornTypeModel", "tries", "(IIII)V"⟩
set_option maxRecDepth 100000 in
theorem wt_ya_md_tries : wt_Ya wt_y_md_tries prog_13_method_68_code 6 (Option.none : Option Jvm.ClassFile.FieldType) 4 := ⟨⟨wt_qm11.1, wt_qm11.2, wt_qd22⟩, wt_g8 175 rfl rfl, by decide⟩
theorem wt_pl_md_tries : plainName (wt_y_md_tries).cls = true := wt_qc11
abbrev wt_y_md_want : MethodName := ⟨"WornTypeModel", "want", "(IIII)I"⟩
set_option maxRecDepth 100000 in
theorem wt_ya_md_want : wt_Ya wt_y_md_want prog_13_method_71_code 5 (Option.some Jvm.ClassFile.FieldType.int) 4 := ⟨⟨wt_qm11.1, wt_qm11.2, wt_qd7⟩, wt_g8 183 rfl rfl, by decide⟩
theorem wt_pl_md_want : plainName (wt_y_md_want).cls = true := wt_qc11
abbrev wt_y_md_withOne : MethodName := ⟨"WornTypeModel", "withOne", "(II)I"⟩
set_option maxRecDepth 100000 in
theorem wt_ya_md_withOne : wt_Ya wt_y_md_withOne prog_13_method_88_code 5 (Option.some Jvm.ClassFile.FieldType.int) 2 := ⟨⟨wt_qm11.1, wt_qm11.2, wt_qd2⟩, wt_g9 10 rfl rfl, by decide⟩
theorem wt_pl_md_withOne : plainName (wt_y_md_withOne).cls = true := wt_qc11
abbrev wt_y_md_word : MethodName := ⟨"WornTypeModel", "word", "(II)I"⟩
set_option maxRecDepth 100000 in
theorem wt_ya_md_word : wt_Ya wt_y_md_word prog_13_method_44_code 3 (Option.some Jvm.ClassFile.FieldType.int) 2 := ⟨⟨wt_qm11.1, wt_qm11.2, wt_qd2⟩, wt_g8 43 rfl rfl, by decide⟩
theorem wt_pl_md_word : plainName (wt_y_md_word).cls = true := wt_qc11
abbrev wt_y_md_wordOf : MethodName := ⟨"WornTypeModel", "wordOf", "(I[[I[II)I"⟩
theorem wt_qd48 : (parseMethodDescriptor "(I[[I[II)I").map (fun d => d.parameters.length) = some 4 := by decide +kernel
set_option maxRecDepth 100000 in
theorem wt_ya_md_wordOf : wt_Ya wt_y_md_wordOf prog_13_method_25_code 8 (Option.some Jvm.ClassFile.FieldType.int) 4 := ⟨⟨wt_qm11.1, wt_qm11.2, wt_qd48⟩, wt_g8 8 rfl rfl, by decide⟩
theorem wt_pl_md_wordOf : plainName (wt_y_md_wordOf).cls = true := wt_qc11
abbrev wt_y_md_wordings : MethodName := ⟨"WornTypeModel", "wordings", "(I)I"⟩
set_option maxRecDepth 100000 in
theorem wt_ya_md_wordings : wt_Ya wt_y_md_wordings prog_13_method_70_code 4 (Option.some Jvm.ClassFile.FieldType.int) 1 := ⟨⟨wt_qm11.1, wt_qm11.2, wt_qd1⟩, wt_g8 179 rfl rfl, by decide⟩
theorem wt_pl_md_wordings : plainName (wt_y_md_wordings).cls = true := wt_qc11
abbrev wt_y_md_worthOf : MethodName := ⟨"WornTypeModel", "worthOf", "(I)I"⟩
set_option maxRecDepth 100000 in
theorem wt_ya_md_worthOf : wt_Ya wt_y_md_worthOf prog_13_method_77_code 4 (Option.some Jvm.ClassFile.FieldType.int) 1 := ⟨⟨wt_qm11.1, wt_qm11.2, wt_qd1⟩, wt_g8 211 rfl rfl, by decide⟩
theorem wt_pl_md_worthOf : plainName (wt_y_md_worthOf).cls = true := wt_qc11
abbrev wt_y_md_wrong : MethodName := ⟨"WornTypeModel", "wrong", "(II)V"⟩
set_option maxRecDepth 100000 in
theorem wt_ya_md_wrong : wt_Ya wt_y_md_wrong prog_13_method_8_code 3 (Option.none : Option Jvm.ClassFile.FieldType) 2 := ⟨⟨wt_qm11.1, wt_qm11.2, wt_qd20⟩, wt_g7 209 rfl rfl, by decide⟩
theorem wt_pl_md_wrong : plainName (wt_y_md_wrong).cls = true := wt_qc11
abbrev wt_y_jl_bitCount : MethodName := ⟨"java/lang/Integer", "bitCount", "(I)I"⟩
theorem wt_qc12 : plainName "java/lang/Integer" = true := by decide +kernel
theorem wt_qm12 : "java/lang/Integer" ≠ "java/lang/invoke/MethodHandle" ∧ "java/lang/Integer" ≠ "java/lang/invoke/VarHandle" := by decide
set_option maxRecDepth 100000 in
theorem wt_ya_jl_bitCount : wt_Ya wt_y_jl_bitCount prog_20_method_49_code 1 (Option.some Jvm.ClassFile.FieldType.int) 1 := ⟨⟨wt_qm12.1, wt_qm12.2, wt_qd1⟩, wt_g6 185 rfl rfl, by decide⟩
theorem wt_pl_jl_bitCount : plainName (wt_y_jl_bitCount).cls = true := wt_qc12
set_option maxRecDepth 100000 in
theorem wt_ms_min : Cond.static Lib.Math.min.name ∈ wt_GT := wt_g3 32 rfl rfl
set_option maxRecDepth 100000 in
theorem wt_mc_min : Cond.code Lib.Math.min.name Lib.Math.min.code 2 (some .int) ∈ wt_GT := wt_g3 33 rfl rfl
set_option maxRecDepth 100000 in
theorem wt_ms_max : Cond.static Lib.Math.max.name ∈ wt_GT := wt_g4 160 rfl rfl
set_option maxRecDepth 100000 in
theorem wt_mc_max : Cond.code Lib.Math.max.name Lib.Math.max.code 2 (some .int) ∈ wt_GT := wt_g4 161 rfl rfl
set_option maxRecDepth 100000 in
theorem wt_mi : Cond.initialized "java/lang/Math" ∈ wt_GT := wt_g1 21 rfl rfl
set_option maxRecDepth 100000 in
theorem wt_lf_ap_12 : wt_Lk "WornType" 12 10 0 true := ⟨_, _, _, _, rfl, wt_cf10, by decide, rfl, rfl, Or.inl (wt_g2 165 rfl rfl)⟩
set_option maxRecDepth 100000 in
theorem wt_lf_ap_19 : wt_Lk "WornType" 19 10 1 true := ⟨_, _, _, _, rfl, wt_cf10, by decide, rfl, rfl, Or.inl (wt_g2 166 rfl rfl)⟩
set_option maxRecDepth 100000 in
theorem wt_lf_ap_23 : wt_Lk "WornType" 23 10 2 true := ⟨_, _, _, _, rfl, wt_cf10, by decide, rfl, rfl, Or.inl (wt_g2 167 rfl rfl)⟩
set_option maxRecDepth 100000 in
theorem wt_lf_ap_29 : wt_Lk "WornType" 29 10 3 true := ⟨_, _, _, _, rfl, wt_cf10, by decide, rfl, rfl, Or.inl (wt_g2 168 rfl rfl)⟩
set_option maxRecDepth 100000 in
theorem wt_lf_ap_33 : wt_Lk "WornType" 33 10 4 true := ⟨_, _, _, _, rfl, wt_cf10, by decide, rfl, rfl, Or.inl (wt_g2 169 rfl rfl)⟩
set_option maxRecDepth 100000 in
theorem wt_lf_ap_39 : wt_Lk "WornType" 39 10 5 true := ⟨_, _, _, _, rfl, wt_cf10, by decide, rfl, rfl, Or.inl (wt_g2 170 rfl rfl)⟩
set_option maxRecDepth 100000 in
theorem wt_lf_ap_46 : wt_Lk "WornType" 46 10 6 true := ⟨_, _, _, _, rfl, wt_cf10, by decide, rfl, rfl, Or.inl (wt_g2 171 rfl rfl)⟩
set_option maxRecDepth 100000 in
theorem wt_lf_ap_50 : wt_Lk "WornType" 50 10 7 true := ⟨_, _, _, _, rfl, wt_cf10, by decide, rfl, rfl, Or.inl (wt_g2 172 rfl rfl)⟩
set_option maxRecDepth 100000 in
theorem wt_lf_ap_59 : wt_Lk "WornType" 59 10 8 true := ⟨_, _, _, _, rfl, wt_cf10, by decide, rfl, rfl, Or.inl (wt_g2 173 rfl rfl)⟩
set_option maxRecDepth 100000 in
theorem wt_lf_ap_68 : wt_Lk "WornType" 68 10 9 true := ⟨_, _, _, _, rfl, wt_cf10, by decide, rfl, rfl, Or.inl (wt_g2 174 rfl rfl)⟩
set_option maxRecDepth 100000 in
theorem wt_lf_ap_75 : wt_Lk "WornType" 75 10 10 true := ⟨_, _, _, _, rfl, wt_cf10, by decide, rfl, rfl, Or.inl (wt_g2 175 rfl rfl)⟩
set_option maxRecDepth 100000 in
theorem wt_lf_ap_84 : wt_Lk "WornType" 84 10 11 true := ⟨_, _, _, _, rfl, wt_cf10, by decide, rfl, rfl, Or.inl (wt_g2 176 rfl rfl)⟩
set_option maxRecDepth 100000 in
theorem wt_lf_ap_93 : wt_Lk "WornType" 93 10 12 true := ⟨_, _, _, _, rfl, wt_cf10, by decide, rfl, rfl, Or.inl (wt_g2 177 rfl rfl)⟩
set_option maxRecDepth 100000 in
theorem wt_lf_ap_97 : wt_Lk "WornType" 97 10 13 true := ⟨_, _, _, _, rfl, wt_cf10, by decide, rfl, rfl, Or.inl (wt_g2 178 rfl rfl)⟩
set_option maxRecDepth 100000 in
theorem wt_lf_ap_101 : wt_Lk "WornType" 101 10 14 false := ⟨_, _, _, _, rfl, wt_cf10, by decide, rfl, rfl, Or.inl (wt_g2 179 rfl rfl)⟩
set_option maxRecDepth 100000 in
theorem wt_lf_ap_105 : wt_Lk "WornType" 105 5 2 false := ⟨_, _, _, _, rfl, wt_cf5, by decide, rfl, rfl, Or.inr ⟨"WornType", wt_n1 43 rfl rfl⟩⟩
set_option maxRecDepth 100000 in
theorem wt_lm_ap_108 : wt_MV "WornType" 108 wt_y_tp_push := ⟨Or.inl (wt_g2 215 rfl rfl), wt_g2 216 rfl rfl, wt_g2 217 rfl rfl, wt_g1 2 rfl rfl⟩
set_option maxRecDepth 100000 in
theorem wt_lm_ap_112 : wt_MS "WornType" 112 wt_y_ap_refuse := ⟨Or.inl (wt_g3 61 rfl rfl), wt_g3 62 rfl rfl, wt_g1 1 rfl rfl⟩
set_option maxRecDepth 100000 in
theorem wt_lm_ap_116 : wt_MV "WornType" 116 wt_y_tp_begin := ⟨Or.inl (wt_g3 132 rfl rfl), wt_g3 133 rfl rfl, wt_g3 134 rfl rfl, wt_g1 2 rfl rfl⟩
set_option maxRecDepth 100000 in
theorem wt_lm_ap_119 : wt_MV "WornType" 119 wt_y_ld_fill := ⟨Or.inl (wt_g3 136 rfl rfl), wt_g3 137 rfl rfl, wt_g3 138 rfl rfl, wt_g1 3 rfl rfl⟩
set_option maxRecDepth 100000 in
theorem wt_lf_ap_123 : wt_Lk "WornType" 123 5 6 false := ⟨_, _, _, _, rfl, wt_cf5, by decide, rfl, rfl, Or.inr ⟨"WornType", wt_n1 49 rfl rfl⟩⟩
set_option maxRecDepth 100000 in
theorem wt_lm_ap_126 : wt_MV "WornType" 126 wt_y_ld_become := ⟨Or.inl (wt_g4 33 rfl rfl), wt_g4 34 rfl rfl, wt_g4 35 rfl rfl, wt_g1 3 rfl rfl⟩
set_option maxRecDepth 100000 in
theorem wt_lm_ap_130 : wt_MV "WornType" 130 wt_y_st_lay := ⟨Or.inl (wt_g4 38 rfl rfl), wt_g4 39 rfl rfl, wt_g4 40 rfl rfl, wt_g1 6 rfl rfl⟩
set_option maxRecDepth 100000 in
theorem wt_lm_ap_133 : wt_MV "WornType" 133 wt_y_sk_piecesOfAll := ⟨Or.inl (wt_g4 42 rfl rfl), wt_g4 43 rfl rfl, wt_g4 44 rfl rfl, wt_g1 7 rfl rfl⟩
set_option maxRecDepth 100000 in
theorem wt_lm_ap_137 : wt_MV "WornType" 137 wt_y_tg_fill := ⟨Or.inl (wt_g4 53 rfl rfl), wt_g4 54 rfl rfl, wt_g4 55 rfl rfl, wt_g1 4 rfl rfl⟩
set_option maxRecDepth 100000 in
theorem wt_lm_ap_138 : wt_MV "WornType" 138 wt_y_tg_become := ⟨Or.inl (wt_g4 86 rfl rfl), wt_g4 87 rfl rfl, wt_g4 88 rfl rfl, wt_g1 4 rfl rfl⟩
set_option maxRecDepth 100000 in
theorem wt_lf_ap_141 : wt_Lk "WornType" 141 6 4 false := ⟨_, _, _, _, rfl, wt_cf6, by decide, rfl, rfl, Or.inr ⟨"WornType", wt_n1 170 rfl rfl⟩⟩
set_option maxRecDepth 100000 in
theorem wt_lf_ap_142 : wt_Lk "WornType" 142 3 8 false := ⟨_, _, _, _, rfl, wt_cf3, by decide, rfl, rfl, Or.inr ⟨"WornType", wt_n1 219 rfl rfl⟩⟩
set_option maxRecDepth 100000 in
theorem wt_lm_ap_145 : wt_MV "WornType" 145 wt_y_st_clearPages := ⟨Or.inl (wt_g4 91 rfl rfl), wt_g1 189 rfl rfl, wt_g1 190 rfl rfl, wt_g1 6 rfl rfl⟩
set_option maxRecDepth 100000 in
theorem wt_lf_ap_148 : wt_Lk "WornType" 148 7 6 false := ⟨_, _, _, _, rfl, wt_cf7, by decide, rfl, rfl, Or.inr ⟨"WornType", wt_n1 137 rfl rfl⟩⟩
set_option maxRecDepth 100000 in
theorem wt_lm_ap_149 : wt_MV "WornType" 149 wt_y_tx_fill := ⟨Or.inl (wt_g4 99 rfl rfl), wt_g4 100 rfl rfl, wt_g4 101 rfl rfl, wt_g1 5 rfl rfl⟩
set_option maxRecDepth 100000 in
theorem wt_lf_ap_152 : wt_Lk "WornType" 152 5 7 false := ⟨_, _, _, _, rfl, wt_cf5, by decide, rfl, rfl, Or.inr ⟨"WornType", wt_n1 51 rfl rfl⟩⟩
set_option maxRecDepth 100000 in
theorem wt_lm_ap_155 : wt_MV "WornType" 155 wt_y_pg_standing := ⟨Or.inl (wt_g4 125 rfl rfl), wt_g4 126 rfl rfl, wt_g4 127 rfl rfl, wt_g1 8 rfl rfl⟩
set_option maxRecDepth 100000 in
theorem wt_lf_ap_158 : wt_Lk "WornType" 158 0 7 false := ⟨_, _, _, _, rfl, wt_cf0, by decide, rfl, rfl, Or.inr ⟨"WornType", wt_n1 99 rfl rfl⟩⟩
set_option maxRecDepth 100000 in
theorem wt_lf_ap_161 : wt_Lk "WornType" 161 3 9 false := ⟨_, _, _, _, rfl, wt_cf3, by decide, rfl, rfl, Or.inr ⟨"WornType", wt_n1 221 rfl rfl⟩⟩
set_option maxRecDepth 100000 in
theorem wt_lf_ap_164 : wt_Lk "WornType" 164 7 7 false := ⟨_, _, _, _, rfl, wt_cf7, by decide, rfl, rfl, Or.inr ⟨"WornType", wt_n1 140 rfl rfl⟩⟩
set_option maxRecDepth 100000 in
theorem wt_lm_ap_174 : wt_MV "WornType" 174 wt_y_sk_pieces := ⟨Or.inl (wt_g4 142 rfl rfl), wt_g3 7 rfl rfl, wt_g3 8 rfl rfl, wt_g1 7 rfl rfl⟩
set_option maxRecDepth 100000 in
theorem wt_lm_ap_178 : wt_MV "WornType" 178 wt_y_sk_inCase := ⟨Or.inl (wt_g4 143 rfl rfl), wt_g4 144 rfl rfl, wt_g4 145 rfl rfl, wt_g1 7 rfl rfl⟩
set_option maxRecDepth 100000 in
theorem wt_lm_ap_181 : wt_MV "WornType" 181 wt_y_sk_leftOfAll := ⟨Or.inl (wt_g4 151 rfl rfl), wt_g4 152 rfl rfl, wt_g4 153 rfl rfl, wt_g1 7 rfl rfl⟩
set_option maxRecDepth 100000 in
theorem wt_lm_ap_184 : wt_MV "WornType" 184 wt_y_sk_mostLeft := ⟨Or.inl (wt_g4 155 rfl rfl), wt_g4 156 rfl rfl, wt_g4 157 rfl rfl, wt_g1 7 rfl rfl⟩
set_option maxRecDepth 100000 in
theorem wt_lm_ap_187 : wt_MV "WornType" 187 wt_y_sk_wornOut := ⟨Or.inl (wt_g4 162 rfl rfl), wt_g4 163 rfl rfl, wt_g4 164 rfl rfl, wt_g1 7 rfl rfl⟩
set_option maxRecDepth 100000 in
theorem wt_lf_ap_190 : wt_Lk "WornType" 190 0 4 true := ⟨_, _, _, _, rfl, wt_cf0, by decide, rfl, rfl, Or.inr ⟨"WornType", wt_n1 93 rfl rfl⟩⟩
set_option maxRecDepth 100000 in
theorem wt_lm_ap_193 : wt_MS "WornType" 193 wt_y_ap_look := ⟨Or.inl (wt_g4 166 rfl rfl), wt_g3 11 rfl rfl, wt_g1 1 rfl rfl⟩
set_option maxRecDepth 100000 in
theorem wt_lf_ap_197 : wt_Lk "WornType" 197 0 5 true := ⟨_, _, _, _, rfl, wt_cf0, by decide, rfl, rfl, Or.inr ⟨"WornType", wt_n1 95 rfl rfl⟩⟩
set_option maxRecDepth 100000 in
theorem wt_lf_ap_200 : wt_Lk "WornType" 200 0 2 true := ⟨_, _, _, _, rfl, wt_cf0, by decide, rfl, rfl, Or.inr ⟨"WornType", wt_n1 89 rfl rfl⟩⟩
set_option maxRecDepth 100000 in
theorem wt_lf_ap_210 : wt_Lk "WornType" 210 3 0 true := ⟨_, _, _, _, rfl, wt_cf3, by decide, rfl, rfl, Or.inr ⟨"WornType", wt_n1 199 rfl rfl⟩⟩
set_option maxRecDepth 100000 in
theorem wt_lf_ap_213 : wt_Lk "WornType" 213 3 1 true := ⟨_, _, _, _, rfl, wt_cf3, by decide, rfl, rfl, Or.inr ⟨"WornType", wt_n1 202 rfl rfl⟩⟩
set_option maxRecDepth 100000 in
theorem wt_lm_ap_215 : wt_MV "WornType" 215 wt_y_tg_has := ⟨Or.inl (wt_g4 200 rfl rfl), wt_g4 201 rfl rfl, wt_g4 202 rfl rfl, wt_g1 4 rfl rfl⟩
set_option maxRecDepth 100000 in
theorem wt_lm_ap_219 : wt_MS "WornType" 219 wt_y_ap_miss := ⟨Or.inl (wt_g4 204 rfl rfl), wt_g4 205 rfl rfl, wt_g1 1 rfl rfl⟩
set_option maxRecDepth 100000 in
theorem wt_lf_ap_222 : wt_Lk "WornType" 222 7 1 true := ⟨_, _, _, _, rfl, wt_cf7, by decide, rfl, rfl, Or.inr ⟨"WornType", wt_n1 127 rfl rfl⟩⟩
set_option maxRecDepth 100000 in
theorem wt_lf_ap_225 : wt_Lk "WornType" 225 7 2 true := ⟨_, _, _, _, rfl, wt_cf7, by decide, rfl, rfl, Or.inr ⟨"WornType", wt_n1 131 rfl rfl⟩⟩
set_option maxRecDepth 100000 in
theorem wt_lf_ap_228 : wt_Lk "WornType" 228 7 3 true := ⟨_, _, _, _, rfl, wt_cf7, by decide, rfl, rfl, Or.inr ⟨"WornType", wt_n1 133 rfl rfl⟩⟩
set_option maxRecDepth 100000 in
theorem wt_lm_ap_231 : wt_MV "WornType" 231 wt_y_rw_priceOf := ⟨Or.inl (wt_g4 223 rfl rfl), wt_g4 224 rfl rfl, wt_g4 225 rfl rfl, wt_g1 9 rfl rfl⟩
set_option maxRecDepth 100000 in
theorem wt_lm_ap_234 : wt_MV "WornType" 234 wt_y_tg_spell := ⟨Or.inl (wt_g4 229 rfl rfl), wt_g4 230 rfl rfl, wt_g4 231 rfl rfl, wt_g1 4 rfl rfl⟩
set_option maxRecDepth 100000 in
theorem wt_lm_ap_238 : wt_MV "WornType" 238 wt_y_sk_often := ⟨Or.inl (wt_g4 235 rfl rfl), wt_g4 236 rfl rfl, wt_g4 237 rfl rfl, wt_g1 7 rfl rfl⟩
set_option maxRecDepth 100000 in
theorem wt_lm_ap_244 : wt_MV "WornType" 244 wt_y_tx_has := ⟨Or.inl (wt_g5 13 rfl rfl), wt_g5 14 rfl rfl, wt_g5 15 rfl rfl, wt_g1 5 rfl rfl⟩
set_option maxRecDepth 100000 in
theorem wt_lm_ap_245 : wt_MV "WornType" 245 wt_y_tx_wordAt := ⟨Or.inl (wt_g5 17 rfl rfl), wt_g5 18 rfl rfl, wt_g5 19 rfl rfl, wt_g1 5 rfl rfl⟩
set_option maxRecDepth 100000 in
theorem wt_lm_ap_249 : wt_MV "WornType" 249 wt_y_tx_needOf := ⟨Or.inl (wt_g5 32 rfl rfl), wt_g3 27 rfl rfl, wt_g3 28 rfl rfl, wt_g1 5 rfl rfl⟩
set_option maxRecDepth 100000 in
theorem wt_lm_ap_252 : wt_MV "WornType" 252 wt_y_tx_spell := ⟨Or.inl (wt_g5 47 rfl rfl), wt_g5 48 rfl rfl, wt_g5 49 rfl rfl, wt_g1 5 rfl rfl⟩
set_option maxRecDepth 100000 in
theorem wt_lm_ap_253 : wt_MS "WornType" 253 wt_y_ap_refuseCopies := ⟨Or.inl (wt_g5 59 rfl rfl), wt_g5 60 rfl rfl, wt_g1 1 rfl rfl⟩
set_option maxRecDepth 100000 in
theorem wt_lm_ap_256 : wt_MV "WornType" 256 wt_y_sk_lacking := ⟨Or.inl (wt_g5 62 rfl rfl), wt_g5 63 rfl rfl, wt_g5 64 rfl rfl, wt_g1 7 rfl rfl⟩
set_option maxRecDepth 100000 in
theorem wt_lm_ap_260 : wt_MV "WornType" 260 wt_y_pg_stand := ⟨Or.inl (wt_g5 73 rfl rfl), wt_g5 74 rfl rfl, wt_g5 75 rfl rfl, wt_g1 8 rfl rfl⟩
set_option maxRecDepth 100000 in
theorem wt_lm_ap_263 : wt_MV "WornType" 263 wt_y_pg_stands := ⟨Or.inl (wt_g5 99 rfl rfl), wt_g4 130 rfl rfl, wt_g4 131 rfl rfl, wt_g1 8 rfl rfl⟩
set_option maxRecDepth 100000 in
theorem wt_lm_ap_266 : wt_MV "WornType" 266 wt_y_pg_press := ⟨Or.inl (wt_g5 100 rfl rfl), wt_g5 101 rfl rfl, wt_g5 102 rfl rfl, wt_g1 8 rfl rfl⟩
set_option maxRecDepth 100000 in
theorem wt_lm_ap_269 : wt_MV "WornType" 269 wt_y_pg_piecesOn := ⟨Or.inl (wt_g5 117 rfl rfl), wt_g5 118 rfl rfl, wt_g5 119 rfl rfl, wt_g1 8 rfl rfl⟩
set_option maxRecDepth 100000 in
theorem wt_lm_ap_272 : wt_MV "WornType" 272 wt_y_st_clearPage := ⟨Or.inl (wt_g5 121 rfl rfl), wt_g5 122 rfl rfl, wt_g5 123 rfl rfl, wt_g1 6 rfl rfl⟩
set_option maxRecDepth 100000 in
theorem wt_lf_ap_275 : wt_Lk "WornType" 275 3 3 true := ⟨_, _, _, _, rfl, wt_cf3, by decide, rfl, rfl, Or.inr ⟨"WornType", wt_n1 208 rfl rfl⟩⟩
set_option maxRecDepth 100000 in
theorem wt_lm_ap_278 : wt_MV "WornType" 278 wt_y_pg_faintOn := ⟨Or.inl (wt_g5 133 rfl rfl), wt_g5 134 rfl rfl, wt_g5 135 rfl rfl, wt_g1 8 rfl rfl⟩
set_option maxRecDepth 100000 in
theorem wt_lm_ap_281 : wt_MV "WornType" 281 wt_y_pg_leastLeftOn := ⟨Or.inl (wt_g5 141 rfl rfl), wt_g5 105 rfl rfl, wt_g5 106 rfl rfl, wt_g1 8 rfl rfl⟩
set_option maxRecDepth 100000 in
theorem wt_lm_ap_284 : wt_MV "WornType" 284 wt_y_pg_misreadOn := ⟨Or.inl (wt_g5 142 rfl rfl), wt_g5 143 rfl rfl, wt_g5 144 rfl rfl, wt_g1 8 rfl rfl⟩
set_option maxRecDepth 100000 in
theorem wt_lm_ap_289 : wt_MV "WornType" 289 wt_y_pg_readAs := ⟨Or.inl (wt_g5 169 rfl rfl), wt_g5 148 rfl rfl, wt_g5 149 rfl rfl, wt_g1 8 rfl rfl⟩
set_option maxRecDepth 100000 in
theorem wt_lm_ap_292 : wt_MV "WornType" 292 wt_y_rw_findLeast := ⟨Or.inl (wt_g5 177 rfl rfl), wt_g5 178 rfl rfl, wt_g5 179 rfl rfl, wt_g1 9 rfl rfl⟩
set_option maxRecDepth 100000 in
theorem wt_lm_ap_295 : wt_MV "WornType" 295 wt_y_rw_found := ⟨Or.inl (wt_g5 214 rfl rfl), wt_g5 215 rfl rfl, wt_g5 216 rfl rfl, wt_g1 9 rfl rfl⟩
set_option maxRecDepth 100000 in
theorem wt_lm_ap_299 : wt_MV "WornType" 299 wt_y_rw_tooMany := ⟨Or.inl (wt_g5 225 rfl rfl), wt_g5 226 rfl rfl, wt_g5 227 rfl rfl, wt_g1 9 rfl rfl⟩
set_option maxRecDepth 100000 in
theorem wt_lm_ap_302 : wt_MV "WornType" 302 wt_y_rw_findFitting := ⟨Or.inl (wt_g5 229 rfl rfl), wt_g5 230 rfl rfl, wt_g5 231 rfl rfl, wt_g1 9 rfl rfl⟩
set_option maxRecDepth 100000 in
theorem wt_lm_ap_306 : wt_MV "WornType" 306 wt_y_rw_howMany := ⟨Or.inl (wt_g6 9 rfl rfl), wt_g6 10 rfl rfl, wt_g6 11 rfl rfl, wt_g1 9 rfl rfl⟩
set_option maxRecDepth 100000 in
theorem wt_lc_ap_309 : Cond.constant "WornType" 309 1000000 ∈ wt_GT := wt_g6 17 rfl rfl
set_option maxRecDepth 100000 in
theorem wt_lm_ap_310 : Cond.methodLink "WornType" 310 Lib.Math.min.name ∈ wt_GT := wt_g6 18 rfl rfl
set_option maxRecDepth 100000 in
theorem wt_lm_ap_315 : wt_MV "WornType" 315 wt_y_st_addWanted := ⟨Or.inl (wt_g6 26 rfl rfl), wt_g6 27 rfl rfl, wt_g6 28 rfl rfl, wt_g1 6 rfl rfl⟩
set_option maxRecDepth 100000 in
theorem wt_lm_ap_319 : wt_MV "WornType" 319 wt_y_wk_findMost := ⟨Or.inl (wt_g6 37 rfl rfl), wt_g6 38 rfl rfl, wt_g6 39 rfl rfl, wt_g1 10 rfl rfl⟩
set_option maxRecDepth 100000 in
theorem wt_lf_ap_322 : wt_Lk "WornType" 322 9 10 false := ⟨_, _, _, _, rfl, wt_cf9, by decide, rfl, rfl, Or.inr ⟨"WornType", wt_n2 107 rfl rfl⟩⟩
set_option maxRecDepth 100000 in
theorem wt_lf_ap_325 : wt_Lk "WornType" 325 9 8 false := ⟨_, _, _, _, rfl, wt_cf9, by decide, rfl, rfl, Or.inr ⟨"WornType", wt_n2 103 rfl rfl⟩⟩
set_option maxRecDepth 100000 in
theorem wt_lf_ap_328 : wt_Lk "WornType" 328 9 9 false := ⟨_, _, _, _, rfl, wt_cf9, by decide, rfl, rfl, Or.inr ⟨"WornType", wt_n2 105 rfl rfl⟩⟩
set_option maxRecDepth 100000 in
theorem wt_lm_ap_331 : wt_MV "WornType" 331 wt_y_wk_printGreedily := ⟨Or.inl (wt_g6 73 rfl rfl), wt_g6 74 rfl rfl, wt_g6 75 rfl rfl, wt_g1 10 rfl rfl⟩
set_option maxRecDepth 100000 in
theorem wt_lm_ap_334 : wt_MV "WornType" 334 wt_y_wk_leastBound := ⟨Or.inl (wt_g2 234 rfl rfl), wt_g2 235 rfl rfl, wt_g2 236 rfl rfl, wt_g1 10 rfl rfl⟩
set_option maxRecDepth 100000 in
theorem wt_lm_ap_337 : wt_MV "WornType" 337 wt_y_wk_stillSaid := ⟨Or.inl (wt_g6 92 rfl rfl), wt_g6 93 rfl rfl, wt_g6 94 rfl rfl, wt_g1 10 rfl rfl⟩
set_option maxRecDepth 100000 in
theorem wt_lm_ap_340 : wt_MV "WornType" 340 wt_y_wk_wordsLost := ⟨Or.inl (wt_g6 105 rfl rfl), wt_g6 106 rfl rfl, wt_g6 107 rfl rfl, wt_g1 10 rfl rfl⟩
set_option maxRecDepth 100000 in
theorem wt_lm_ap_343 : wt_MV "WornType" 343 wt_y_wk_firstLost := ⟨Or.inl (wt_g6 117 rfl rfl), wt_g6 118 rfl rfl, wt_g6 119 rfl rfl, wt_g1 10 rfl rfl⟩
set_option maxRecDepth 100000 in
theorem wt_lm_ap_346 : wt_MV "WornType" 346 wt_y_tr_bestExchange := ⟨Or.inl (wt_g6 128 rfl rfl), wt_g6 129 rfl rfl, wt_g6 130 rfl rfl, wt_g1 11 rfl rfl⟩
set_option maxRecDepth 100000 in
theorem wt_lm_ap_349 : wt_MV "WornType" 349 wt_y_tr_bestCast := ⟨Or.inl (wt_g6 167 rfl rfl), wt_g6 168 rfl rfl, wt_g6 169 rfl rfl, wt_g1 11 rfl rfl⟩
set_option maxRecDepth 100000 in
theorem wt_lm_ap_352 : wt_MV "WornType" 352 wt_y_tr_mostAtOnce := ⟨Or.inl (wt_g6 178 rfl rfl), wt_g6 179 rfl rfl, wt_g6 180 rfl rfl, wt_g1 11 rfl rfl⟩
set_option maxRecDepth 100000 in
theorem wt_lm_ap_355 : wt_MV "WornType" 355 wt_y_st_become := ⟨Or.inl (wt_g3 38 rfl rfl), wt_g3 39 rfl rfl, wt_g3 40 rfl rfl, wt_g1 6 rfl rfl⟩
set_option maxRecDepth 100000 in
theorem wt_lf_ld_9 : wt_Lk "WornType$Lead" 9 0 0 true := ⟨_, _, _, _, rfl, wt_cf0, by decide, rfl, rfl, Or.inl (wt_g1 83 rfl rfl)⟩
set_option maxRecDepth 100000 in
theorem wt_lf_ld_15 : wt_Lk "WornType$Lead" 15 0 1 true := ⟨_, _, _, _, rfl, wt_cf0, by decide, rfl, rfl, Or.inl (wt_g1 85 rfl rfl)⟩
set_option maxRecDepth 100000 in
theorem wt_lf_ld_18 : wt_Lk "WornType$Lead" 18 0 2 true := ⟨_, _, _, _, rfl, wt_cf0, by decide, rfl, rfl, Or.inl (wt_g1 87 rfl rfl)⟩
set_option maxRecDepth 100000 in
theorem wt_lf_ld_21 : wt_Lk "WornType$Lead" 21 0 3 true := ⟨_, _, _, _, rfl, wt_cf0, by decide, rfl, rfl, Or.inl (wt_g1 90 rfl rfl)⟩
set_option maxRecDepth 100000 in
theorem wt_lf_ld_24 : wt_Lk "WornType$Lead" 24 0 4 true := ⟨_, _, _, _, rfl, wt_cf0, by decide, rfl, rfl, Or.inl (wt_g1 91 rfl rfl)⟩
set_option maxRecDepth 100000 in
theorem wt_lf_ld_27 : wt_Lk "WornType$Lead" 27 0 5 true := ⟨_, _, _, _, rfl, wt_cf0, by decide, rfl, rfl, Or.inl (wt_g1 94 rfl rfl)⟩
set_option maxRecDepth 100000 in
theorem wt_lf_ld_30 : wt_Lk "WornType$Lead" 30 0 6 true := ⟨_, _, _, _, rfl, wt_cf0, by decide, rfl, rfl, Or.inl (wt_g1 97 rfl rfl)⟩
set_option maxRecDepth 100000 in
theorem wt_lm_ld_33 : wt_MV "WornType$Lead" 33 wt_y_ld_clear := ⟨Or.inl (wt_g1 76 rfl rfl), wt_g1 78 rfl rfl, wt_g0 0 rfl rfl, wt_g1 3 rfl rfl⟩
set_option maxRecDepth 100000 in
theorem wt_lm_ld_36 : wt_MS "WornType$Lead" 36 wt_y_ap_copyRow := ⟨Or.inr ⟨"WornType", wt_n4 37 rfl rfl⟩, wt_g3 43 rfl rfl, wt_g1 1 rfl rfl⟩
set_option maxRecDepth 100000 in
theorem wt_lf_ld_40 : wt_Lk "WornType$Lead" 40 0 7 false := ⟨_, _, _, _, rfl, wt_cf0, by decide, rfl, rfl, Or.inl (wt_g1 98 rfl rfl)⟩
set_option maxRecDepth 100000 in
theorem wt_lm_ld_44 : wt_MS "WornType$Lead" 44 wt_y_ap_look := ⟨Or.inr ⟨"WornType", wt_n3 238 rfl rfl⟩, wt_g3 11 rfl rfl, wt_g1 1 rfl rfl⟩
set_option maxRecDepth 100000 in
theorem wt_lm_ld_48 : Cond.methodLink "WornType$Lead" 48 Lib.Math.max.name ∈ wt_GT := wt_g6 136 rfl rfl
set_option maxRecDepth 100000 in
theorem wt_lm_ld_54 : wt_MV "WornType$Lead" 54 wt_y_tp_over := ⟨Or.inl (wt_g3 140 rfl rfl), wt_g3 141 rfl rfl, wt_g3 142 rfl rfl, wt_g1 2 rfl rfl⟩
set_option maxRecDepth 100000 in
theorem wt_lm_ld_60 : wt_MV "WornType$Lead" 60 wt_y_ld_fillClause := ⟨Or.inl (wt_g3 149 rfl rfl), wt_g3 151 rfl rfl, wt_g0 7 rfl rfl, wt_g1 3 rfl rfl⟩
set_option maxRecDepth 100000 in
theorem wt_lm_ld_64 : wt_MV "WornType$Lead" 64 wt_y_tp_needSign := ⟨Or.inl (wt_g4 25 rfl rfl), wt_g4 26 rfl rfl, wt_g4 27 rfl rfl, wt_g1 2 rfl rfl⟩
set_option maxRecDepth 100000 in
theorem wt_lm_ld_68 : wt_MS "WornType$Lead" 68 wt_y_ap_fillRow := ⟨Or.inr ⟨"WornType", wt_n1 80 rfl rfl⟩, wt_g1 81 rfl rfl, wt_g1 1 rfl rfl⟩
set_option maxRecDepth 100000 in
theorem wt_lm_ld_72 : wt_MV "WornType$Lead" 72 wt_y_tp_takeWord := ⟨Or.inl (wt_g3 153 rfl rfl), wt_g3 154 rfl rfl, wt_g3 155 rfl rfl, wt_g1 2 rfl rfl⟩
set_option maxRecDepth 100000 in
theorem wt_lm_ld_75 : wt_MS "WornType$Lead" 75 wt_y_ld_namesClause := ⟨Or.inl (wt_g3 164 rfl rfl), wt_g3 165 rfl rfl, wt_g1 3 rfl rfl⟩
set_option maxRecDepth 100000 in
theorem wt_lm_ld_79 : wt_MV "WornType$Lead" 79 wt_y_tp_fail := ⟨Or.inl (wt_g3 229 rfl rfl), wt_g3 161 rfl rfl, wt_g3 162 rfl rfl, wt_g1 2 rfl rfl⟩
set_option maxRecDepth 100000 in
theorem wt_lm_ld_84 : wt_MV "WornType$Lead" 84 wt_y_tp_wordIs := ⟨Or.inl (wt_g3 168 rfl rfl), wt_g3 169 rfl rfl, wt_g3 170 rfl rfl, wt_g1 2 rfl rfl⟩
set_option maxRecDepth 100000 in
theorem wt_lm_ld_88 : wt_MS "WornType$Lead" 88 wt_y_ld_fillPieces := ⟨Or.inl (wt_g3 230 rfl rfl), wt_g3 231 rfl rfl, wt_g1 3 rfl rfl⟩
set_option maxRecDepth 100000 in
theorem wt_lm_ld_96 : wt_MV "WornType$Lead" 96 wt_y_ld_fillPrice := ⟨Or.inl (wt_g4 9 rfl rfl), wt_g4 11 rfl rfl, wt_g0 8 rfl rfl, wt_g1 3 rfl rfl⟩
set_option maxRecDepth 100000 in
theorem wt_lm_ld_100 : wt_MV "WornType$Lead" 100 wt_y_ld_fillFaint := ⟨Or.inl (wt_g4 13 rfl rfl), wt_g4 15 rfl rfl, wt_g0 9 rfl rfl, wt_g1 3 rfl rfl⟩
set_option maxRecDepth 100000 in
theorem wt_lm_ld_105 : wt_MV "WornType$Lead" 105 wt_y_ld_fillLike := ⟨Or.inl (wt_g4 17 rfl rfl), wt_g4 19 rfl rfl, wt_g0 10 rfl rfl, wt_g1 3 rfl rfl⟩
set_option maxRecDepth 100000 in
theorem wt_lm_ld_108 : wt_MV "WornType$Lead" 108 wt_y_ld_fillFollow := ⟨Or.inl (wt_g4 21 rfl rfl), wt_g4 23 rfl rfl, wt_g0 11 rfl rfl, wt_g1 3 rfl rfl⟩
set_option maxRecDepth 100000 in
theorem wt_lm_ld_113 : wt_MV "WornType$Lead" 113 wt_y_tp_takeLetter := ⟨Or.inl (wt_g3 233 rfl rfl), wt_g3 234 rfl rfl, wt_g3 235 rfl rfl, wt_g1 2 rfl rfl⟩
set_option maxRecDepth 100000 in
theorem wt_lm_ld_117 : wt_MV "WornType$Lead" 117 wt_y_tp_takeNumber := ⟨Or.inl (wt_g3 239 rfl rfl), wt_g4 0 rfl rfl, wt_g4 1 rfl rfl, wt_g1 2 rfl rfl⟩
set_option maxRecDepth 100000 in
theorem wt_lm_ld_120 : wt_MS "WornType$Lead" 120 wt_y_ap_put := ⟨Or.inr ⟨"WornType", wt_n4 8 rfl rfl⟩, wt_g2 220 rfl rfl, wt_g1 1 rfl rfl⟩
set_option maxRecDepth 100000 in
theorem wt_lf_pg_9 : wt_Lk "WornType$Pages" 9 1 0 true := ⟨_, _, _, _, rfl, wt_cf1, by decide, rfl, rfl, Or.inl (wt_g2 24 rfl rfl)⟩
set_option maxRecDepth 100000 in
theorem wt_lf_pg_15 : wt_Lk "WornType$Pages" 15 1 1 true := ⟨_, _, _, _, rfl, wt_cf1, by decide, rfl, rfl, Or.inl (wt_g2 25 rfl rfl)⟩
set_option maxRecDepth 100000 in
theorem wt_lf_pg_19 : wt_Lk "WornType$Pages" 19 1 2 true := ⟨_, _, _, _, rfl, wt_cf1, by decide, rfl, rfl, Or.inl (wt_g2 26 rfl rfl)⟩
set_option maxRecDepth 100000 in
theorem wt_lf_pg_23 : wt_Lk "WornType$Pages" 23 1 3 true := ⟨_, _, _, _, rfl, wt_cf1, by decide, rfl, rfl, Or.inl (wt_g2 27 rfl rfl)⟩
set_option maxRecDepth 100000 in
theorem wt_lf_pg_27 : wt_Lk "WornType$Pages" 27 1 4 true := ⟨_, _, _, _, rfl, wt_cf1, by decide, rfl, rfl, Or.inl (wt_g2 28 rfl rfl)⟩
set_option maxRecDepth 100000 in
theorem wt_lf_pg_31 : wt_Lk "WornType$Pages" 31 1 5 true := ⟨_, _, _, _, rfl, wt_cf1, by decide, rfl, rfl, Or.inl (wt_g2 29 rfl rfl)⟩
set_option maxRecDepth 100000 in
theorem wt_lf_pg_35 : wt_Lk "WornType$Pages" 35 1 6 true := ⟨_, _, _, _, rfl, wt_cf1, by decide, rfl, rfl, Or.inl (wt_g2 30 rfl rfl)⟩
set_option maxRecDepth 100000 in
theorem wt_lf_pg_38 : wt_Lk "WornType$Pages" 38 1 7 true := ⟨_, _, _, _, rfl, wt_cf1, by decide, rfl, rfl, Or.inl (wt_g2 31 rfl rfl)⟩
set_option maxRecDepth 100000 in
theorem wt_lf_pg_41 : wt_Lk "WornType$Pages" 41 3 3 true := ⟨_, _, _, _, rfl, wt_cf3, by decide, rfl, rfl, Or.inr ⟨"WornType", wt_n1 207 rfl rfl⟩⟩
set_option maxRecDepth 100000 in
theorem wt_lm_pg_46 : wt_MS "WornType$Pages" 46 wt_y_ap_look := ⟨Or.inr ⟨"WornType", wt_n4 133 rfl rfl⟩, wt_g3 11 rfl rfl, wt_g1 1 rfl rfl⟩
set_option maxRecDepth 100000 in
theorem wt_lm_pg_50 : wt_MV "WornType$Pages" 50 wt_y_pg_stands := ⟨Or.inl (wt_g4 129 rfl rfl), wt_g4 130 rfl rfl, wt_g4 131 rfl rfl, wt_g1 8 rfl rfl⟩
set_option maxRecDepth 100000 in
theorem wt_lm_pg_54 : wt_MV "WornType$Pages" 54 wt_y_tx_spell := ⟨Or.inl (wt_g5 77 rfl rfl), wt_g5 48 rfl rfl, wt_g5 49 rfl rfl, wt_g1 5 rfl rfl⟩
set_option maxRecDepth 100000 in
theorem wt_lf_pg_60 : wt_Lk "WornType$Pages" 60 3 0 true := ⟨_, _, _, _, rfl, wt_cf3, by decide, rfl, rfl, Or.inr ⟨"WornType", wt_n1 196 rfl rfl⟩⟩
set_option maxRecDepth 100000 in
theorem wt_lm_pg_63 : wt_MV "WornType$Pages" 63 wt_y_sk_lacking := ⟨Or.inl (wt_g5 78 rfl rfl), wt_g5 63 rfl rfl, wt_g5 64 rfl rfl, wt_g1 7 rfl rfl⟩
set_option maxRecDepth 100000 in
theorem wt_lm_pg_69 : wt_MV "WornType$Pages" 69 wt_y_pg_firstFree := ⟨Or.inl (wt_g5 79 rfl rfl), wt_g5 81 rfl rfl, wt_g0 16 rfl rfl, wt_g1 8 rfl rfl⟩
set_option maxRecDepth 100000 in
theorem wt_lm_pg_73 : wt_MV "WornType$Pages" 73 wt_y_sk_choose := ⟨Or.inl (wt_g5 83 rfl rfl), wt_g5 84 rfl rfl, wt_g5 85 rfl rfl, wt_g1 7 rfl rfl⟩
set_option maxRecDepth 100000 in
theorem wt_lf_pg_77 : wt_Lk "WornType$Pages" 77 3 1 true := ⟨_, _, _, _, rfl, wt_cf3, by decide, rfl, rfl, Or.inr ⟨"WornType", wt_n1 201 rfl rfl⟩⟩
set_option maxRecDepth 100000 in
theorem wt_lm_pg_80 : wt_MS "WornType$Pages" 80 wt_y_ap_put := ⟨Or.inr ⟨"WornType", wt_n5 91 rfl rfl⟩, wt_g2 220 rfl rfl, wt_g1 1 rfl rfl⟩
set_option maxRecDepth 100000 in
theorem wt_lf_pg_84 : wt_Lk "WornType$Pages" 84 3 2 true := ⟨_, _, _, _, rfl, wt_cf3, by decide, rfl, rfl, Or.inr ⟨"WornType", wt_n1 205 rfl rfl⟩⟩
set_option maxRecDepth 100000 in
theorem wt_lm_pg_87 : wt_MV "WornType$Pages" 87 wt_y_pg_leastLeftOn := ⟨Or.inl (wt_g5 104 rfl rfl), wt_g5 105 rfl rfl, wt_g5 106 rfl rfl, wt_g1 8 rfl rfl⟩
set_option maxRecDepth 100000 in
theorem wt_lm_pg_91 : wt_MV "WornType$Pages" 91 wt_y_pg_isFaint := ⟨Or.inl (wt_g5 137 rfl rfl), wt_g5 139 rfl rfl, wt_g0 18 rfl rfl, wt_g1 8 rfl rfl⟩
set_option maxRecDepth 100000 in
theorem wt_lc_pg_94 : Cond.constant "WornType$Pages" 94 1000000 ∈ wt_GT := wt_g5 108 rfl rfl
set_option maxRecDepth 100000 in
theorem wt_lm_pg_95 : Cond.methodLink "WornType$Pages" 95 Lib.Math.min.name ∈ wt_GT := wt_g5 109 rfl rfl
set_option maxRecDepth 100000 in
theorem wt_lm_pg_101 : wt_MV "WornType$Pages" 101 wt_y_tx_lengthOf := ⟨Or.inl (wt_g5 146 rfl rfl), wt_g5 22 rfl rfl, wt_g5 23 rfl rfl, wt_g1 5 rfl rfl⟩
set_option maxRecDepth 100000 in
theorem wt_lm_pg_104 : wt_MV "WornType$Pages" 104 wt_y_pg_readAs := ⟨Or.inl (wt_g5 147 rfl rfl), wt_g5 148 rfl rfl, wt_g5 149 rfl rfl, wt_g1 8 rfl rfl⟩
set_option maxRecDepth 100000 in
theorem wt_lm_pg_107 : wt_MV "WornType$Pages" 107 wt_y_tx_wordAt := ⟨Or.inl (wt_g5 152 rfl rfl), wt_g5 18 rfl rfl, wt_g5 19 rfl rfl, wt_g1 5 rfl rfl⟩
set_option maxRecDepth 100000 in
theorem wt_lm_pg_110 : wt_MS "WornType$Pages" 110 wt_y_ap_fillRow := ⟨Or.inr ⟨"WornType", wt_n5 151 rfl rfl⟩, wt_g1 81 rfl rfl, wt_g1 1 rfl rfl⟩
set_option maxRecDepth 100000 in
theorem wt_lm_pg_114 : wt_MV "WornType$Pages" 114 wt_y_tg_countInto := ⟨Or.inl (wt_g5 153 rfl rfl), wt_g4 110 rfl rfl, wt_g4 111 rfl rfl, wt_g1 4 rfl rfl⟩
set_option maxRecDepth 100000 in
theorem wt_lf_pg_119 : wt_Lk "WornType$Pages" 119 7 1 true := ⟨_, _, _, _, rfl, wt_cf7, by decide, rfl, rfl, Or.inr ⟨"WornType", wt_n1 128 rfl rfl⟩⟩
set_option maxRecDepth 100000 in
theorem wt_lm_pg_122 : wt_MV "WornType$Pages" 122 wt_y_tg_letterAt := ⟨Or.inl (wt_g5 154 rfl rfl), wt_g4 78 rfl rfl, wt_g4 79 rfl rfl, wt_g1 4 rfl rfl⟩
set_option maxRecDepth 100000 in
theorem wt_lm_pg_125 : wt_MV "WornType$Pages" 125 wt_y_pg_readLetter := ⟨Or.inl (wt_g5 155 rfl rfl), wt_g5 157 rfl rfl, wt_g0 19 rfl rfl, wt_g1 8 rfl rfl⟩
set_option maxRecDepth 100000 in
theorem wt_lm_pg_129 : wt_MV "WornType$Pages" 129 wt_y_tg_find := ⟨Or.inl (wt_g5 160 rfl rfl), wt_g4 69 rfl rfl, wt_g4 70 rfl rfl, wt_g1 4 rfl rfl⟩
set_option maxRecDepth 100000 in
theorem wt_lf_pg_132 : wt_Lk "WornType$Pages" 132 0 5 true := ⟨_, _, _, _, rfl, wt_cf0, by decide, rfl, rfl, Or.inr ⟨"WornType", wt_n1 96 rfl rfl⟩⟩
set_option maxRecDepth 100000 in
theorem wt_lm_pg_137 : wt_MV "WornType$Pages" 137 wt_y_sk_pieces := ⟨Or.inl (wt_g5 159 rfl rfl), wt_g3 7 rfl rfl, wt_g3 8 rfl rfl, wt_g1 7 rfl rfl⟩
set_option maxRecDepth 100000 in
theorem wt_lf_pg_140 : wt_Lk "WornType$Pages" 140 0 7 false := ⟨_, _, _, _, rfl, wt_cf0, by decide, rfl, rfl, Or.inr ⟨"WornType", wt_n1 100 rfl rfl⟩⟩
set_option maxRecDepth 100000 in
theorem wt_lf_rw_9 : wt_Lk "WornType$Rows" 9 2 0 true := ⟨_, _, _, _, rfl, wt_cf2, by decide, rfl, rfl, Or.inl (wt_g2 55 rfl rfl)⟩
set_option maxRecDepth 100000 in
theorem wt_lf_rw_15 : wt_Lk "WornType$Rows" 15 2 1 true := ⟨_, _, _, _, rfl, wt_cf2, by decide, rfl, rfl, Or.inl (wt_g2 56 rfl rfl)⟩
set_option maxRecDepth 100000 in
theorem wt_lf_rw_19 : wt_Lk "WornType$Rows" 19 2 2 true := ⟨_, _, _, _, rfl, wt_cf2, by decide, rfl, rfl, Or.inl (wt_g2 57 rfl rfl)⟩
set_option maxRecDepth 100000 in
theorem wt_lf_rw_23 : wt_Lk "WornType$Rows" 23 2 3 true := ⟨_, _, _, _, rfl, wt_cf2, by decide, rfl, rfl, Or.inl (wt_g2 58 rfl rfl)⟩
set_option maxRecDepth 100000 in
theorem wt_lf_rw_27 : wt_Lk "WornType$Rows" 27 2 4 true := ⟨_, _, _, _, rfl, wt_cf2, by decide, rfl, rfl, Or.inl (wt_g2 59 rfl rfl)⟩
set_option maxRecDepth 100000 in
theorem wt_lf_rw_31 : wt_Lk "WornType$Rows" 31 2 5 true := ⟨_, _, _, _, rfl, wt_cf2, by decide, rfl, rfl, Or.inl (wt_g2 60 rfl rfl)⟩
set_option maxRecDepth 100000 in
theorem wt_lf_rw_35 : wt_Lk "WornType$Rows" 35 2 6 true := ⟨_, _, _, _, rfl, wt_cf2, by decide, rfl, rfl, Or.inl (wt_g2 61 rfl rfl)⟩
set_option maxRecDepth 100000 in
theorem wt_lf_rw_38 : wt_Lk "WornType$Rows" 38 2 7 true := ⟨_, _, _, _, rfl, wt_cf2, by decide, rfl, rfl, Or.inl (wt_g2 62 rfl rfl)⟩
set_option maxRecDepth 100000 in
theorem wt_lf_rw_41 : wt_Lk "WornType$Rows" 41 2 8 true := ⟨_, _, _, _, rfl, wt_cf2, by decide, rfl, rfl, Or.inl (wt_g2 63 rfl rfl)⟩
set_option maxRecDepth 100000 in
theorem wt_lf_rw_44 : wt_Lk "WornType$Rows" 44 2 9 false := ⟨_, _, _, _, rfl, wt_cf2, by decide, rfl, rfl, Or.inl (wt_g2 64 rfl rfl)⟩
set_option maxRecDepth 100000 in
theorem wt_lf_rw_48 : wt_Lk "WornType$Rows" 48 7 1 true := ⟨_, _, _, _, rfl, wt_cf7, by decide, rfl, rfl, Or.inr ⟨"WornType", wt_n1 126 rfl rfl⟩⟩
set_option maxRecDepth 100000 in
theorem wt_lm_rw_53 : wt_MS "WornType$Rows" 53 wt_y_ap_look := ⟨Or.inr ⟨"WornType", wt_n4 227 rfl rfl⟩, wt_g3 11 rfl rfl, wt_g1 1 rfl rfl⟩
set_option maxRecDepth 100000 in
theorem wt_lf_rw_57 : wt_Lk "WornType$Rows" 57 0 4 true := ⟨_, _, _, _, rfl, wt_cf0, by decide, rfl, rfl, Or.inr ⟨"WornType", wt_n1 92 rfl rfl⟩⟩
set_option maxRecDepth 100000 in
theorem wt_lm_rw_62 : wt_MV "WornType$Rows" 62 wt_y_tg_letterAt := ⟨Or.inl (wt_g4 228 rfl rfl), wt_g4 78 rfl rfl, wt_g4 79 rfl rfl, wt_g1 4 rfl rfl⟩
set_option maxRecDepth 100000 in
theorem wt_lm_rw_66 : wt_MV "WornType$Rows" 66 wt_y_tx_lengthOf := ⟨Or.inl (wt_g5 181 rfl rfl), wt_g5 22 rfl rfl, wt_g5 23 rfl rfl, wt_g1 5 rfl rfl⟩
set_option maxRecDepth 100000 in
theorem wt_lm_rw_72 : wt_MV "WornType$Rows" 72 wt_y_tx_wordAt := ⟨Or.inl (wt_g5 182 rfl rfl), wt_g5 18 rfl rfl, wt_g5 19 rfl rfl, wt_g1 5 rfl rfl⟩
set_option maxRecDepth 100000 in
theorem wt_lm_rw_75 : wt_MV "WornType$Rows" 75 wt_y_tg_membersLike := ⟨Or.inl (wt_g5 183 rfl rfl), wt_g5 184 rfl rfl, wt_g5 185 rfl rfl, wt_g1 4 rfl rfl⟩
set_option maxRecDepth 100000 in
theorem wt_lm_rw_78 : wt_MV "WornType$Rows" 78 wt_y_tg_firstLike := ⟨Or.inl (wt_g5 187 rfl rfl), wt_g5 188 rfl rfl, wt_g5 189 rfl rfl, wt_g1 4 rfl rfl⟩
set_option maxRecDepth 100000 in
theorem wt_lm_rw_81 : wt_MV "WornType$Rows" 81 wt_y_rw_waysBehind := ⟨Or.inl (wt_g6 13 rfl rfl), wt_g6 15 rfl rfl, wt_g0 25 rfl rfl, wt_g1 9 rfl rfl⟩
set_option maxRecDepth 100000 in
theorem wt_lm_rw_85 : wt_MS "WornType$Rows" 85 wt_y_ap_put := ⟨Or.inr ⟨"WornType", wt_n5 213 rfl rfl⟩, wt_g2 220 rfl rfl, wt_g1 1 rfl rfl⟩
set_option maxRecDepth 100000 in
theorem wt_lm_rw_89 : wt_MV "WornType$Rows" 89 wt_y_rw_leastFrom := ⟨Or.inl (wt_g5 191 rfl rfl), wt_g5 193 rfl rfl, wt_g0 20 rfl rfl, wt_g1 9 rfl rfl⟩
set_option maxRecDepth 100000 in
theorem wt_lm_rw_92 : wt_MV "WornType$Rows" 92 wt_y_rw_cheapestBehind := ⟨Or.inl (wt_g5 196 rfl rfl), wt_g5 198 rfl rfl, wt_g0 21 rfl rfl, wt_g1 9 rfl rfl⟩
set_option maxRecDepth 100000 in
theorem wt_lm_rw_95 : wt_MV "WornType$Rows" 95 wt_y_rw_sumAt := ⟨Or.inl (wt_g5 201 rfl rfl), wt_g5 203 rfl rfl, wt_g0 22 rfl rfl, wt_g1 9 rfl rfl⟩
set_option maxRecDepth 100000 in
theorem wt_lf_rw_98 : wt_Lk "WornType$Rows" 98 3 0 true := ⟨_, _, _, _, rfl, wt_cf3, by decide, rfl, rfl, Or.inr ⟨"WornType", wt_n1 198 rfl rfl⟩⟩
set_option maxRecDepth 100000 in
theorem wt_lm_rw_103 : wt_MV "WornType$Rows" 103 wt_y_sk_ready := ⟨Or.inl (wt_g5 233 rfl rfl), wt_g4 148 rfl rfl, wt_g4 149 rfl rfl, wt_g1 7 rfl rfl⟩
set_option maxRecDepth 100000 in
theorem wt_lm_rw_109 : wt_MS "WornType$Rows" 109 wt_y_rw_fitFrom := ⟨Or.inl (wt_g5 234 rfl rfl), wt_g5 235 rfl rfl, wt_g1 9 rfl rfl⟩
set_option maxRecDepth 100000 in
theorem wt_lm_rw_113 : wt_MS "WornType$Rows" 113 wt_y_ap_copyRow := ⟨Or.inr ⟨"WornType", wt_n5 237 rfl rfl⟩, wt_g3 43 rfl rfl, wt_g1 1 rfl rfl⟩
set_option maxRecDepth 100000 in
theorem wt_lm_rw_117 : wt_MV "WornType$Rows" 117 wt_y_rw_priceOf := ⟨Or.inl (wt_g5 195 rfl rfl), wt_g4 224 rfl rfl, wt_g4 225 rfl rfl, wt_g1 9 rfl rfl⟩
set_option maxRecDepth 100000 in
theorem wt_lm_rw_120 : wt_MV "WornType$Rows" 120 wt_y_rw_mayFollow := ⟨Or.inl (wt_g5 205 rfl rfl), wt_g5 207 rfl rfl, wt_g0 23 rfl rfl, wt_g1 9 rfl rfl⟩
set_option maxRecDepth 100000 in
theorem wt_lm_rw_124 : wt_MV "WornType$Rows" 124 wt_y_rw_spend := ⟨Or.inl (wt_g5 238 rfl rfl), wt_g6 0 rfl rfl, wt_g0 24 rfl rfl, wt_g1 9 rfl rfl⟩
set_option maxRecDepth 100000 in
theorem wt_lf_rw_127 : wt_Lk "WornType$Rows" 127 7 2 true := ⟨_, _, _, _, rfl, wt_cf7, by decide, rfl, rfl, Or.inr ⟨"WornType", wt_n1 130 rfl rfl⟩⟩
set_option maxRecDepth 100000 in
theorem wt_lm_rw_130 : wt_MV "WornType$Rows" 130 wt_y_ld_mayFollow := ⟨Or.inl (wt_g5 209 rfl rfl), wt_g5 210 rfl rfl, wt_g5 211 rfl rfl, wt_g1 3 rfl rfl⟩
set_option maxRecDepth 100000 in
theorem wt_lc_rw_131 : Cond.constant "WornType$Rows" 131 1000000 ∈ wt_GT := wt_g5 200 rfl rfl
set_option maxRecDepth 100000 in
theorem wt_lf_st_9 : wt_Lk "WornType$State" 9 3 0 true := ⟨_, _, _, _, rfl, wt_cf3, by decide, rfl, rfl, Or.inl (wt_g1 193 rfl rfl)⟩
set_option maxRecDepth 100000 in
theorem wt_lf_st_15 : wt_Lk "WornType$State" 15 3 1 true := ⟨_, _, _, _, rfl, wt_cf3, by decide, rfl, rfl, Or.inl (wt_g1 200 rfl rfl)⟩
set_option maxRecDepth 100000 in
theorem wt_lf_st_18 : wt_Lk "WornType$State" 18 3 2 true := ⟨_, _, _, _, rfl, wt_cf3, by decide, rfl, rfl, Or.inl (wt_g1 204 rfl rfl)⟩
set_option maxRecDepth 100000 in
theorem wt_lf_st_21 : wt_Lk "WornType$State" 21 3 3 true := ⟨_, _, _, _, rfl, wt_cf3, by decide, rfl, rfl, Or.inl (wt_g1 206 rfl rfl)⟩
set_option maxRecDepth 100000 in
theorem wt_lf_st_24 : wt_Lk "WornType$State" 24 3 4 true := ⟨_, _, _, _, rfl, wt_cf3, by decide, rfl, rfl, Or.inl (wt_g1 209 rfl rfl)⟩
set_option maxRecDepth 100000 in
theorem wt_lf_st_27 : wt_Lk "WornType$State" 27 3 5 true := ⟨_, _, _, _, rfl, wt_cf3, by decide, rfl, rfl, Or.inl (wt_g1 211 rfl rfl)⟩
set_option maxRecDepth 100000 in
theorem wt_lf_st_30 : wt_Lk "WornType$State" 30 3 6 true := ⟨_, _, _, _, rfl, wt_cf3, by decide, rfl, rfl, Or.inl (wt_g1 213 rfl rfl)⟩
set_option maxRecDepth 100000 in
theorem wt_lf_st_33 : wt_Lk "WornType$State" 33 3 7 true := ⟨_, _, _, _, rfl, wt_cf3, by decide, rfl, rfl, Or.inl (wt_g1 215 rfl rfl)⟩
set_option maxRecDepth 100000 in
theorem wt_lm_st_36 : wt_MV "WornType$State" 36 wt_y_st_clearPages := ⟨Or.inl (wt_g1 188 rfl rfl), wt_g1 189 rfl rfl, wt_g1 190 rfl rfl, wt_g1 6 rfl rfl⟩
set_option maxRecDepth 100000 in
theorem wt_lm_st_39 : wt_MS "WornType$State" 39 wt_y_ap_copyRow := ⟨Or.inr ⟨"WornType", wt_n3 42 rfl rfl⟩, wt_g3 43 rfl rfl, wt_g1 1 rfl rfl⟩
set_option maxRecDepth 100000 in
theorem wt_lf_st_43 : wt_Lk "WornType$State" 43 3 8 false := ⟨_, _, _, _, rfl, wt_cf3, by decide, rfl, rfl, Or.inl (wt_g1 217 rfl rfl)⟩
set_option maxRecDepth 100000 in
theorem wt_lf_st_47 : wt_Lk "WornType$State" 47 3 9 false := ⟨_, _, _, _, rfl, wt_cf3, by decide, rfl, rfl, Or.inl (wt_g1 220 rfl rfl)⟩
set_option maxRecDepth 100000 in
theorem wt_lf_st_50 : wt_Lk "WornType$State" 50 0 1 true := ⟨_, _, _, _, rfl, wt_cf0, by decide, rfl, rfl, Or.inr ⟨"WornType", wt_n1 86 rfl rfl⟩⟩
set_option maxRecDepth 100000 in
theorem wt_lm_st_55 : wt_MS "WornType$State" 55 wt_y_ap_fillRow := ⟨Or.inr ⟨"WornType", wt_n1 192 rfl rfl⟩, wt_g1 81 rfl rfl, wt_g1 1 rfl rfl⟩
set_option maxRecDepth 100000 in
theorem wt_lm_st_59 : wt_MS "WornType$State" 59 wt_y_ap_put := ⟨Or.inr ⟨"WornType", wt_n5 125 rfl rfl⟩, wt_g2 220 rfl rfl, wt_g1 1 rfl rfl⟩
set_option maxRecDepth 100000 in
theorem wt_lf_sk_9 : wt_Lk "WornType$Stock" 9 4 0 true := ⟨_, _, _, _, rfl, wt_cf4, by decide, rfl, rfl, Or.inl (wt_g2 11 rfl rfl)⟩
set_option maxRecDepth 100000 in
theorem wt_lf_sk_15 : wt_Lk "WornType$Stock" 15 4 1 true := ⟨_, _, _, _, rfl, wt_cf4, by decide, rfl, rfl, Or.inl (wt_g2 12 rfl rfl)⟩
set_option maxRecDepth 100000 in
theorem wt_lf_sk_19 : wt_Lk "WornType$Stock" 19 0 0 true := ⟨_, _, _, _, rfl, wt_cf0, by decide, rfl, rfl, Or.inr ⟨"WornType", wt_n1 84 rfl rfl⟩⟩
set_option maxRecDepth 100000 in
theorem wt_lm_sk_25 : wt_MS "WornType$Stock" 25 wt_y_ap_look := ⟨Or.inr ⟨"WornType", wt_n3 10 rfl rfl⟩, wt_g3 11 rfl rfl, wt_g1 1 rfl rfl⟩
set_option maxRecDepth 100000 in
theorem wt_lm_sk_29 : wt_MV "WornType$Stock" 29 wt_y_sk_pieces := ⟨Or.inl (wt_g3 6 rfl rfl), wt_g3 7 rfl rfl, wt_g3 8 rfl rfl, wt_g1 7 rfl rfl⟩
set_option maxRecDepth 100000 in
theorem wt_lf_sk_32 : wt_Lk "WornType$Stock" 32 3 0 true := ⟨_, _, _, _, rfl, wt_cf3, by decide, rfl, rfl, Or.inr ⟨"WornType", wt_n1 195 rfl rfl⟩⟩
set_option maxRecDepth 100000 in
theorem wt_lm_sk_37 : wt_MV "WornType$Stock" 37 wt_y_sk_ready := ⟨Or.inl (wt_g4 147 rfl rfl), wt_g4 148 rfl rfl, wt_g4 149 rfl rfl, wt_g1 7 rfl rfl⟩
set_option maxRecDepth 100000 in
theorem wt_lm_sk_41 : wt_MV "WornType$Stock" 41 wt_y_sk_lies := ⟨Or.inl (wt_g3 13 rfl rfl), wt_g3 15 rfl rfl, wt_g0 2 rfl rfl, wt_g1 7 rfl rfl⟩
set_option maxRecDepth 100000 in
theorem wt_lm_sk_45 : Cond.methodLink "WornType$Stock" 45 Lib.Math.max.name ∈ wt_GT := wt_g4 159 rfl rfl
set_option maxRecDepth 100000 in
theorem wt_lc_sk_51 : Cond.constant "WornType$Stock" 51 1000000 ∈ wt_GT := wt_g4 239 rfl rfl
set_option maxRecDepth 100000 in
theorem wt_lm_sk_52 : wt_MV "WornType$Stock" 52 wt_y_sk_reach := ⟨Or.inl (wt_g5 0 rfl rfl), wt_g5 1 rfl rfl, wt_g5 2 rfl rfl, wt_g1 7 rfl rfl⟩
set_option maxRecDepth 100000 in
theorem wt_lm_sk_55 : Cond.methodLink "WornType$Stock" 55 Lib.Math.min.name ∈ wt_GT := wt_g5 4 rfl rfl
set_option maxRecDepth 100000 in
theorem wt_lm_sk_58 : wt_MV "WornType$Stock" 58 wt_y_sk_comesFirst := ⟨Or.inl (wt_g5 87 rfl rfl), wt_g5 89 rfl rfl, wt_g0 17 rfl rfl, wt_g1 7 rfl rfl⟩
set_option maxRecDepth 100000 in
theorem wt_lm_sk_62 : wt_MV "WornType$Stock" 62 wt_y_sk_choose := ⟨Or.inl (wt_g6 64 rfl rfl), wt_g5 84 rfl rfl, wt_g5 85 rfl rfl, wt_g1 7 rfl rfl⟩
set_option maxRecDepth 100000 in
theorem wt_lm_sk_66 : wt_MS "WornType$Stock" 66 wt_y_ap_put := ⟨Or.inr ⟨"WornType", wt_n6 65 rfl rfl⟩, wt_g2 220 rfl rfl, wt_g1 1 rfl rfl⟩
set_option maxRecDepth 100000 in
theorem wt_lf_sk_70 : wt_Lk "WornType$Stock" 70 3 1 true := ⟨_, _, _, _, rfl, wt_cf3, by decide, rfl, rfl, Or.inr ⟨"WornType", wt_n1 203 rfl rfl⟩⟩
set_option maxRecDepth 100000 in
theorem wt_lf_sk_73 : wt_Lk "WornType$Stock" 73 3 9 false := ⟨_, _, _, _, rfl, wt_cf3, by decide, rfl, rfl, Or.inr ⟨"WornType", wt_n1 222 rfl rfl⟩⟩
set_option maxRecDepth 100000 in
theorem wt_lf_tp_9 : wt_Lk "WornType$Tape" 9 5 0 true := ⟨_, _, _, _, rfl, wt_cf5, by decide, rfl, rfl, Or.inl (wt_g1 39 rfl rfl)⟩
set_option maxRecDepth 100000 in
theorem wt_lf_tp_15 : wt_Lk "WornType$Tape" 15 5 1 true := ⟨_, _, _, _, rfl, wt_cf5, by decide, rfl, rfl, Or.inl (wt_g1 40 rfl rfl)⟩
set_option maxRecDepth 100000 in
theorem wt_lf_tp_18 : wt_Lk "WornType$Tape" 18 5 7 false := ⟨_, _, _, _, rfl, wt_cf5, by decide, rfl, rfl, Or.inl (wt_g1 50 rfl rfl)⟩
set_option maxRecDepth 100000 in
theorem wt_lf_tp_22 : wt_Lk "WornType$Tape" 22 5 2 false := ⟨_, _, _, _, rfl, wt_cf5, by decide, rfl, rfl, Or.inl (wt_g1 44 rfl rfl)⟩
set_option maxRecDepth 100000 in
theorem wt_lm_tp_25 : wt_MS "WornType$Tape" 25 wt_y_ap_put := ⟨Or.inr ⟨"WornType", wt_n2 219 rfl rfl⟩, wt_g2 220 rfl rfl, wt_g1 1 rfl rfl⟩
set_option maxRecDepth 100000 in
theorem wt_lf_tp_29 : wt_Lk "WornType$Tape" 29 5 3 false := ⟨_, _, _, _, rfl, wt_cf5, by decide, rfl, rfl, Or.inl (wt_g1 45 rfl rfl)⟩
set_option maxRecDepth 100000 in
theorem wt_lf_tp_32 : wt_Lk "WornType$Tape" 32 5 4 false := ⟨_, _, _, _, rfl, wt_cf5, by decide, rfl, rfl, Or.inl (wt_g1 46 rfl rfl)⟩
set_option maxRecDepth 100000 in
theorem wt_lf_tp_35 : wt_Lk "WornType$Tape" 35 5 5 false := ⟨_, _, _, _, rfl, wt_cf5, by decide, rfl, rfl, Or.inl (wt_g1 47 rfl rfl)⟩
set_option maxRecDepth 100000 in
theorem wt_lf_tp_38 : wt_Lk "WornType$Tape" 38 5 6 false := ⟨_, _, _, _, rfl, wt_cf5, by decide, rfl, rfl, Or.inl (wt_g1 48 rfl rfl)⟩
set_option maxRecDepth 100000 in
theorem wt_lm_tp_41 : wt_MV "WornType$Tape" 41 wt_y_tp_skipBlanks := ⟨Or.inl (wt_g3 144 rfl rfl), wt_g3 146 rfl rfl, wt_g0 6 rfl rfl, wt_g1 2 rfl rfl⟩
set_option maxRecDepth 100000 in
theorem wt_lm_tp_44 : wt_MS "WornType$Tape" 44 wt_y_ap_look := ⟨Or.inr ⟨"WornType", wt_n3 148 rfl rfl⟩, wt_g3 11 rfl rfl, wt_g1 1 rfl rfl⟩
set_option maxRecDepth 100000 in
theorem wt_lm_tp_48 : wt_MS "WornType$Tape" 48 wt_y_tp_isSmall := ⟨Or.inl (wt_g3 157 rfl rfl), wt_g3 158 rfl rfl, wt_g1 2 rfl rfl⟩
set_option maxRecDepth 100000 in
theorem wt_lm_tp_52 : wt_MV "WornType$Tape" 52 wt_y_tp_fail := ⟨Or.inl (wt_g3 160 rfl rfl), wt_g3 161 rfl rfl, wt_g3 162 rfl rfl, wt_g1 2 rfl rfl⟩
set_option maxRecDepth 100000 in
theorem wt_lm_tp_55 : wt_MV "WornType$Tape" 55 wt_y_tp_wordLength := ⟨Or.inl (wt_g3 172 rfl rfl), wt_g3 173 rfl rfl, wt_g3 174 rfl rfl, wt_g1 2 rfl rfl⟩
set_option maxRecDepth 100000 in
theorem wt_lm_tp_68 : wt_MV "WornType$Tape" 68 wt_y_tp_takeWord := ⟨Or.inl (wt_g3 237 rfl rfl), wt_g3 154 rfl rfl, wt_g3 155 rfl rfl, wt_g1 2 rfl rfl⟩
set_option maxRecDepth 100000 in
theorem wt_lm_tp_72 : wt_MS "WornType$Tape" 72 wt_y_tp_isDigit := ⟨Or.inl (wt_g4 3 rfl rfl), wt_g4 4 rfl rfl, wt_g1 2 rfl rfl⟩
set_option maxRecDepth 100000 in
theorem wt_lc_tp_75 : Cond.constant "WornType$Tape" 75 1000000 ∈ wt_GT := wt_g4 6 rfl rfl
set_option maxRecDepth 100000 in
theorem wt_lm_tp_76 : Cond.methodLink "WornType$Tape" 76 Lib.Math.min.name ∈ wt_GT := wt_g4 7 rfl rfl
set_option maxRecDepth 100000 in
theorem wt_lm_tp_82 : wt_MV "WornType$Tape" 82 wt_y_tp_takeSign := ⟨Or.inl (wt_g4 29 rfl rfl), wt_g4 30 rfl rfl, wt_g4 31 rfl rfl, wt_g1 2 rfl rfl⟩
set_option maxRecDepth 100000 in
theorem wt_lf_tx_9 : wt_Lk "WornType$Texts" 9 6 0 true := ⟨_, _, _, _, rfl, wt_cf6, by decide, rfl, rfl, Or.inl (wt_g1 164 rfl rfl)⟩
set_option maxRecDepth 100000 in
theorem wt_lf_tx_15 : wt_Lk "WornType$Texts" 15 6 1 true := ⟨_, _, _, _, rfl, wt_cf6, by decide, rfl, rfl, Or.inl (wt_g1 165 rfl rfl)⟩
set_option maxRecDepth 100000 in
theorem wt_lf_tx_18 : wt_Lk "WornType$Texts" 18 6 2 true := ⟨_, _, _, _, rfl, wt_cf6, by decide, rfl, rfl, Or.inl (wt_g1 166 rfl rfl)⟩
set_option maxRecDepth 100000 in
theorem wt_lf_tx_21 : wt_Lk "WornType$Texts" 21 6 3 true := ⟨_, _, _, _, rfl, wt_cf6, by decide, rfl, rfl, Or.inl (wt_g1 167 rfl rfl)⟩
set_option maxRecDepth 100000 in
theorem wt_lf_tx_24 : wt_Lk "WornType$Texts" 24 6 4 false := ⟨_, _, _, _, rfl, wt_cf6, by decide, rfl, rfl, Or.inl (wt_g1 168 rfl rfl)⟩
set_option maxRecDepth 100000 in
theorem wt_lm_tx_28 : wt_MS "WornType$Texts" 28 wt_y_ap_look := ⟨Or.inr ⟨"WornType", wt_n3 30 rfl rfl⟩, wt_g3 11 rfl rfl, wt_g1 1 rfl rfl⟩
set_option maxRecDepth 100000 in
theorem wt_lm_tx_32 : wt_MV "WornType$Texts" 32 wt_y_tx_lengthOf := ⟨Or.inl (wt_g5 21 rfl rfl), wt_g5 22 rfl rfl, wt_g5 23 rfl rfl, wt_g1 5 rfl rfl⟩
set_option maxRecDepth 100000 in
theorem wt_lm_tx_36 : wt_MV "WornType$Texts" 36 wt_y_tx_needOf := ⟨Or.inl (wt_g5 51 rfl rfl), wt_g3 27 rfl rfl, wt_g3 28 rfl rfl, wt_g1 5 rfl rfl⟩
set_option maxRecDepth 100000 in
theorem wt_lm_tx_40 : wt_MV "WornType$Texts" 40 wt_y_tp_over := ⟨Or.inl (wt_g4 103 rfl rfl), wt_g3 141 rfl rfl, wt_g3 142 rfl rfl, wt_g1 2 rfl rfl⟩
set_option maxRecDepth 100000 in
theorem wt_lm_tx_46 : wt_MV "WornType$Texts" 46 wt_y_tx_close := ⟨Or.inl (wt_g4 104 rfl rfl), wt_g4 106 rfl rfl, wt_g0 15 rfl rfl, wt_g1 5 rfl rfl⟩
set_option maxRecDepth 100000 in
theorem wt_lm_tx_50 : wt_MV "WornType$Texts" 50 wt_y_tp_fail := ⟨Or.inl (wt_g4 114 rfl rfl), wt_g3 161 rfl rfl, wt_g3 162 rfl rfl, wt_g1 2 rfl rfl⟩
set_option maxRecDepth 100000 in
theorem wt_lm_tx_54 : wt_MV "WornType$Texts" 54 wt_y_tp_takeWord := ⟨Or.inl (wt_g4 115 rfl rfl), wt_g3 154 rfl rfl, wt_g3 155 rfl rfl, wt_g1 2 rfl rfl⟩
set_option maxRecDepth 100000 in
theorem wt_lf_tx_57 : wt_Lk "WornType$Texts" 57 5 1 true := ⟨_, _, _, _, rfl, wt_cf5, by decide, rfl, rfl, Or.inr ⟨"WornType", wt_n1 41 rfl rfl⟩⟩
set_option maxRecDepth 100000 in
theorem wt_lm_tx_60 : wt_MV "WornType$Texts" 60 wt_y_tp_wordLength := ⟨Or.inl (wt_g4 116 rfl rfl), wt_g3 173 rfl rfl, wt_g3 174 rfl rfl, wt_g1 2 rfl rfl⟩
set_option maxRecDepth 100000 in
theorem wt_lm_tx_64 : wt_MV "WornType$Texts" 64 wt_y_tg_find := ⟨Or.inl (wt_g4 117 rfl rfl), wt_g4 69 rfl rfl, wt_g4 70 rfl rfl, wt_g1 4 rfl rfl⟩
set_option maxRecDepth 100000 in
theorem wt_lm_tx_69 : wt_MS "WornType$Texts" 69 wt_y_ap_put := ⟨Or.inr ⟨"WornType", wt_n4 113 rfl rfl⟩, wt_g2 220 rfl rfl, wt_g1 1 rfl rfl⟩
set_option maxRecDepth 100000 in
theorem wt_lm_tx_73 : wt_MS "WornType$Texts" 73 wt_y_ap_fillRow := ⟨Or.inr ⟨"WornType", wt_n4 108 rfl rfl⟩, wt_g1 81 rfl rfl, wt_g1 1 rfl rfl⟩
set_option maxRecDepth 100000 in
theorem wt_lm_tx_77 : wt_MV "WornType$Texts" 77 wt_y_tg_countInto := ⟨Or.inl (wt_g4 109 rfl rfl), wt_g4 110 rfl rfl, wt_g4 111 rfl rfl, wt_g1 4 rfl rfl⟩
set_option maxRecDepth 100000 in
theorem wt_lf_tg_9 : wt_Lk "WornType$Tongue" 9 7 0 true := ⟨_, _, _, _, rfl, wt_cf7, by decide, rfl, rfl, Or.inl (wt_g1 124 rfl rfl)⟩
set_option maxRecDepth 100000 in
theorem wt_lf_tg_15 : wt_Lk "WornType$Tongue" 15 7 1 true := ⟨_, _, _, _, rfl, wt_cf7, by decide, rfl, rfl, Or.inl (wt_g1 125 rfl rfl)⟩
set_option maxRecDepth 100000 in
theorem wt_lf_tg_18 : wt_Lk "WornType$Tongue" 18 7 2 true := ⟨_, _, _, _, rfl, wt_cf7, by decide, rfl, rfl, Or.inl (wt_g1 129 rfl rfl)⟩
set_option maxRecDepth 100000 in
theorem wt_lf_tg_21 : wt_Lk "WornType$Tongue" 21 7 3 true := ⟨_, _, _, _, rfl, wt_cf7, by decide, rfl, rfl, Or.inl (wt_g1 132 rfl rfl)⟩
set_option maxRecDepth 100000 in
theorem wt_lf_tg_24 : wt_Lk "WornType$Tongue" 24 7 4 true := ⟨_, _, _, _, rfl, wt_cf7, by decide, rfl, rfl, Or.inl (wt_g1 134 rfl rfl)⟩
set_option maxRecDepth 100000 in
theorem wt_lf_tg_27 : wt_Lk "WornType$Tongue" 27 7 5 true := ⟨_, _, _, _, rfl, wt_cf7, by decide, rfl, rfl, Or.inl (wt_g1 135 rfl rfl)⟩
set_option maxRecDepth 100000 in
theorem wt_lm_tg_30 : wt_MS "WornType$Tongue" 30 wt_y_ap_copyRow := ⟨Or.inr ⟨"WornType", wt_n4 90 rfl rfl⟩, wt_g3 43 rfl rfl, wt_g1 1 rfl rfl⟩
set_option maxRecDepth 100000 in
theorem wt_lf_tg_34 : wt_Lk "WornType$Tongue" 34 7 6 false := ⟨_, _, _, _, rfl, wt_cf7, by decide, rfl, rfl, Or.inl (wt_g1 136 rfl rfl)⟩
set_option maxRecDepth 100000 in
theorem wt_lf_tg_38 : wt_Lk "WornType$Tongue" 38 7 7 false := ⟨_, _, _, _, rfl, wt_cf7, by decide, rfl, rfl, Or.inl (wt_g1 139 rfl rfl)⟩
set_option maxRecDepth 100000 in
theorem wt_lm_tg_41 : wt_MS "WornType$Tongue" 41 wt_y_ap_look := ⟨Or.inr ⟨"WornType", wt_n4 72 rfl rfl⟩, wt_g3 11 rfl rfl, wt_g1 1 rfl rfl⟩
set_option maxRecDepth 100000 in
theorem wt_lm_tg_45 : wt_MS "WornType$Tongue" 45 wt_y_ap_fillRow := ⟨Or.inr ⟨"WornType", wt_n4 233 rfl rfl⟩, wt_g1 81 rfl rfl, wt_g1 1 rfl rfl⟩
set_option maxRecDepth 100000 in
theorem wt_lm_tg_49 : wt_MV "WornType$Tongue" 49 wt_y_tg_countInto := ⟨Or.inl (wt_g4 234 rfl rfl), wt_g4 110 rfl rfl, wt_g4 111 rfl rfl, wt_g1 4 rfl rfl⟩
set_option maxRecDepth 100000 in
theorem wt_lm_tg_53 : wt_MV "WornType$Tongue" 53 wt_y_tg_letterAt := ⟨Or.inl (wt_g4 77 rfl rfl), wt_g4 78 rfl rfl, wt_g4 79 rfl rfl, wt_g1 4 rfl rfl⟩
set_option maxRecDepth 100000 in
theorem wt_lm_tg_57 : wt_MS "WornType$Tongue" 57 wt_y_ap_put := ⟨Or.inr ⟨"WornType", wt_n4 82 rfl rfl⟩, wt_g2 220 rfl rfl, wt_g1 1 rfl rfl⟩
set_option maxRecDepth 100000 in
theorem wt_lm_tg_61 : wt_MV "WornType$Tongue" 61 wt_y_tg_isSpelled := ⟨Or.inl (wt_g4 73 rfl rfl), wt_g4 75 rfl rfl, wt_g0 14 rfl rfl, wt_g1 4 rfl rfl⟩
set_option maxRecDepth 100000 in
theorem wt_lm_tg_65 : wt_MV "WornType$Tongue" 65 wt_y_tp_over := ⟨Or.inl (wt_g4 57 rfl rfl), wt_g3 141 rfl rfl, wt_g3 142 rfl rfl, wt_g1 2 rfl rfl⟩
set_option maxRecDepth 100000 in
theorem wt_lm_tg_71 : wt_MV "WornType$Tongue" 71 wt_y_tg_fillGroup := ⟨Or.inl (wt_g4 58 rfl rfl), wt_g4 60 rfl rfl, wt_g0 12 rfl rfl, wt_g1 4 rfl rfl⟩
set_option maxRecDepth 100000 in
theorem wt_lm_tg_75 : wt_MV "WornType$Tongue" 75 wt_y_tg_fillWord := ⟨Or.inl (wt_g4 62 rfl rfl), wt_g4 64 rfl rfl, wt_g0 13 rfl rfl, wt_g1 4 rfl rfl⟩
set_option maxRecDepth 100000 in
theorem wt_lm_tg_79 : wt_MV "WornType$Tongue" 79 wt_y_tp_takeSign := ⟨Or.inl (wt_g4 83 rfl rfl), wt_g4 30 rfl rfl, wt_g4 31 rfl rfl, wt_g1 2 rfl rfl⟩
set_option maxRecDepth 100000 in
theorem wt_lm_tg_83 : wt_MV "WornType$Tongue" 83 wt_y_tp_needSign := ⟨Or.inl (wt_g4 85 rfl rfl), wt_g4 26 rfl rfl, wt_g4 27 rfl rfl, wt_g1 2 rfl rfl⟩
set_option maxRecDepth 100000 in
theorem wt_lm_tg_86 : wt_MV "WornType$Tongue" 86 wt_y_tp_takeWord := ⟨Or.inl (wt_g4 66 rfl rfl), wt_g3 154 rfl rfl, wt_g3 155 rfl rfl, wt_g1 2 rfl rfl⟩
set_option maxRecDepth 100000 in
theorem wt_lm_tg_89 : wt_MV "WornType$Tongue" 89 wt_y_tp_wordLength := ⟨Or.inl (wt_g4 67 rfl rfl), wt_g3 173 rfl rfl, wt_g3 174 rfl rfl, wt_g1 2 rfl rfl⟩
set_option maxRecDepth 100000 in
theorem wt_lf_tg_93 : wt_Lk "WornType$Tongue" 93 5 1 true := ⟨_, _, _, _, rfl, wt_cf5, by decide, rfl, rfl, Or.inr ⟨"WornType", wt_n1 42 rfl rfl⟩⟩
set_option maxRecDepth 100000 in
theorem wt_lm_tg_96 : wt_MV "WornType$Tongue" 96 wt_y_tg_find := ⟨Or.inl (wt_g4 68 rfl rfl), wt_g4 69 rfl rfl, wt_g4 70 rfl rfl, wt_g1 4 rfl rfl⟩
set_option maxRecDepth 100000 in
theorem wt_lm_tg_99 : wt_MV "WornType$Tongue" 99 wt_y_tp_fail := ⟨Or.inl (wt_g4 81 rfl rfl), wt_g3 161 rfl rfl, wt_g3 162 rfl rfl, wt_g1 2 rfl rfl⟩
set_option maxRecDepth 100000 in
theorem wt_lm_tg_102 : wt_MV "WornType$Tongue" 102 wt_y_tp_takeNumber := ⟨Or.inl (wt_g4 84 rfl rfl), wt_g4 0 rfl rfl, wt_g4 1 rfl rfl, wt_g1 2 rfl rfl⟩
set_option maxRecDepth 100000 in
theorem wt_lf_tr_9 : wt_Lk "WornType$Trade" 9 8 0 true := ⟨_, _, _, _, rfl, wt_cf8, by decide, rfl, rfl, Or.inl (wt_g2 137 rfl rfl)⟩
set_option maxRecDepth 100000 in
theorem wt_lf_tr_15 : wt_Lk "WornType$Trade" 15 8 1 true := ⟨_, _, _, _, rfl, wt_cf8, by decide, rfl, rfl, Or.inl (wt_g2 138 rfl rfl)⟩
set_option maxRecDepth 100000 in
theorem wt_lf_tr_19 : wt_Lk "WornType$Trade" 19 8 2 true := ⟨_, _, _, _, rfl, wt_cf8, by decide, rfl, rfl, Or.inl (wt_g2 139 rfl rfl)⟩
set_option maxRecDepth 100000 in
theorem wt_lf_tr_23 : wt_Lk "WornType$Trade" 23 8 3 true := ⟨_, _, _, _, rfl, wt_cf8, by decide, rfl, rfl, Or.inl (wt_g2 140 rfl rfl)⟩
set_option maxRecDepth 100000 in
theorem wt_lf_tr_27 : wt_Lk "WornType$Trade" 27 8 4 true := ⟨_, _, _, _, rfl, wt_cf8, by decide, rfl, rfl, Or.inl (wt_g2 141 rfl rfl)⟩
set_option maxRecDepth 100000 in
theorem wt_lf_tr_31 : wt_Lk "WornType$Trade" 31 8 5 true := ⟨_, _, _, _, rfl, wt_cf8, by decide, rfl, rfl, Or.inl (wt_g2 142 rfl rfl)⟩
set_option maxRecDepth 100000 in
theorem wt_lf_tr_34 : wt_Lk "WornType$Trade" 34 8 6 true := ⟨_, _, _, _, rfl, wt_cf8, by decide, rfl, rfl, Or.inl (wt_g2 143 rfl rfl)⟩
set_option maxRecDepth 100000 in
theorem wt_lf_tr_37 : wt_Lk "WornType$Trade" 37 8 7 true := ⟨_, _, _, _, rfl, wt_cf8, by decide, rfl, rfl, Or.inl (wt_g2 144 rfl rfl)⟩
set_option maxRecDepth 100000 in
theorem wt_lf_tr_40 : wt_Lk "WornType$Trade" 40 8 8 true := ⟨_, _, _, _, rfl, wt_cf8, by decide, rfl, rfl, Or.inl (wt_g2 145 rfl rfl)⟩
set_option maxRecDepth 100000 in
theorem wt_lm_tr_43 : wt_MV "WornType$Trade" 43 wt_y_ld_mostThere := ⟨Or.inl (wt_g6 132 rfl rfl), wt_g6 133 rfl rfl, wt_g6 134 rfl rfl, wt_g1 3 rfl rfl⟩
set_option maxRecDepth 100000 in
theorem wt_lm_tr_49 : wt_MV "WornType$Trade" 49 wt_y_tr_weigh := ⟨Or.inl (wt_g6 137 rfl rfl), wt_g6 139 rfl rfl, wt_g0 31 rfl rfl, wt_g1 11 rfl rfl⟩
set_option maxRecDepth 100000 in
theorem wt_lm_tr_53 : wt_MV "WornType$Trade" 53 wt_y_tr_leastOf := ⟨Or.inl (wt_g6 154 rfl rfl), wt_g6 156 rfl rfl, wt_g0 33 rfl rfl, wt_g1 11 rfl rfl⟩
set_option maxRecDepth 100000 in
theorem wt_lm_tr_57 : wt_MV "WornType$Trade" 57 wt_y_sk_inCase := ⟨Or.inl (wt_g6 147 rfl rfl), wt_g4 144 rfl rfl, wt_g4 145 rfl rfl, wt_g1 7 rfl rfl⟩
set_option maxRecDepth 100000 in
theorem wt_lf_tr_62 : wt_Lk "WornType$Trade" 62 0 2 true := ⟨_, _, _, _, rfl, wt_cf0, by decide, rfl, rfl, Or.inr ⟨"WornType", wt_n1 88 rfl rfl⟩⟩
set_option maxRecDepth 100000 in
theorem wt_lm_tr_65 : wt_MS "WornType$Trade" 65 wt_y_ap_look := ⟨Or.inr ⟨"WornType", wt_n6 159 rfl rfl⟩, wt_g3 11 rfl rfl, wt_g1 1 rfl rfl⟩
set_option maxRecDepth 100000 in
theorem wt_lf_tr_69 : wt_Lk "WornType$Trade" 69 3 0 true := ⟨_, _, _, _, rfl, wt_cf3, by decide, rfl, rfl, Or.inr ⟨"WornType", wt_n1 197 rfl rfl⟩⟩
set_option maxRecDepth 100000 in
theorem wt_lm_tr_74 : wt_MV "WornType$Trade" 74 wt_y_sk_ready := ⟨Or.inl (wt_g6 182 rfl rfl), wt_g4 148 rfl rfl, wt_g4 149 rfl rfl, wt_g1 7 rfl rfl⟩
set_option maxRecDepth 100000 in
theorem wt_lf_tr_77 : wt_Lk "WornType$Trade" 77 6 4 false := ⟨_, _, _, _, rfl, wt_cf6, by decide, rfl, rfl, Or.inr ⟨"WornType", wt_n1 169 rfl rfl⟩⟩
set_option maxRecDepth 100000 in
theorem wt_lm_tr_83 : wt_MS "WornType$Trade" 83 wt_y_jl_bitCount := ⟨Or.inl (wt_g6 183 rfl rfl), wt_g6 184 rfl rfl, wt_g1 24 rfl rfl⟩
set_option maxRecDepth 100000 in
theorem wt_lm_tr_88 : wt_MV "WornType$Trade" 88 wt_y_tr_standAtOnce := ⟨Or.inl (wt_g6 189 rfl rfl), wt_g6 191 rfl rfl, wt_g0 34 rfl rfl, wt_g1 11 rfl rfl⟩
set_option maxRecDepth 100000 in
theorem wt_lm_tr_92 : wt_MV "WornType$Trade" 92 wt_y_tx_needOf := ⟨Or.inl (wt_g6 141 rfl rfl), wt_g3 27 rfl rfl, wt_g3 28 rfl rfl, wt_g1 5 rfl rfl⟩
set_option maxRecDepth 100000 in
theorem wt_lm_tr_95 : wt_MV "WornType$Trade" 95 wt_y_sk_reach := ⟨Or.inl (wt_g6 142 rfl rfl), wt_g5 1 rfl rfl, wt_g5 2 rfl rfl, wt_g1 7 rfl rfl⟩
set_option maxRecDepth 100000 in
theorem wt_lm_tr_98 : wt_MV "WornType$Trade" 98 wt_y_tr_reachWithoutLeast := ⟨Or.inl (wt_g6 143 rfl rfl), wt_g6 145 rfl rfl, wt_g0 32 rfl rfl, wt_g1 11 rfl rfl⟩
set_option maxRecDepth 100000 in
theorem wt_lm_tr_101 : wt_MS "WornType$Trade" 101 wt_y_ap_put := ⟨Or.inr ⟨"WornType", wt_n6 148 rfl rfl⟩, wt_g2 220 rfl rfl, wt_g1 1 rfl rfl⟩
set_option maxRecDepth 100000 in
theorem wt_lm_tr_105 : wt_MS "WornType$Trade" 105 wt_y_tr_joined := ⟨Or.inl (wt_g6 149 rfl rfl), wt_g6 150 rfl rfl, wt_g1 11 rfl rfl⟩
set_option maxRecDepth 100000 in
theorem wt_lm_tr_109 : Cond.methodLink "WornType$Trade" 109 Lib.Math.min.name ∈ wt_GT := wt_g6 152 rfl rfl
set_option maxRecDepth 100000 in
theorem wt_lm_tr_114 : Cond.methodLink "WornType$Trade" 114 Lib.Math.max.name ∈ wt_GT := wt_g6 153 rfl rfl
set_option maxRecDepth 100000 in
theorem wt_lc_tr_117 : Cond.constant "WornType$Trade" 117 1000000 ∈ wt_GT := wt_g6 158 rfl rfl
set_option maxRecDepth 100000 in
theorem wt_lf_wk_9 : wt_Lk "WornType$Weeks" 9 9 0 true := ⟨_, _, _, _, rfl, wt_cf9, by decide, rfl, rfl, Or.inl (wt_g2 94 rfl rfl)⟩
set_option maxRecDepth 100000 in
theorem wt_lf_wk_15 : wt_Lk "WornType$Weeks" 15 9 1 true := ⟨_, _, _, _, rfl, wt_cf9, by decide, rfl, rfl, Or.inl (wt_g2 95 rfl rfl)⟩
set_option maxRecDepth 100000 in
theorem wt_lf_wk_19 : wt_Lk "WornType$Weeks" 19 9 2 true := ⟨_, _, _, _, rfl, wt_cf9, by decide, rfl, rfl, Or.inl (wt_g2 96 rfl rfl)⟩
set_option maxRecDepth 100000 in
theorem wt_lf_wk_23 : wt_Lk "WornType$Weeks" 23 9 3 true := ⟨_, _, _, _, rfl, wt_cf9, by decide, rfl, rfl, Or.inl (wt_g2 97 rfl rfl)⟩
set_option maxRecDepth 100000 in
theorem wt_lf_wk_29 : wt_Lk "WornType$Weeks" 29 9 4 true := ⟨_, _, _, _, rfl, wt_cf9, by decide, rfl, rfl, Or.inl (wt_g2 98 rfl rfl)⟩
set_option maxRecDepth 100000 in
theorem wt_lf_wk_32 : wt_Lk "WornType$Weeks" 32 9 5 true := ⟨_, _, _, _, rfl, wt_cf9, by decide, rfl, rfl, Or.inl (wt_g2 99 rfl rfl)⟩
set_option maxRecDepth 100000 in
theorem wt_lf_wk_36 : wt_Lk "WornType$Weeks" 36 9 6 true := ⟨_, _, _, _, rfl, wt_cf9, by decide, rfl, rfl, Or.inl (wt_g2 100 rfl rfl)⟩
set_option maxRecDepth 100000 in
theorem wt_lf_wk_39 : wt_Lk "WornType$Weeks" 39 9 7 true := ⟨_, _, _, _, rfl, wt_cf9, by decide, rfl, rfl, Or.inl (wt_g2 101 rfl rfl)⟩
set_option maxRecDepth 100000 in
theorem wt_lm_wk_42 : wt_MV "WornType$Weeks" 42 wt_y_wk_sortByWeek := ⟨Or.inl (wt_g6 41 rfl rfl), wt_g6 43 rfl rfl, wt_g0 26 rfl rfl, wt_g1 10 rfl rfl⟩
set_option maxRecDepth 100000 in
theorem wt_lf_wk_45 : wt_Lk "WornType$Weeks" 45 9 8 false := ⟨_, _, _, _, rfl, wt_cf9, by decide, rfl, rfl, Or.inl (wt_g2 102 rfl rfl)⟩
set_option maxRecDepth 100000 in
theorem wt_lf_wk_49 : wt_Lk "WornType$Weeks" 49 9 9 false := ⟨_, _, _, _, rfl, wt_cf9, by decide, rfl, rfl, Or.inl (wt_g2 104 rfl rfl)⟩
set_option maxRecDepth 100000 in
theorem wt_lf_wk_52 : wt_Lk "WornType$Weeks" 52 9 10 false := ⟨_, _, _, _, rfl, wt_cf9, by decide, rfl, rfl, Or.inl (wt_g2 106 rfl rfl)⟩
set_option maxRecDepth 100000 in
theorem wt_lf_wk_55 : wt_Lk "WornType$Weeks" 55 3 0 true := ⟨_, _, _, _, rfl, wt_cf3, by decide, rfl, rfl, Or.inr ⟨"WornType", wt_n1 194 rfl rfl⟩⟩
set_option maxRecDepth 100000 in
theorem wt_lm_wk_60 : wt_MS "WornType$Weeks" 60 wt_y_wk_tryFrom := ⟨Or.inl (wt_g6 46 rfl rfl), wt_g6 47 rfl rfl, wt_g1 10 rfl rfl⟩
set_option maxRecDepth 100000 in
theorem wt_lm_wk_64 : wt_MV "WornType$Weeks" 64 wt_y_wk_startGreedy := ⟨Or.inl (wt_g6 77 rfl rfl), wt_g6 79 rfl rfl, wt_g0 29 rfl rfl, wt_g1 10 rfl rfl⟩
set_option maxRecDepth 100000 in
theorem wt_lf_wk_67 : wt_Lk "WornType$Weeks" 67 3 8 false := ⟨_, _, _, _, rfl, wt_cf3, by decide, rfl, rfl, Or.inr ⟨"WornType", wt_n1 218 rfl rfl⟩⟩
set_option maxRecDepth 100000 in
theorem wt_lm_wk_70 : wt_MS "WornType$Weeks" 70 wt_y_ap_look := ⟨Or.inr ⟨"WornType", wt_n3 21 rfl rfl⟩, wt_g3 11 rfl rfl, wt_g1 1 rfl rfl⟩
set_option maxRecDepth 100000 in
theorem wt_lf_wk_74 : wt_Lk "WornType$Weeks" 74 3 6 true := ⟨_, _, _, _, rfl, wt_cf3, by decide, rfl, rfl, Or.inr ⟨"WornType", wt_n1 214 rfl rfl⟩⟩
set_option maxRecDepth 100000 in
theorem wt_lm_wk_77 : wt_MV "WornType$Weeks" 77 wt_y_wk_printNext := ⟨Or.inl (wt_g6 81 rfl rfl), wt_g6 83 rfl rfl, wt_g0 30 rfl rfl, wt_g1 10 rfl rfl⟩
set_option maxRecDepth 100000 in
theorem wt_lm_wk_81 : wt_MV "WornType$Weeks" 81 wt_y_tg_spell := ⟨Or.inl (wt_g6 96 rfl rfl), wt_g4 230 rfl rfl, wt_g4 231 rfl rfl, wt_g1 4 rfl rfl⟩
set_option maxRecDepth 100000 in
theorem wt_lm_wk_87 : wt_MV "WornType$Weeks" 87 wt_y_sk_often := ⟨Or.inl (wt_g6 97 rfl rfl), wt_g4 236 rfl rfl, wt_g4 237 rfl rfl, wt_g1 7 rfl rfl⟩
set_option maxRecDepth 100000 in
theorem wt_lf_wk_93 : wt_Lk "WornType$Weeks" 93 7 6 false := ⟨_, _, _, _, rfl, wt_cf7, by decide, rfl, rfl, Or.inr ⟨"WornType", wt_n1 138 rfl rfl⟩⟩
set_option maxRecDepth 100000 in
theorem wt_lm_wk_96 : wt_MV "WornType$Weeks" 96 wt_y_wk_stillSaid := ⟨Or.inl (wt_g6 109 rfl rfl), wt_g6 93 rfl rfl, wt_g6 94 rfl rfl, wt_g1 10 rfl rfl⟩
set_option maxRecDepth 100000 in
theorem wt_lm_wk_100 : wt_MV "WornType$Weeks" 100 wt_y_wk_boundBy := ⟨Or.inl (wt_g2 238 rfl rfl), wt_g3 0 rfl rfl, wt_g0 1 rfl rfl, wt_g1 10 rfl rfl⟩
set_option maxRecDepth 100000 in
theorem wt_lm_wk_103 : Cond.methodLink "WornType$Weeks" 103 Lib.Math.min.name ∈ wt_GT := wt_g3 31 rfl rfl
set_option maxRecDepth 100000 in
theorem wt_lm_wk_109 : wt_MV "WornType$Weeks" 109 wt_y_wk_keep := ⟨Or.inl (wt_g6 49 rfl rfl), wt_g6 51 rfl rfl, wt_g0 27 rfl rfl, wt_g1 10 rfl rfl⟩
set_option maxRecDepth 100000 in
theorem wt_lm_wk_113 : wt_MS "WornType$Weeks" 113 wt_y_ap_copyRow := ⟨Or.inr ⟨"WornType", wt_n6 53 rfl rfl⟩, wt_g3 43 rfl rfl, wt_g1 1 rfl rfl⟩
set_option maxRecDepth 100000 in
theorem wt_lm_wk_117 : wt_MV "WornType$Weeks" 117 wt_y_wk_printOne := ⟨Or.inl (wt_g6 54 rfl rfl), wt_g6 56 rfl rfl, wt_g0 28 rfl rfl, wt_g1 10 rfl rfl⟩
set_option maxRecDepth 100000 in
theorem wt_lf_wk_121 : wt_Lk "WornType$Weeks" 121 3 7 true := ⟨_, _, _, _, rfl, wt_cf3, by decide, rfl, rfl, Or.inr ⟨"WornType", wt_n1 216 rfl rfl⟩⟩
set_option maxRecDepth 100000 in
theorem wt_lf_wk_124 : wt_Lk "WornType$Weeks" 124 3 5 true := ⟨_, _, _, _, rfl, wt_cf3, by decide, rfl, rfl, Or.inr ⟨"WornType", wt_n1 212 rfl rfl⟩⟩
set_option maxRecDepth 100000 in
theorem wt_lf_wk_127 : wt_Lk "WornType$Weeks" 127 3 4 true := ⟨_, _, _, _, rfl, wt_cf3, by decide, rfl, rfl, Or.inr ⟨"WornType", wt_n1 210 rfl rfl⟩⟩
set_option maxRecDepth 100000 in
theorem wt_lm_wk_130 : wt_MV "WornType$Weeks" 130 wt_y_tx_spell := ⟨Or.inl (wt_g6 58 rfl rfl), wt_g5 48 rfl rfl, wt_g5 49 rfl rfl, wt_g1 5 rfl rfl⟩
set_option maxRecDepth 100000 in
theorem wt_lm_wk_133 : wt_MV "WornType$Weeks" 133 wt_y_sk_lacking := ⟨Or.inl (wt_g6 59 rfl rfl), wt_g5 63 rfl rfl, wt_g5 64 rfl rfl, wt_g1 7 rfl rfl⟩
set_option maxRecDepth 100000 in
theorem wt_lm_wk_137 : wt_MV "WornType$Weeks" 137 wt_y_sk_wear := ⟨Or.inl (wt_g6 60 rfl rfl), wt_g6 61 rfl rfl, wt_g6 62 rfl rfl, wt_g1 7 rfl rfl⟩
set_option maxRecDepth 100000 in
theorem wt_lm_wk_141 : wt_MS "WornType$Weeks" 141 wt_y_ap_put := ⟨Or.inr ⟨"WornType", wt_n6 45 rfl rfl⟩, wt_g2 220 rfl rfl, wt_g1 1 rfl rfl⟩
set_option maxRecDepth 100000 in
theorem wt_lm_wk_145 : wt_MV "WornType$Weeks" 145 wt_y_sk_leftInCase := ⟨Or.inl (wt_g3 2 rfl rfl), wt_g3 3 rfl rfl, wt_g3 4 rfl rfl, wt_g1 7 rfl rfl⟩
set_option maxRecDepth 100000 in
theorem wt_lm_wk_148 : wt_MV "WornType$Weeks" 148 wt_y_wk_dearestOf := ⟨Or.inl (wt_g3 17 rfl rfl), wt_g3 19 rfl rfl, wt_g0 3 rfl rfl, wt_g1 10 rfl rfl⟩
set_option maxRecDepth 100000 in
theorem wt_lm_wk_151 : wt_MV "WornType$Weeks" 151 wt_y_wk_printsOf := ⟨Or.inl (wt_g3 22 rfl rfl), wt_g3 24 rfl rfl, wt_g0 4 rfl rfl, wt_g1 10 rfl rfl⟩
set_option maxRecDepth 100000 in
theorem wt_lm_wk_154 : wt_MV "WornType$Weeks" 154 wt_y_tx_needOf := ⟨Or.inl (wt_g3 26 rfl rfl), wt_g3 27 rfl rfl, wt_g3 28 rfl rfl, wt_g1 5 rfl rfl⟩
set_option maxRecDepth 100000 in
theorem wt_lm_lw_7 : wt_MV "WornTypeLaw" 7 wt_y_ap_kase := ⟨Or.inl (wt_g3 57 rfl rfl), wt_g3 58 rfl rfl, wt_g3 59 rfl rfl, wt_g1 1 rfl rfl⟩
set_option maxRecDepth 100000 in
theorem wt_lm_lw_15 : wt_MV "WornTypeLaw" 15 wt_y_ap_tongue := ⟨Or.inl (wt_g4 49 rfl rfl), wt_g4 50 rfl rfl, wt_g4 51 rfl rfl, wt_g1 1 rfl rfl⟩
set_option maxRecDepth 100000 in
theorem wt_lm_lw_18 : wt_MV "WornTypeLaw" 18 wt_y_ap_text := ⟨Or.inl (wt_g4 95 rfl rfl), wt_g4 96 rfl rfl, wt_g4 97 rfl rfl, wt_g1 1 rfl rfl⟩
set_option maxRecDepth 100000 in
theorem wt_lm_lw_21 : wt_MV "WornTypeLaw" 21 wt_y_ap_told := ⟨Or.inl (wt_g4 121 rfl rfl), wt_g4 122 rfl rfl, wt_g4 123 rfl rfl, wt_g1 1 rfl rfl⟩
set_option maxRecDepth 100000 in
theorem wt_lm_lw_24 : wt_MV "WornTypeLaw" 24 wt_y_ap_letter := ⟨Or.inl (wt_g4 138 rfl rfl), wt_g4 139 rfl rfl, wt_g4 140 rfl rfl, wt_g1 1 rfl rfl⟩
set_option maxRecDepth 100000 in
theorem wt_lm_lw_28 : wt_MV "WornTypeLaw" 28 wt_y_ap_piece := ⟨Or.inl (wt_g4 172 rfl rfl), wt_g4 173 rfl rfl, wt_g4 174 rfl rfl, wt_g1 1 rfl rfl⟩
set_option maxRecDepth 100000 in
theorem wt_lm_lw_34 : wt_MV "WornTypeLaw" 34 wt_y_ap_word := ⟨Or.inl (wt_g4 196 rfl rfl), wt_g4 197 rfl rfl, wt_g4 198 rfl rfl, wt_g1 1 rfl rfl⟩
set_option maxRecDepth 100000 in
theorem wt_lm_lw_39 : wt_MV "WornTypeLaw" 39 wt_y_ap_at := ⟨Or.inl (wt_g5 9 rfl rfl), wt_g5 10 rfl rfl, wt_g5 11 rfl rfl, wt_g1 1 rfl rfl⟩
set_option maxRecDepth 100000 in
theorem wt_lm_lw_42 : wt_MV "WornTypeLaw" 42 wt_y_ap_needs := ⟨Or.inl (wt_g5 28 rfl rfl), wt_g5 29 rfl rfl, wt_g5 30 rfl rfl, wt_g1 1 rfl rfl⟩
set_option maxRecDepth 100000 in
theorem wt_lm_lw_45 : wt_MV "WornTypeLaw" 45 wt_y_ap_habit := ⟨Or.inl (wt_g5 36 rfl rfl), wt_g5 37 rfl rfl, wt_g5 38 rfl rfl, wt_g1 1 rfl rfl⟩
set_option maxRecDepth 100000 in
theorem wt_lm_lw_48 : wt_MV "WornTypeLaw" 48 wt_y_ap_can := ⟨Or.inl (wt_g5 43 rfl rfl), wt_g5 44 rfl rfl, wt_g5 45 rfl rfl, wt_g1 1 rfl rfl⟩
set_option maxRecDepth 100000 in
theorem wt_lm_lw_51 : wt_MV "WornTypeLaw" 51 wt_y_ap_lacks := ⟨Or.inl (wt_g5 55 rfl rfl), wt_g5 56 rfl rfl, wt_g5 57 rfl rfl, wt_g1 1 rfl rfl⟩
set_option maxRecDepth 100000 in
theorem wt_lm_lw_54 : wt_MV "WornTypeLaw" 54 wt_y_ap_set := ⟨Or.inl (wt_g5 69 rfl rfl), wt_g5 70 rfl rfl, wt_g5 71 rfl rfl, wt_g1 1 rfl rfl⟩
set_option maxRecDepth 100000 in
theorem wt_lm_lw_57 : wt_MV "WornTypeLaw" 57 wt_y_ap_print := ⟨Or.inl (wt_g5 95 rfl rfl), wt_g5 96 rfl rfl, wt_g5 97 rfl rfl, wt_g1 1 rfl rfl⟩
set_option maxRecDepth 100000 in
theorem wt_lm_lw_60 : wt_MV "WornTypeLaw" 60 wt_y_ap_apart := ⟨Or.inl (wt_g5 113 rfl rfl), wt_g5 114 rfl rfl, wt_g5 115 rfl rfl, wt_g1 1 rfl rfl⟩
set_option maxRecDepth 100000 in
theorem wt_lm_lw_63 : wt_MV "WornTypeLaw" 63 wt_y_ap_page := ⟨Or.inl (wt_g5 129 rfl rfl), wt_g5 130 rfl rfl, wt_g5 131 rfl rfl, wt_g1 1 rfl rfl⟩
set_option maxRecDepth 100000 in
theorem wt_lm_lw_66 : wt_MV "WornTypeLaw" 66 wt_y_ap_read := ⟨Or.inl (wt_g5 165 rfl rfl), wt_g5 166 rfl rfl, wt_g5 167 rfl rfl, wt_g1 1 rfl rfl⟩
set_option maxRecDepth 100000 in
theorem wt_lm_lw_69 : wt_MV "WornTypeLaw" 69 wt_y_ap_least := ⟨Or.inl (wt_g5 173 rfl rfl), wt_g5 174 rfl rfl, wt_g5 175 rfl rfl, wt_g1 1 rfl rfl⟩
set_option maxRecDepth 100000 in
theorem wt_lm_lw_72 : wt_MV "WornTypeLaw" 72 wt_y_ap_fitting := ⟨Or.inl (wt_g5 221 rfl rfl), wt_g5 222 rfl rfl, wt_g5 223 rfl rfl, wt_g1 1 rfl rfl⟩
set_option maxRecDepth 100000 in
theorem wt_lm_lw_76 : wt_MV "WornTypeLaw" 76 wt_y_ap_wordings := ⟨Or.inl (wt_g6 5 rfl rfl), wt_g6 6 rfl rfl, wt_g6 7 rfl rfl, wt_g1 1 rfl rfl⟩
set_option maxRecDepth 100000 in
theorem wt_lm_lw_79 : wt_MV "WornTypeLaw" 79 wt_y_ap_want := ⟨Or.inl (wt_g6 22 rfl rfl), wt_g6 23 rfl rfl, wt_g6 24 rfl rfl, wt_g1 1 rfl rfl⟩
set_option maxRecDepth 100000 in
theorem wt_lm_lw_82 : wt_MV "WornTypeLaw" 82 wt_y_ap_most := ⟨Or.inl (wt_g6 33 rfl rfl), wt_g6 34 rfl rfl, wt_g6 35 rfl rfl, wt_g1 1 rfl rfl⟩
set_option maxRecDepth 100000 in
theorem wt_lm_lw_85 : wt_MV "WornTypeLaw" 85 wt_y_ap_greedy := ⟨Or.inl (wt_g6 69 rfl rfl), wt_g6 70 rfl rfl, wt_g6 71 rfl rfl, wt_g1 1 rfl rfl⟩
set_option maxRecDepth 100000 in
theorem wt_lm_lw_88 : wt_MV "WornTypeLaw" 88 wt_y_ap_said := ⟨Or.inl (wt_g6 88 rfl rfl), wt_g6 89 rfl rfl, wt_g6 90 rfl rfl, wt_g1 1 rfl rfl⟩
set_option maxRecDepth 100000 in
theorem wt_lm_lw_91 : wt_MV "WornTypeLaw" 91 wt_y_ap_lost := ⟨Or.inl (wt_g6 101 rfl rfl), wt_g6 102 rfl rfl, wt_g6 103 rfl rfl, wt_g1 1 rfl rfl⟩
set_option maxRecDepth 100000 in
theorem wt_lm_lw_94 : wt_MV "WornTypeLaw" 94 wt_y_ap_ends := ⟨Or.inl (wt_g6 113 rfl rfl), wt_g6 114 rfl rfl, wt_g6 115 rfl rfl, wt_g1 1 rfl rfl⟩
set_option maxRecDepth 100000 in
theorem wt_lm_lw_97 : wt_MV "WornTypeLaw" 97 wt_y_ap_exchange := ⟨Or.inl (wt_g6 124 rfl rfl), wt_g6 125 rfl rfl, wt_g6 126 rfl rfl, wt_g1 1 rfl rfl⟩
set_option maxRecDepth 100000 in
theorem wt_lm_lw_100 : wt_MV "WornTypeLaw" 100 wt_y_ap_cast := ⟨Or.inl (wt_g6 163 rfl rfl), wt_g6 164 rfl rfl, wt_g6 165 rfl rfl, wt_g1 1 rfl rfl⟩
set_option maxRecDepth 100000 in
theorem wt_lm_lw_103 : wt_MV "WornTypeLaw" 103 wt_y_ap_together := ⟨Or.inl (wt_g6 174 rfl rfl), wt_g6 175 rfl rfl, wt_g6 176 rfl rfl, wt_g1 1 rfl rfl⟩
set_option maxRecDepth 100000 in
theorem wt_lm_lw_110 : wt_MV "WornTypeLaw" 110 wt_y_ap_feed := ⟨Or.inl (wt_g2 211 rfl rfl), wt_g2 212 rfl rfl, wt_g2 213 rfl rfl, wt_g1 1 rfl rfl⟩
set_option maxRecDepth 100000 in
theorem wt_lm_lw_114 : wt_MV "WornTypeLaw" 114 wt_y_md_feed := ⟨Or.inl (wt_g7 161 rfl rfl), wt_g7 162 rfl rfl, wt_g7 163 rfl rfl, wt_g1 12 rfl rfl⟩
set_option maxRecDepth 100000 in
theorem wt_lm_lw_120 : wt_MV "WornTypeLaw" 120 wt_y_md_kase := ⟨Or.inl (wt_g7 165 rfl rfl), wt_g7 166 rfl rfl, wt_g7 167 rfl rfl, wt_g1 12 rfl rfl⟩
set_option maxRecDepth 100000 in
theorem wt_lm_lw_123 : wt_MV "WornTypeLaw" 123 wt_y_md_tongue := ⟨Or.inl (wt_g7 237 rfl rfl), wt_g7 238 rfl rfl, wt_g7 239 rfl rfl, wt_g1 12 rfl rfl⟩
set_option maxRecDepth 100000 in
theorem wt_lm_lw_126 : wt_MV "WornTypeLaw" 126 wt_y_md_text := ⟨Or.inl (wt_g8 13 rfl rfl), wt_g8 14 rfl rfl, wt_g8 15 rfl rfl, wt_g1 12 rfl rfl⟩
set_option maxRecDepth 100000 in
theorem wt_lm_lw_127 : wt_MV "WornTypeLaw" 127 wt_y_ap_fault := ⟨Or.inl (wt_g2 222 rfl rfl), wt_g2 223 rfl rfl, wt_g2 224 rfl rfl, wt_g1 1 rfl rfl⟩
set_option maxRecDepth 100000 in
theorem wt_lm_lw_131 : wt_MV "WornTypeLaw" 131 wt_y_md_fault := ⟨Or.inl (wt_g8 17 rfl rfl), wt_g8 18 rfl rfl, wt_g8 19 rfl rfl, wt_g1 12 rfl rfl⟩
set_option maxRecDepth 100000 in
theorem wt_lm_lw_134 : wt_MV "WornTypeLaw" 134 wt_y_md_told := ⟨Or.inl (wt_g8 21 rfl rfl), wt_g8 22 rfl rfl, wt_g8 23 rfl rfl, wt_g1 12 rfl rfl⟩
set_option maxRecDepth 100000 in
theorem wt_lm_lw_138 : wt_MV "WornTypeLaw" 138 wt_y_md_letter := ⟨Or.inl (wt_g8 29 rfl rfl), wt_g8 30 rfl rfl, wt_g8 31 rfl rfl, wt_g1 12 rfl rfl⟩
set_option maxRecDepth 100000 in
theorem wt_lm_lw_142 : wt_MV "WornTypeLaw" 142 wt_y_md_piece := ⟨Or.inl (wt_g8 36 rfl rfl), wt_g8 37 rfl rfl, wt_g8 38 rfl rfl, wt_g1 12 rfl rfl⟩
set_option maxRecDepth 100000 in
theorem wt_lm_lw_145 : wt_MV "WornTypeLaw" 145 wt_y_md_word := ⟨Or.inl (wt_g8 40 rfl rfl), wt_g8 41 rfl rfl, wt_g8 42 rfl rfl, wt_g1 12 rfl rfl⟩
set_option maxRecDepth 100000 in
theorem wt_lm_lw_148 : wt_MV "WornTypeLaw" 148 wt_y_md_at := ⟨Or.inl (wt_g8 76 rfl rfl), wt_g8 77 rfl rfl, wt_g8 78 rfl rfl, wt_g1 12 rfl rfl⟩
set_option maxRecDepth 100000 in
theorem wt_lm_lw_151 : wt_MV "WornTypeLaw" 151 wt_y_md_needs := ⟨Or.inl (wt_g8 84 rfl rfl), wt_g8 85 rfl rfl, wt_g8 86 rfl rfl, wt_g1 12 rfl rfl⟩
set_option maxRecDepth 100000 in
theorem wt_lm_lw_154 : wt_MV "WornTypeLaw" 154 wt_y_md_habit := ⟨Or.inl (wt_g8 92 rfl rfl), wt_g8 93 rfl rfl, wt_g8 94 rfl rfl, wt_g1 12 rfl rfl⟩
set_option maxRecDepth 100000 in
theorem wt_lm_lw_157 : wt_MV "WornTypeLaw" 157 wt_y_md_can := ⟨Or.inl (wt_g8 96 rfl rfl), wt_g8 97 rfl rfl, wt_g8 98 rfl rfl, wt_g1 12 rfl rfl⟩
set_option maxRecDepth 100000 in
theorem wt_lm_lw_160 : wt_MV "WornTypeLaw" 160 wt_y_md_lacks := ⟨Or.inl (wt_g8 100 rfl rfl), wt_g8 101 rfl rfl, wt_g8 102 rfl rfl, wt_g1 12 rfl rfl⟩
set_option maxRecDepth 100000 in
theorem wt_lm_lw_163 : wt_MV "WornTypeLaw" 163 wt_y_md_set := ⟨Or.inl (wt_g8 107 rfl rfl), wt_g8 108 rfl rfl, wt_g8 109 rfl rfl, wt_g1 12 rfl rfl⟩
set_option maxRecDepth 100000 in
theorem wt_lm_lw_166 : wt_MV "WornTypeLaw" 166 wt_y_md_print := ⟨Or.inl (wt_g8 119 rfl rfl), wt_g8 120 rfl rfl, wt_g8 121 rfl rfl, wt_g1 12 rfl rfl⟩
set_option maxRecDepth 100000 in
theorem wt_lm_lw_169 : wt_MV "WornTypeLaw" 169 wt_y_md_apart := ⟨Or.inl (wt_g8 131 rfl rfl), wt_g8 132 rfl rfl, wt_g8 133 rfl rfl, wt_g1 12 rfl rfl⟩
set_option maxRecDepth 100000 in
theorem wt_lm_lw_172 : wt_MV "WornTypeLaw" 172 wt_y_md_page := ⟨Or.inl (wt_g8 135 rfl rfl), wt_g8 136 rfl rfl, wt_g8 137 rfl rfl, wt_g1 12 rfl rfl⟩
set_option maxRecDepth 100000 in
theorem wt_lm_lw_175 : wt_MV "WornTypeLaw" 175 wt_y_md_read := ⟨Or.inl (wt_g8 147 rfl rfl), wt_g8 148 rfl rfl, wt_g8 149 rfl rfl, wt_g1 12 rfl rfl⟩
set_option maxRecDepth 100000 in
theorem wt_lm_lw_178 : wt_MV "WornTypeLaw" 178 wt_y_md_least := ⟨Or.inl (wt_g8 151 rfl rfl), wt_g8 152 rfl rfl, wt_g8 153 rfl rfl, wt_g1 12 rfl rfl⟩
set_option maxRecDepth 100000 in
theorem wt_lm_lw_182 : wt_MV "WornTypeLaw" 182 wt_y_md_fitting := ⟨Or.inl (wt_g8 168 rfl rfl), wt_g8 169 rfl rfl, wt_g8 170 rfl rfl, wt_g1 12 rfl rfl⟩
set_option maxRecDepth 100000 in
theorem wt_lm_lw_185 : wt_MV "WornTypeLaw" 185 wt_y_md_wordings := ⟨Or.inl (wt_g8 176 rfl rfl), wt_g8 177 rfl rfl, wt_g8 178 rfl rfl, wt_g1 12 rfl rfl⟩
set_option maxRecDepth 100000 in
theorem wt_lm_lw_188 : wt_MV "WornTypeLaw" 188 wt_y_md_want := ⟨Or.inl (wt_g8 180 rfl rfl), wt_g8 181 rfl rfl, wt_g8 182 rfl rfl, wt_g1 12 rfl rfl⟩
set_option maxRecDepth 100000 in
theorem wt_lm_lw_189 : wt_MV "WornTypeLaw" 189 wt_y_ap_forget := ⟨Or.inl (wt_g2 226 rfl rfl), wt_g2 227 rfl rfl, wt_g2 228 rfl rfl, wt_g1 1 rfl rfl⟩
set_option maxRecDepth 100000 in
theorem wt_lm_lw_192 : wt_MV "WornTypeLaw" 192 wt_y_md_forget := ⟨Or.inl (wt_g8 184 rfl rfl), wt_g8 185 rfl rfl, wt_g8 186 rfl rfl, wt_g1 12 rfl rfl⟩
set_option maxRecDepth 100000 in
theorem wt_lm_lw_195 : wt_MV "WornTypeLaw" 195 wt_y_md_most := ⟨Or.inl (wt_g8 188 rfl rfl), wt_g8 189 rfl rfl, wt_g8 190 rfl rfl, wt_g1 12 rfl rfl⟩
set_option maxRecDepth 100000 in
theorem wt_lm_lw_198 : wt_MV "WornTypeLaw" 198 wt_y_md_greedy := ⟨Or.inl (wt_g8 212 rfl rfl), wt_g8 213 rfl rfl, wt_g8 214 rfl rfl, wt_g1 12 rfl rfl⟩
set_option maxRecDepth 100000 in
theorem wt_lm_lw_199 : wt_MV "WornTypeLaw" 199 wt_y_ap_bound := ⟨Or.inl (wt_g2 230 rfl rfl), wt_g2 231 rfl rfl, wt_g2 232 rfl rfl, wt_g1 1 rfl rfl⟩
set_option maxRecDepth 100000 in
theorem wt_lm_lw_202 : wt_MV "WornTypeLaw" 202 wt_y_md_bound := ⟨Or.inl (wt_g8 220 rfl rfl), wt_g8 221 rfl rfl, wt_g8 222 rfl rfl, wt_g1 12 rfl rfl⟩
set_option maxRecDepth 100000 in
theorem wt_lm_lw_205 : wt_MV "WornTypeLaw" 205 wt_y_md_said := ⟨Or.inl (wt_g8 228 rfl rfl), wt_g8 229 rfl rfl, wt_g8 230 rfl rfl, wt_g1 12 rfl rfl⟩
set_option maxRecDepth 100000 in
theorem wt_lm_lw_208 : wt_MV "WornTypeLaw" 208 wt_y_md_lost := ⟨Or.inl (wt_g8 235 rfl rfl), wt_g8 236 rfl rfl, wt_g8 237 rfl rfl, wt_g1 12 rfl rfl⟩
set_option maxRecDepth 100000 in
theorem wt_lm_lw_211 : wt_MV "WornTypeLaw" 211 wt_y_md_ends := ⟨Or.inl (wt_g8 239 rfl rfl), wt_g9 0 rfl rfl, wt_g9 1 rfl rfl, wt_g1 12 rfl rfl⟩
set_option maxRecDepth 100000 in
theorem wt_lm_lw_214 : wt_MV "WornTypeLaw" 214 wt_y_md_exchange := ⟨Or.inl (wt_g9 3 rfl rfl), wt_g9 4 rfl rfl, wt_g9 5 rfl rfl, wt_g1 12 rfl rfl⟩
set_option maxRecDepth 100000 in
theorem wt_lm_lw_217 : wt_MV "WornTypeLaw" 217 wt_y_md_cast := ⟨Or.inl (wt_g9 11 rfl rfl), wt_g9 12 rfl rfl, wt_g9 13 rfl rfl, wt_g1 12 rfl rfl⟩
set_option maxRecDepth 100000 in
theorem wt_lm_lw_220 : wt_MV "WornTypeLaw" 220 wt_y_md_together := ⟨Or.inl (wt_g9 15 rfl rfl), wt_g9 16 rfl rfl, wt_g9 17 rfl rfl, wt_g1 12 rfl rfl⟩
set_option maxRecDepth 100000 in
theorem wt_lm_lw_221 : wt_MV "WornTypeLaw" 221 wt_y_ap_image := ⟨Or.inl (wt_g3 34 rfl rfl), wt_g3 35 rfl rfl, wt_g3 36 rfl rfl, wt_g1 1 rfl rfl⟩
set_option maxRecDepth 100000 in
theorem wt_lm_lw_224 : wt_MV "WornTypeLaw" 224 wt_y_md_image := ⟨Or.inl (wt_g9 22 rfl rfl), wt_g9 23 rfl rfl, wt_g9 24 rfl rfl, wt_g1 12 rfl rfl⟩
set_option maxRecDepth 100000 in
theorem wt_lm_lw_225 : wt_MV "WornTypeLaw" 225 wt_y_ap_restore := ⟨Or.inl (wt_g3 45 rfl rfl), wt_g3 46 rfl rfl, wt_g3 47 rfl rfl, wt_g1 1 rfl rfl⟩
set_option maxRecDepth 100000 in
theorem wt_lm_lw_228 : wt_MV "WornTypeLaw" 228 wt_y_md_restore := ⟨Or.inl (wt_g9 34 rfl rfl), wt_g9 35 rfl rfl, wt_g9 36 rfl rfl, wt_g1 12 rfl rfl⟩
set_option maxRecDepth 100000 in
theorem wt_lm_lw_229 : wt_MV "WornTypeLaw" 229 wt_y_ap_count := ⟨Or.inl (wt_g3 49 rfl rfl), wt_g3 50 rfl rfl, wt_g3 51 rfl rfl, wt_g1 1 rfl rfl⟩
set_option maxRecDepth 100000 in
theorem wt_lm_lw_232 : wt_MV "WornTypeLaw" 232 wt_y_md_count := ⟨Or.inl (wt_g9 38 rfl rfl), wt_g9 39 rfl rfl, wt_g9 40 rfl rfl, wt_g1 12 rfl rfl⟩
set_option maxRecDepth 100000 in
theorem wt_lf_md_9 : wt_Lk "WornTypeModel" 9 11 3 false := ⟨_, _, _, _, rfl, wt_cf11, by decide, rfl, rfl, Or.inl (wt_g6 211 rfl rfl)⟩
set_option maxRecDepth 100000 in
theorem wt_lf_md_13 : wt_Lk "WornTypeModel" 13 11 8 true := ⟨_, _, _, _, rfl, wt_cf11, by decide, rfl, rfl, Or.inl (wt_g6 216 rfl rfl)⟩
set_option maxRecDepth 100000 in
theorem wt_lf_md_17 : wt_Lk "WornTypeModel" 17 11 9 true := ⟨_, _, _, _, rfl, wt_cf11, by decide, rfl, rfl, Or.inl (wt_g6 217 rfl rfl)⟩
set_option maxRecDepth 100000 in
theorem wt_lf_md_20 : wt_Lk "WornTypeModel" 20 11 10 true := ⟨_, _, _, _, rfl, wt_cf11, by decide, rfl, rfl, Or.inl (wt_g6 218 rfl rfl)⟩
set_option maxRecDepth 100000 in
theorem wt_lf_md_23 : wt_Lk "WornTypeModel" 23 11 11 true := ⟨_, _, _, _, rfl, wt_cf11, by decide, rfl, rfl, Or.inl (wt_g6 219 rfl rfl)⟩
set_option maxRecDepth 100000 in
theorem wt_lf_md_26 : wt_Lk "WornTypeModel" 26 11 12 true := ⟨_, _, _, _, rfl, wt_cf11, by decide, rfl, rfl, Or.inl (wt_g6 220 rfl rfl)⟩
set_option maxRecDepth 100000 in
theorem wt_lf_md_29 : wt_Lk "WornTypeModel" 29 11 13 true := ⟨_, _, _, _, rfl, wt_cf11, by decide, rfl, rfl, Or.inl (wt_g6 221 rfl rfl)⟩
set_option maxRecDepth 100000 in
theorem wt_lf_md_32 : wt_Lk "WornTypeModel" 32 11 14 true := ⟨_, _, _, _, rfl, wt_cf11, by decide, rfl, rfl, Or.inl (wt_g6 222 rfl rfl)⟩
set_option maxRecDepth 100000 in
theorem wt_lf_md_35 : wt_Lk "WornTypeModel" 35 11 15 true := ⟨_, _, _, _, rfl, wt_cf11, by decide, rfl, rfl, Or.inl (wt_g6 223 rfl rfl)⟩
set_option maxRecDepth 100000 in
theorem wt_lf_md_38 : wt_Lk "WornTypeModel" 38 11 16 true := ⟨_, _, _, _, rfl, wt_cf11, by decide, rfl, rfl, Or.inl (wt_g6 224 rfl rfl)⟩
set_option maxRecDepth 100000 in
theorem wt_lf_md_41 : wt_Lk "WornTypeModel" 41 11 17 true := ⟨_, _, _, _, rfl, wt_cf11, by decide, rfl, rfl, Or.inl (wt_g6 225 rfl rfl)⟩
set_option maxRecDepth 100000 in
theorem wt_lf_md_44 : wt_Lk "WornTypeModel" 44 11 18 true := ⟨_, _, _, _, rfl, wt_cf11, by decide, rfl, rfl, Or.inl (wt_g6 226 rfl rfl)⟩
set_option maxRecDepth 100000 in
theorem wt_lf_md_47 : wt_Lk "WornTypeModel" 47 11 19 true := ⟨_, _, _, _, rfl, wt_cf11, by decide, rfl, rfl, Or.inl (wt_g6 227 rfl rfl)⟩
set_option maxRecDepth 100000 in
theorem wt_lf_md_50 : wt_Lk "WornTypeModel" 50 11 20 true := ⟨_, _, _, _, rfl, wt_cf11, by decide, rfl, rfl, Or.inl (wt_g6 228 rfl rfl)⟩
set_option maxRecDepth 100000 in
theorem wt_lf_md_53 : wt_Lk "WornTypeModel" 53 11 21 true := ⟨_, _, _, _, rfl, wt_cf11, by decide, rfl, rfl, Or.inl (wt_g6 229 rfl rfl)⟩
set_option maxRecDepth 100000 in
theorem wt_lf_md_56 : wt_Lk "WornTypeModel" 56 11 22 true := ⟨_, _, _, _, rfl, wt_cf11, by decide, rfl, rfl, Or.inl (wt_g6 230 rfl rfl)⟩
set_option maxRecDepth 100000 in
theorem wt_lf_md_59 : wt_Lk "WornTypeModel" 59 11 23 true := ⟨_, _, _, _, rfl, wt_cf11, by decide, rfl, rfl, Or.inl (wt_g6 231 rfl rfl)⟩
set_option maxRecDepth 100000 in
theorem wt_lf_md_62 : wt_Lk "WornTypeModel" 62 11 31 true := ⟨_, _, _, _, rfl, wt_cf11, by decide, rfl, rfl, Or.inl (wt_g6 239 rfl rfl)⟩
set_option maxRecDepth 100000 in
theorem wt_lf_md_65 : wt_Lk "WornTypeModel" 65 11 32 true := ⟨_, _, _, _, rfl, wt_cf11, by decide, rfl, rfl, Or.inl (wt_g7 0 rfl rfl)⟩
set_option maxRecDepth 100000 in
theorem wt_lf_md_68 : wt_Lk "WornTypeModel" 68 11 33 true := ⟨_, _, _, _, rfl, wt_cf11, by decide, rfl, rfl, Or.inl (wt_g7 1 rfl rfl)⟩
set_option maxRecDepth 100000 in
theorem wt_lf_md_71 : wt_Lk "WornTypeModel" 71 11 34 true := ⟨_, _, _, _, rfl, wt_cf11, by decide, rfl, rfl, Or.inl (wt_g7 2 rfl rfl)⟩
set_option maxRecDepth 100000 in
theorem wt_lf_md_74 : wt_Lk "WornTypeModel" 74 11 35 true := ⟨_, _, _, _, rfl, wt_cf11, by decide, rfl, rfl, Or.inl (wt_g7 3 rfl rfl)⟩
set_option maxRecDepth 100000 in
theorem wt_lf_md_77 : wt_Lk "WornTypeModel" 77 11 36 true := ⟨_, _, _, _, rfl, wt_cf11, by decide, rfl, rfl, Or.inl (wt_g7 4 rfl rfl)⟩
set_option maxRecDepth 100000 in
theorem wt_lf_md_82 : wt_Lk "WornTypeModel" 82 11 37 true := ⟨_, _, _, _, rfl, wt_cf11, by decide, rfl, rfl, Or.inl (wt_g7 5 rfl rfl)⟩
set_option maxRecDepth 100000 in
theorem wt_lf_md_85 : wt_Lk "WornTypeModel" 85 11 38 true := ⟨_, _, _, _, rfl, wt_cf11, by decide, rfl, rfl, Or.inl (wt_g7 6 rfl rfl)⟩
set_option maxRecDepth 100000 in
theorem wt_lf_md_88 : wt_Lk "WornTypeModel" 88 11 43 true := ⟨_, _, _, _, rfl, wt_cf11, by decide, rfl, rfl, Or.inl (wt_g7 11 rfl rfl)⟩
set_option maxRecDepth 100000 in
theorem wt_lf_md_91 : wt_Lk "WornTypeModel" 91 11 44 true := ⟨_, _, _, _, rfl, wt_cf11, by decide, rfl, rfl, Or.inl (wt_g7 12 rfl rfl)⟩
set_option maxRecDepth 100000 in
theorem wt_lf_md_94 : wt_Lk "WornTypeModel" 94 11 45 true := ⟨_, _, _, _, rfl, wt_cf11, by decide, rfl, rfl, Or.inl (wt_g7 13 rfl rfl)⟩
set_option maxRecDepth 100000 in
theorem wt_lf_md_97 : wt_Lk "WornTypeModel" 97 11 46 true := ⟨_, _, _, _, rfl, wt_cf11, by decide, rfl, rfl, Or.inl (wt_g7 14 rfl rfl)⟩
set_option maxRecDepth 100000 in
theorem wt_lf_md_100 : wt_Lk "WornTypeModel" 100 11 47 true := ⟨_, _, _, _, rfl, wt_cf11, by decide, rfl, rfl, Or.inl (wt_g7 15 rfl rfl)⟩
set_option maxRecDepth 100000 in
theorem wt_lf_md_103 : wt_Lk "WornTypeModel" 103 11 48 true := ⟨_, _, _, _, rfl, wt_cf11, by decide, rfl, rfl, Or.inl (wt_g7 16 rfl rfl)⟩
set_option maxRecDepth 100000 in
theorem wt_lf_md_106 : wt_Lk "WornTypeModel" 106 11 49 true := ⟨_, _, _, _, rfl, wt_cf11, by decide, rfl, rfl, Or.inl (wt_g7 17 rfl rfl)⟩
set_option maxRecDepth 100000 in
theorem wt_lf_md_109 : wt_Lk "WornTypeModel" 109 11 50 true := ⟨_, _, _, _, rfl, wt_cf11, by decide, rfl, rfl, Or.inl (wt_g7 18 rfl rfl)⟩
set_option maxRecDepth 100000 in
theorem wt_lf_md_112 : wt_Lk "WornTypeModel" 112 11 51 true := ⟨_, _, _, _, rfl, wt_cf11, by decide, rfl, rfl, Or.inl (wt_g7 19 rfl rfl)⟩
set_option maxRecDepth 100000 in
theorem wt_lf_md_115 : wt_Lk "WornTypeModel" 115 11 52 true := ⟨_, _, _, _, rfl, wt_cf11, by decide, rfl, rfl, Or.inl (wt_g7 20 rfl rfl)⟩
set_option maxRecDepth 100000 in
theorem wt_lf_md_118 : wt_Lk "WornTypeModel" 118 11 53 true := ⟨_, _, _, _, rfl, wt_cf11, by decide, rfl, rfl, Or.inl (wt_g7 21 rfl rfl)⟩
set_option maxRecDepth 100000 in
theorem wt_lf_md_121 : wt_Lk "WornTypeModel" 121 11 55 true := ⟨_, _, _, _, rfl, wt_cf11, by decide, rfl, rfl, Or.inl (wt_g7 23 rfl rfl)⟩
set_option maxRecDepth 100000 in
theorem wt_lf_md_124 : wt_Lk "WornTypeModel" 124 11 56 true := ⟨_, _, _, _, rfl, wt_cf11, by decide, rfl, rfl, Or.inl (wt_g7 24 rfl rfl)⟩
set_option maxRecDepth 100000 in
theorem wt_lf_md_127 : wt_Lk "WornTypeModel" 127 11 57 true := ⟨_, _, _, _, rfl, wt_cf11, by decide, rfl, rfl, Or.inl (wt_g7 25 rfl rfl)⟩
set_option maxRecDepth 100000 in
theorem wt_lf_md_130 : wt_Lk "WornTypeModel" 130 11 58 true := ⟨_, _, _, _, rfl, wt_cf11, by decide, rfl, rfl, Or.inl (wt_g7 26 rfl rfl)⟩
set_option maxRecDepth 100000 in
theorem wt_lf_md_133 : wt_Lk "WornTypeModel" 133 11 59 true := ⟨_, _, _, _, rfl, wt_cf11, by decide, rfl, rfl, Or.inl (wt_g7 27 rfl rfl)⟩
set_option maxRecDepth 100000 in
theorem wt_lf_md_136 : wt_Lk "WornTypeModel" 136 11 61 true := ⟨_, _, _, _, rfl, wt_cf11, by decide, rfl, rfl, Or.inl (wt_g7 29 rfl rfl)⟩
set_option maxRecDepth 100000 in
theorem wt_lf_md_139 : wt_Lk "WornTypeModel" 139 11 62 true := ⟨_, _, _, _, rfl, wt_cf11, by decide, rfl, rfl, Or.inl (wt_g7 30 rfl rfl)⟩
set_option maxRecDepth 100000 in
theorem wt_lf_md_142 : wt_Lk "WornTypeModel" 142 11 63 true := ⟨_, _, _, _, rfl, wt_cf11, by decide, rfl, rfl, Or.inl (wt_g7 31 rfl rfl)⟩
set_option maxRecDepth 100000 in
theorem wt_lm_md_145 : wt_MV "WornTypeModel" 145 wt_y_md_clearsCase := ⟨Or.inl (wt_g6 200 rfl rfl), wt_g6 202 rfl rfl, wt_g0 35 rfl rfl, wt_g1 12 rfl rfl⟩
set_option maxRecDepth 100000 in
theorem wt_lm_md_148 : wt_MV "WornTypeModel" 148 wt_y_md_takesCase := ⟨Or.inl (wt_g6 204 rfl rfl), wt_g6 206 rfl rfl, wt_g0 36 rfl rfl, wt_g1 12 rfl rfl⟩
set_option maxRecDepth 100000 in
theorem wt_lf_md_151 : wt_Lk "WornTypeModel" 151 11 0 false := ⟨_, _, _, _, rfl, wt_cf11, by decide, rfl, rfl, Or.inl (wt_g6 208 rfl rfl)⟩
set_option maxRecDepth 100000 in
theorem wt_lf_md_154 : wt_Lk "WornTypeModel" 154 11 1 false := ⟨_, _, _, _, rfl, wt_cf11, by decide, rfl, rfl, Or.inl (wt_g6 209 rfl rfl)⟩
set_option maxRecDepth 100000 in
theorem wt_lf_md_157 : wt_Lk "WornTypeModel" 157 11 2 false := ⟨_, _, _, _, rfl, wt_cf11, by decide, rfl, rfl, Or.inl (wt_g6 210 rfl rfl)⟩
set_option maxRecDepth 100000 in
theorem wt_lf_md_160 : wt_Lk "WornTypeModel" 160 11 4 false := ⟨_, _, _, _, rfl, wt_cf11, by decide, rfl, rfl, Or.inl (wt_g6 212 rfl rfl)⟩
set_option maxRecDepth 100000 in
theorem wt_lm_md_163 : wt_MV "WornTypeModel" 163 wt_y_md_byteAt := ⟨Or.inl (wt_g7 184 rfl rfl), wt_g7 186 rfl rfl, wt_g0 40 rfl rfl, wt_g1 12 rfl rfl⟩
set_option maxRecDepth 100000 in
theorem wt_lf_md_167 : wt_Lk "WornTypeModel" 167 11 5 false := ⟨_, _, _, _, rfl, wt_cf11, by decide, rfl, rfl, Or.inl (wt_g6 213 rfl rfl)⟩
set_option maxRecDepth 100000 in
theorem wt_lf_md_170 : wt_Lk "WornTypeModel" 170 11 6 false := ⟨_, _, _, _, rfl, wt_cf11, by decide, rfl, rfl, Or.inl (wt_g6 214 rfl rfl)⟩
set_option maxRecDepth 100000 in
theorem wt_lm_md_173 : wt_MV "WornTypeModel" 173 wt_y_md_blanks := ⟨Or.inl (wt_g7 180 rfl rfl), wt_g7 182 rfl rfl, wt_g0 39 rfl rfl, wt_g1 12 rfl rfl⟩
set_option maxRecDepth 100000 in
theorem wt_lm_md_176 : wt_MS "WornTypeModel" 176 wt_y_md_isDigit := ⟨Or.inl (wt_g7 222 rfl rfl), wt_g7 223 rfl rfl, wt_g1 12 rfl rfl⟩
set_option maxRecDepth 100000 in
theorem wt_lm_md_180 : wt_MV "WornTypeModel" 180 wt_y_md_wrong := ⟨Or.inl (wt_g7 206 rfl rfl), wt_g7 208 rfl rfl, wt_g0 44 rfl rfl, wt_g1 12 rfl rfl⟩
set_option maxRecDepth 100000 in
theorem wt_lc_md_184 : Cond.constant "WornTypeModel" 184 100000 ∈ wt_GT := wt_g7 225 rfl rfl
set_option maxRecDepth 100000 in
theorem wt_lm_md_185 : wt_MS "WornTypeModel" 185 wt_y_md_in := ⟨Or.inl (wt_g7 169 rfl rfl), wt_g7 170 rfl rfl, wt_g1 12 rfl rfl⟩
set_option maxRecDepth 100000 in
theorem wt_lm_md_189 : wt_MS "WornTypeModel" 189 wt_y_md_isSmall := ⟨Or.inl (wt_g7 203 rfl rfl), wt_g7 204 rfl rfl, wt_g1 12 rfl rfl⟩
set_option maxRecDepth 100000 in
theorem wt_lm_md_192 : wt_MV "WornTypeModel" 192 wt_y_md_lettersHere := ⟨Or.inl (wt_g7 199 rfl rfl), wt_g7 201 rfl rfl, wt_g0 43 rfl rfl, wt_g1 12 rfl rfl⟩
set_option maxRecDepth 100000 in
theorem wt_lf_md_196 : wt_Lk "WornTypeModel" 196 11 7 false := ⟨_, _, _, _, rfl, wt_cf11, by decide, rfl, rfl, Or.inl (wt_g6 215 rfl rfl)⟩
set_option maxRecDepth 100000 in
theorem wt_lf_md_199 : wt_Lk "WornTypeModel" 199 11 24 false := ⟨_, _, _, _, rfl, wt_cf11, by decide, rfl, rfl, Or.inl (wt_g6 232 rfl rfl)⟩
set_option maxRecDepth 100000 in
theorem wt_lf_md_202 : wt_Lk "WornTypeModel" 202 11 25 false := ⟨_, _, _, _, rfl, wt_cf11, by decide, rfl, rfl, Or.inl (wt_g6 233 rfl rfl)⟩
set_option maxRecDepth 100000 in
theorem wt_lm_md_205 : wt_MS "WornTypeModel" 205 wt_y_md_six := ⟨Or.inl (wt_g7 192 rfl rfl), wt_g7 193 rfl rfl, wt_g1 12 rfl rfl⟩
set_option maxRecDepth 100000 in
theorem wt_lm_md_209 : wt_MV "WornTypeModel" 209 wt_y_md_isWord := ⟨Or.inl (wt_g7 195 rfl rfl), wt_g7 197 rfl rfl, wt_g0 42 rfl rfl, wt_g1 12 rfl rfl⟩
set_option maxRecDepth 100000 in
theorem wt_lm_md_212 : wt_MV "WornTypeModel" 212 wt_y_md_pieces := ⟨Or.inl (wt_g7 210 rfl rfl), wt_g7 212 rfl rfl, wt_g0 45 rfl rfl, wt_g1 12 rfl rfl⟩
set_option maxRecDepth 100000 in
theorem wt_lm_md_216 : wt_MV "WornTypeModel" 216 wt_y_md_letterHere := ⟨Or.inl (wt_g7 214 rfl rfl), wt_g7 216 rfl rfl, wt_g0 46 rfl rfl, wt_g1 12 rfl rfl⟩
set_option maxRecDepth 100000 in
theorem wt_lm_md_219 : wt_MV "WornTypeModel" 219 wt_y_md_number := ⟨Or.inl (wt_g7 218 rfl rfl), wt_g7 220 rfl rfl, wt_g0 47 rfl rfl, wt_g1 12 rfl rfl⟩
set_option maxRecDepth 100000 in
theorem wt_lm_md_223 : wt_MV "WornTypeModel" 223 wt_y_md_closes := ⟨Or.inl (wt_g7 229 rfl rfl), wt_g7 231 rfl rfl, wt_g0 48 rfl rfl, wt_g1 12 rfl rfl⟩
set_option maxRecDepth 100000 in
theorem wt_lm_md_227 : wt_MS "WornTypeModel" 227 wt_y_md_cell := ⟨Or.inl (wt_g7 226 rfl rfl), wt_g7 227 rfl rfl, wt_g1 12 rfl rfl⟩
set_option maxRecDepth 100000 in
theorem wt_lm_md_230 : wt_MV "WornTypeModel" 230 wt_y_md_bad := ⟨Or.inl (wt_g7 172 rfl rfl), wt_g7 174 rfl rfl, wt_g0 37 rfl rfl, wt_g1 12 rfl rfl⟩
set_option maxRecDepth 100000 in
theorem wt_lm_md_234 : wt_MV "WornTypeModel" 234 wt_y_md_starts := ⟨Or.inl (wt_g7 176 rfl rfl), wt_g7 178 rfl rfl, wt_g0 38 rfl rfl, wt_g1 12 rfl rfl⟩
set_option maxRecDepth 100000 in
theorem wt_lm_md_237 : wt_MV "WornTypeModel" 237 wt_y_md_clause := ⟨Or.inl (wt_g7 188 rfl rfl), wt_g7 190 rfl rfl, wt_g0 41 rfl rfl, wt_g1 12 rfl rfl⟩
set_option maxRecDepth 100000 in
theorem wt_lf_md_240 : wt_Lk "WornTypeModel" 240 11 41 false := ⟨_, _, _, _, rfl, wt_cf11, by decide, rfl, rfl, Or.inl (wt_g7 9 rfl rfl)⟩
set_option maxRecDepth 100000 in
theorem wt_lm_md_243 : wt_MV "WornTypeModel" 243 wt_y_md_allPieces := ⟨Or.inl (wt_g7 233 rfl rfl), wt_g7 235 rfl rfl, wt_g0 49 rfl rfl, wt_g1 12 rfl rfl⟩
set_option maxRecDepth 100000 in
theorem wt_lf_md_246 : wt_Lk "WornTypeModel" 246 11 27 false := ⟨_, _, _, _, rfl, wt_cf11, by decide, rfl, rfl, Or.inl (wt_g6 235 rfl rfl)⟩
set_option maxRecDepth 100000 in
theorem wt_lm_md_249 : wt_MV "WornTypeModel" 249 wt_y_md_wordOf := ⟨Or.inl (wt_g8 5 rfl rfl), wt_g8 7 rfl rfl, wt_g0 51 rfl rfl, wt_g1 12 rfl rfl⟩
set_option maxRecDepth 100000 in
theorem wt_lf_md_253 : wt_Lk "WornTypeModel" 253 11 29 false := ⟨_, _, _, _, rfl, wt_cf11, by decide, rfl, rfl, Or.inl (wt_g6 237 rfl rfl)⟩
set_option maxRecDepth 100000 in
theorem wt_lm_md_256 : wt_MV "WornTypeModel" 256 wt_y_md_reads := ⟨Or.inl (wt_g8 1 rfl rfl), wt_g8 3 rfl rfl, wt_g0 50 rfl rfl, wt_g1 12 rfl rfl⟩
set_option maxRecDepth 100000 in
theorem wt_lf_md_259 : wt_Lk "WornTypeModel" 259 11 28 false := ⟨_, _, _, _, rfl, wt_cf11, by decide, rfl, rfl, Or.inl (wt_g6 236 rfl rfl)⟩
set_option maxRecDepth 100000 in
theorem wt_lf_md_262 : wt_Lk "WornTypeModel" 262 11 30 false := ⟨_, _, _, _, rfl, wt_cf11, by decide, rfl, rfl, Or.inl (wt_g6 238 rfl rfl)⟩
set_option maxRecDepth 100000 in
theorem wt_lf_md_265 : wt_Lk "WornTypeModel" 265 11 39 false := ⟨_, _, _, _, rfl, wt_cf11, by decide, rfl, rfl, Or.inl (wt_g7 7 rfl rfl)⟩
set_option maxRecDepth 100000 in
theorem wt_lf_md_268 : wt_Lk "WornTypeModel" 268 11 40 false := ⟨_, _, _, _, rfl, wt_cf11, by decide, rfl, rfl, Or.inl (wt_g7 8 rfl rfl)⟩
set_option maxRecDepth 100000 in
theorem wt_lm_md_271 : wt_MV "WornTypeModel" 271 wt_y_md_takesApart := ⟨Or.inl (wt_g8 9 rfl rfl), wt_g8 11 rfl rfl, wt_g0 52 rfl rfl, wt_g1 12 rfl rfl⟩
set_option maxRecDepth 100000 in
theorem wt_lm_md_274 : wt_MV "WornTypeModel" 274 wt_y_md_standing := ⟨Or.inl (wt_g8 25 rfl rfl), wt_g8 27 rfl rfl, wt_g0 53 rfl rfl, wt_g1 12 rfl rfl⟩
set_option maxRecDepth 100000 in
theorem wt_lf_md_277 : wt_Lk "WornTypeModel" 277 11 26 false := ⟨_, _, _, _, rfl, wt_cf11, by decide, rfl, rfl, Or.inl (wt_g6 234 rfl rfl)⟩
set_option maxRecDepth 100000 in
theorem wt_lm_md_280 : wt_MS "WornTypeModel" 280 wt_y_md_isLetter := ⟨Or.inl (wt_g8 33 rfl rfl), wt_g8 34 rfl rfl, wt_g1 12 rfl rfl⟩
set_option maxRecDepth 100000 in
theorem wt_lm_md_283 : wt_MV "WornTypeModel" 283 wt_y_md_needsNone := ⟨Or.inl (wt_g8 56 rfl rfl), wt_g8 58 rfl rfl, wt_g0 57 rfl rfl, wt_g1 12 rfl rfl⟩
set_option maxRecDepth 100000 in
theorem wt_lm_md_286 : wt_MV "WornTypeModel" 286 wt_y_md_needsWord := ⟨Or.inl (wt_g8 60 rfl rfl), wt_g8 62 rfl rfl, wt_g0 58 rfl rfl, wt_g1 12 rfl rfl⟩
set_option maxRecDepth 100000 in
theorem wt_lm_md_289 : wt_MV "WornTypeModel" 289 wt_y_md_goodFor := ⟨Or.inl (wt_g8 72 rfl rfl), wt_g8 74 rfl rfl, wt_g0 61 rfl rfl, wt_g1 12 rfl rfl⟩
set_option maxRecDepth 100000 in
theorem wt_lm_md_292 : wt_MV "WornTypeModel" 292 wt_y_md_lacking := ⟨Or.inl (wt_g8 68 rfl rfl), wt_g8 70 rfl rfl, wt_g0 60 rfl rfl, wt_g1 12 rfl rfl⟩
set_option maxRecDepth 100000 in
theorem wt_lm_md_295 : wt_MV "WornTypeModel" 295 wt_y_md_often := ⟨Or.inl (wt_g8 64 rfl rfl), wt_g8 66 rfl rfl, wt_g0 59 rfl rfl, wt_g1 12 rfl rfl⟩
set_option maxRecDepth 100000 in
theorem wt_lm_md_298 : wt_MV "WornTypeModel" 298 wt_y_md_isWordNumber := ⟨Or.inl (wt_g8 44 rfl rfl), wt_g8 46 rfl rfl, wt_g0 54 rfl rfl, wt_g1 12 rfl rfl⟩
set_option maxRecDepth 100000 in
theorem wt_lm_md_301 : wt_MV "WornTypeModel" 301 wt_y_md_priceOf := ⟨Or.inl (wt_g8 48 rfl rfl), wt_g8 50 rfl rfl, wt_g0 55 rfl rfl, wt_g1 12 rfl rfl⟩
set_option maxRecDepth 100000 in
theorem wt_lm_md_304 : wt_MV "WornTypeModel" 304 wt_y_md_canWord := ⟨Or.inl (wt_g8 52 rfl rfl), wt_g8 54 rfl rfl, wt_g0 56 rfl rfl, wt_g1 12 rfl rfl⟩
set_option maxRecDepth 100000 in
theorem wt_lm_md_307 : wt_MV "WornTypeModel" 307 wt_y_md_isText := ⟨Or.inl (wt_g8 80 rfl rfl), wt_g8 82 rfl rfl, wt_g0 62 rfl rfl, wt_g1 12 rfl rfl⟩
set_option maxRecDepth 100000 in
theorem wt_lm_md_310 : wt_MV "WornTypeModel" 310 wt_y_md_needsText := ⟨Or.inl (wt_g8 88 rfl rfl), wt_g8 90 rfl rfl, wt_g0 63 rfl rfl, wt_g1 12 rfl rfl⟩
set_option maxRecDepth 100000 in
theorem wt_lm_md_313 : wt_MS "WornTypeModel" 313 wt_y_md_isCopies := ⟨Or.inl (wt_g8 104 rfl rfl), wt_g8 105 rfl rfl, wt_g1 12 rfl rfl⟩
set_option maxRecDepth 100000 in
theorem wt_lf_md_316 : wt_Lk "WornTypeModel" 316 11 54 false := ⟨_, _, _, _, rfl, wt_cf11, by decide, rfl, rfl, Or.inl (wt_g7 22 rfl rfl)⟩
set_option maxRecDepth 100000 in
theorem wt_lm_md_319 : wt_MV "WornTypeModel" 319 wt_y_md_nextPiece := ⟨Or.inl (wt_g8 115 rfl rfl), wt_g8 117 rfl rfl, wt_g0 65 rfl rfl, wt_g1 12 rfl rfl⟩
set_option maxRecDepth 100000 in
theorem wt_lm_md_322 : wt_MV "WornTypeModel" 322 wt_y_md_takes := ⟨Or.inl (wt_g8 111 rfl rfl), wt_g8 113 rfl rfl, wt_g0 64 rfl rfl, wt_g1 12 rfl rfl⟩
set_option maxRecDepth 100000 in
theorem wt_lm_md_326 : wt_MV "WornTypeModel" 326 wt_y_md_isPage := ⟨Or.inl (wt_g8 123 rfl rfl), wt_g8 125 rfl rfl, wt_g0 66 rfl rfl, wt_g1 12 rfl rfl⟩
set_option maxRecDepth 100000 in
theorem wt_lm_md_329 : wt_MV "WornTypeModel" 329 wt_y_md_leastOf := ⟨Or.inl (wt_g8 127 rfl rfl), wt_g8 129 rfl rfl, wt_g0 67 rfl rfl, wt_g1 12 rfl rfl⟩
set_option maxRecDepth 100000 in
theorem wt_lm_md_332 : wt_MV "WornTypeModel" 332 wt_y_md_pieceOn := ⟨Or.inl (wt_g8 143 rfl rfl), wt_g8 145 rfl rfl, wt_g0 69 rfl rfl, wt_g1 12 rfl rfl⟩
set_option maxRecDepth 100000 in
theorem wt_lm_md_336 : wt_MV "WornTypeModel" 336 wt_y_md_readOf := ⟨Or.inl (wt_g8 139 rfl rfl), wt_g8 141 rfl rfl, wt_g0 68 rfl rfl, wt_g1 12 rfl rfl⟩
set_option maxRecDepth 100000 in
theorem wt_lm_md_339 : wt_MV "WornTypeModel" 339 wt_y_md_isOf := ⟨Or.inl (wt_g8 159 rfl rfl), wt_g8 161 rfl rfl, wt_g0 71 rfl rfl, wt_g1 12 rfl rfl⟩
set_option maxRecDepth 100000 in
theorem wt_lm_md_342 : wt_MV "WornTypeModel" 342 wt_y_md_mayFollow := ⟨Or.inl (wt_g8 163 rfl rfl), wt_g8 165 rfl rfl, wt_g0 72 rfl rfl, wt_g1 12 rfl rfl⟩
set_option maxRecDepth 100000 in
theorem wt_lc_md_345 : Cond.constant "WornTypeModel" 345 1000000 ∈ wt_GT := wt_g8 167 rfl rfl
set_option maxRecDepth 100000 in
theorem wt_lm_md_346 : wt_MV "WornTypeModel" 346 wt_y_md_laysRests := ⟨Or.inl (wt_g8 155 rfl rfl), wt_g8 157 rfl rfl, wt_g0 70 rfl rfl, wt_g1 12 rfl rfl⟩
set_option maxRecDepth 100000 in
theorem wt_lf_md_349 : wt_Lk "WornTypeModel" 349 11 60 false := ⟨_, _, _, _, rfl, wt_cf11, by decide, rfl, rfl, Or.inl (wt_g7 28 rfl rfl)⟩
set_option maxRecDepth 100000 in
theorem wt_lm_md_352 : wt_MV "WornTypeModel" 352 wt_y_md_tries := ⟨Or.inl (wt_g8 172 rfl rfl), wt_g8 174 rfl rfl, wt_g0 73 rfl rfl, wt_g1 12 rfl rfl⟩
set_option maxRecDepth 100000 in
theorem wt_lm_md_356 : wt_MV "WornTypeModel" 356 wt_y_md_isPrinted := ⟨Or.inl (wt_g8 200 rfl rfl), wt_g8 202 rfl rfl, wt_g0 76 rfl rfl, wt_g1 12 rfl rfl⟩
set_option maxRecDepth 100000 in
theorem wt_lm_md_359 : wt_MV "WornTypeModel" 359 wt_y_md_puts := ⟨Or.inl (wt_g8 192 rfl rfl), wt_g8 194 rfl rfl, wt_g0 74 rfl rfl, wt_g1 12 rfl rfl⟩
set_option maxRecDepth 100000 in
theorem wt_lm_md_362 : wt_MV "WornTypeModel" 362 wt_y_md_prints := ⟨Or.inl (wt_g8 196 rfl rfl), wt_g8 198 rfl rfl, wt_g0 75 rfl rfl, wt_g1 12 rfl rfl⟩
set_option maxRecDepth 100000 in
theorem wt_lm_md_366 : wt_MV "WornTypeModel" 366 wt_y_md_putsBack := ⟨Or.inl (wt_g8 204 rfl rfl), wt_g8 206 rfl rfl, wt_g0 77 rfl rfl, wt_g1 12 rfl rfl⟩
set_option maxRecDepth 100000 in
theorem wt_lm_md_369 : wt_MV "WornTypeModel" 369 wt_y_md_worthOf := ⟨Or.inl (wt_g8 208 rfl rfl), wt_g8 210 rfl rfl, wt_g0 78 rfl rfl, wt_g1 12 rfl rfl⟩
set_option maxRecDepth 100000 in
theorem wt_lm_md_372 : wt_MV "WornTypeModel" 372 wt_y_md_greedyAhead := ⟨Or.inl (wt_g8 216 rfl rfl), wt_g8 218 rfl rfl, wt_g0 79 rfl rfl, wt_g1 12 rfl rfl⟩
set_option maxRecDepth 100000 in
theorem wt_lm_md_375 : wt_MV "WornTypeModel" 375 wt_y_md_boundOf := ⟨Or.inl (wt_g8 224 rfl rfl), wt_g8 226 rfl rfl, wt_g0 80 rfl rfl, wt_g1 12 rfl rfl⟩
set_option maxRecDepth 100000 in
theorem wt_lm_md_378 : wt_MS "WornTypeModel" 378 wt_y_md_isWeek := ⟨Or.inl (wt_g8 232 rfl rfl), wt_g8 233 rfl rfl, wt_g1 12 rfl rfl⟩
set_option maxRecDepth 100000 in
theorem wt_lm_md_381 : wt_MV "WornTypeModel" 381 wt_y_md_withOne := ⟨Or.inl (wt_g9 7 rfl rfl), wt_g9 9 rfl rfl, wt_g0 81 rfl rfl, wt_g1 12 rfl rfl⟩
set_option maxRecDepth 100000 in
theorem wt_lm_md_384 : wt_MS "WornTypeModel" 384 wt_y_md_ones := ⟨Or.inl (wt_g9 19 rfl rfl), wt_g9 20 rfl rfl, wt_g1 12 rfl rfl⟩
set_option maxRecDepth 100000 in
theorem wt_lf_md_387 : wt_Lk "WornTypeModel" 387 11 42 false := ⟨_, _, _, _, rfl, wt_cf11, by decide, rfl, rfl, Or.inl (wt_g7 10 rfl rfl)⟩
set_option maxRecDepth 100000 in
theorem wt_lm_md_390 : wt_MV "WornTypeModel" 390 wt_y_md_moves := ⟨Or.inl (wt_g9 30 rfl rfl), wt_g9 32 rfl rfl, wt_g0 83 rfl rfl, wt_g1 12 rfl rfl⟩
set_option maxRecDepth 100000 in
theorem wt_lm_md_394 : wt_MV "WornTypeModel" 394 wt_y_md_movesAll := ⟨Or.inl (wt_g9 26 rfl rfl), wt_g9 28 rfl rfl, wt_g0 82 rfl rfl, wt_g1 12 rfl rfl⟩
set_option maxRecDepth 100000 in
theorem wt_lc_jl_265 : Cond.constant "java/lang/Integer" 265 1431655765 ∈ wt_GT := wt_g6 186 rfl rfl
set_option maxRecDepth 100000 in
theorem wt_lc_jl_266 : Cond.constant "java/lang/Integer" 266 858993459 ∈ wt_GT := wt_g6 187 rfl rfl
set_option maxRecDepth 100000 in
theorem wt_lc_jl_267 : Cond.constant "java/lang/Integer" 267 252645135 ∈ wt_GT := wt_g6 188 rfl rfl
def wt_isLead (t : Nat) : Prop := wt_LAY[t]? = some (3, 0, [t + 1 + 1, t + 2 + 1, t + 3 + 1, t + 4 + 1, t + 5 + 1, t + 6 + 1, t + 7 + 1, 0]) ∧ wt_LAY[t + 1]? = some (0, 26, []) ∧ wt_LAY[t + 2]? = some (0, 312, []) ∧ wt_LAY[t + 3]? = some (0, 26, []) ∧ wt_LAY[t + 4]? = some (0, 312, []) ∧ wt_LAY[t + 5]? = some (0, 26, []) ∧ wt_LAY[t + 6]? = some (0, 26, []) ∧ wt_LAY[t + 7]? = some (0, 4, [])
theorem wt_isLead_L1 {t : Nat} (h : wt_isLead t) : wt_LAY[t + 1]? = some (0, 26, []) := h.2.1
theorem wt_isLead_L2 {t : Nat} (h : wt_isLead t) : wt_LAY[t + 2]? = some (0, 312, []) := h.2.2.1
theorem wt_isLead_L3 {t : Nat} (h : wt_isLead t) : wt_LAY[t + 3]? = some (0, 26, []) := h.2.2.2.1
theorem wt_isLead_L4 {t : Nat} (h : wt_isLead t) : wt_LAY[t + 4]? = some (0, 312, []) := h.2.2.2.2.1
theorem wt_isLead_L5 {t : Nat} (h : wt_isLead t) : wt_LAY[t + 5]? = some (0, 26, []) := h.2.2.2.2.2.1
theorem wt_isLead_L6 {t : Nat} (h : wt_isLead t) : wt_LAY[t + 6]? = some (0, 26, []) := h.2.2.2.2.2.2.1
theorem wt_isLead_L7 {t : Nat} (h : wt_isLead t) : wt_LAY[t + 7]? = some (0, 4, []) := h.2.2.2.2.2.2.2
theorem wt_isLead_4 : wt_isLead 4 := ⟨wt_L4, wt_L5, wt_L6, wt_L7, wt_L8, wt_L9, wt_L10, wt_L11⟩
theorem wt_isLead_12 : wt_isLead 12 := ⟨wt_L12, wt_L13, wt_L14, wt_L15, wt_L16, wt_L17, wt_L18, wt_L19⟩
def wt_isTongue (t : Nat) : Prop := wt_LAY[t]? = some (10, 0, [t + 1 + 1, t + 2 + 1, t + 3 + 1, t + 4 + 1, t + 5 + 1, t + 6 + 1, 0, 0]) ∧ wt_LAY[t + 1]? = some (0, 540, []) ∧ wt_LAY[t + 2]? = some (0, 60, []) ∧ wt_LAY[t + 3]? = some (0, 60, []) ∧ wt_LAY[t + 4]? = some (0, 60, []) ∧ wt_LAY[t + 5]? = some (0, 20, []) ∧ wt_LAY[t + 6]? = some (0, 20, [])
theorem wt_isTongue_L1 {t : Nat} (h : wt_isTongue t) : wt_LAY[t + 1]? = some (0, 540, []) := h.2.1
theorem wt_isTongue_L2 {t : Nat} (h : wt_isTongue t) : wt_LAY[t + 2]? = some (0, 60, []) := h.2.2.1
theorem wt_isTongue_L3 {t : Nat} (h : wt_isTongue t) : wt_LAY[t + 3]? = some (0, 60, []) := h.2.2.2.1
theorem wt_isTongue_L4 {t : Nat} (h : wt_isTongue t) : wt_LAY[t + 4]? = some (0, 60, []) := h.2.2.2.2.1
theorem wt_isTongue_L5 {t : Nat} (h : wt_isTongue t) : wt_LAY[t + 5]? = some (0, 20, []) := h.2.2.2.2.2.1
theorem wt_isTongue_L6 {t : Nat} (h : wt_isTongue t) : wt_LAY[t + 6]? = some (0, 20, []) := h.2.2.2.2.2.2
theorem wt_isTongue_20 : wt_isTongue 20 := ⟨wt_L20, wt_L21, wt_L22, wt_L23, wt_L24, wt_L25, wt_L26⟩
theorem wt_isTongue_27 : wt_isTongue 27 := ⟨wt_L27, wt_L28, wt_L29, wt_L30, wt_L31, wt_L32, wt_L33⟩
def wt_isState (t : Nat) : Prop := wt_LAY[t]? = some (6, 0, [t + 1 + 1, t + 2 + 1, t + 3 + 1, t + 4 + 1, t + 5 + 1, t + 6 + 1, t + 7 + 1, t + 8 + 1, 0, 0]) ∧ wt_LAY[t + 1]? = some (0, 312, []) ∧ wt_LAY[t + 2]? = some (0, 312, []) ∧ wt_LAY[t + 3]? = some (0, 312, []) ∧ wt_LAY[t + 4]? = some (0, 4, []) ∧ wt_LAY[t + 5]? = some (0, 10, []) ∧ wt_LAY[t + 6]? = some (0, 10, []) ∧ wt_LAY[t + 7]? = some (0, 10, []) ∧ wt_LAY[t + 8]? = some (0, 10, [])
theorem wt_isState_L1 {t : Nat} (h : wt_isState t) : wt_LAY[t + 1]? = some (0, 312, []) := h.2.1
theorem wt_isState_L2 {t : Nat} (h : wt_isState t) : wt_LAY[t + 2]? = some (0, 312, []) := h.2.2.1
theorem wt_isState_L3 {t : Nat} (h : wt_isState t) : wt_LAY[t + 3]? = some (0, 312, []) := h.2.2.2.1
theorem wt_isState_L4 {t : Nat} (h : wt_isState t) : wt_LAY[t + 4]? = some (0, 4, []) := h.2.2.2.2.1
theorem wt_isState_L5 {t : Nat} (h : wt_isState t) : wt_LAY[t + 5]? = some (0, 10, []) := h.2.2.2.2.2.1
theorem wt_isState_L6 {t : Nat} (h : wt_isState t) : wt_LAY[t + 6]? = some (0, 10, []) := h.2.2.2.2.2.2.1
theorem wt_isState_L7 {t : Nat} (h : wt_isState t) : wt_LAY[t + 7]? = some (0, 10, []) := h.2.2.2.2.2.2.2.1
theorem wt_isState_L8 {t : Nat} (h : wt_isState t) : wt_LAY[t + 8]? = some (0, 10, []) := h.2.2.2.2.2.2.2.2
theorem wt_isState_39 : wt_isState 39 := ⟨wt_L39, wt_L40, wt_L41, wt_L42, wt_L43, wt_L44, wt_L45, wt_L46, wt_L47⟩
theorem wt_isState_49 : wt_isState 49 := ⟨wt_L49, wt_L50, wt_L51, wt_L52, wt_L53, wt_L54, wt_L55, wt_L56, wt_L57⟩
theorem wt_isState_58 : wt_isState 58 := ⟨wt_L58, wt_L59, wt_L60, wt_L61, wt_L62, wt_L63, wt_L64, wt_L65, wt_L66⟩
theorem wt_isState_67 : wt_isState 67 := ⟨wt_L67, wt_L68, wt_L69, wt_L70, wt_L71, wt_L72, wt_L73, wt_L74, wt_L75⟩
theorem wt_imS {j : Nat} (h : j < 3) : wt_isState (49 + 9 * j) := by
  rcases (show j = 0 ∨ j = 1 ∨ j = 2 by omega) with rfl | rfl | rfl
  · exact wt_isState_49
  · exact wt_isState_58
  · exact wt_isState_67
def wt_ln (r : Nat) : Nat := match wt_LAY[r]? with
  | some q => q.2.1
  | none => 0
set_option maxRecDepth 100000 in
theorem wt_lnE {r n : Nat} {rs : List Nat} (h : wt_LAY[r]? = some (0, n, rs)) : wt_LAY[r]? = some (0, wt_ln r, rs) := by
  unfold wt_ln
  rw [h]
set_option maxRecDepth 100000 in
theorem wt_ln_of {r n k : Nat} {rs : List Nat} (h : wt_LAY[r]? = some (k, n, rs)) : wt_ln r = n := by
  unfold wt_ln
  rw [h]
set_option maxRecDepth 100000 in
theorem wt_lt {i : Int32} {n : Nat} (h : ¬ (i < 0 ∨ n ≤ i.toNatClampNeg)) : i.toNatClampNeg < n := Nat.not_le.mp fun q => h (Or.inr q)
section WT4
variable {X : wt_X} {cc : ByteArray} {nL : Nat} {own : String} {d Km K : Nat} {σ : wt_St} {pc : Nat} {lv : List (Option Value)} {st : List Value}
theorem wt_callVi (h : wt_Ok X cc nL own d Km) {idx : Nat} {y : MethodName} {b : ByteArray} {n k dd ci nn N i : Nat} {rs : List Nat} {T : u_T} {rt : Option FieldType} (As : List Value) {st0 : List Value} {r : Int32} {σ' : wt_St} (mv : wt_MV own idx y) (hy : wt_Ya y b n rt k) (hc : wt_Ctr (wt_xl X) (wt_xw X) y b n rt dd (.ref (wt_ad (wt_xw X) i) :: As) σ (some r) σ') (hd1 : dd + 1 ≤ d) (hi : wt_dom (wt_xw X) i) (hL : wt_LAY[i]? = some (ci + 3, nn, rs)) (hcl : wt_cl[ci]? = some (y.cls, T, N)) (hlen : As.length = k) (hst : As.reverse ++ .ref (wt_ad (wt_xw X) i) :: st = st0) (hro : (st.map fun v => v.category).sum ≤ 8) (hK : K ≤ Km) (hd : decode cc pc = .ok (.invokevirtual idx, 3))
    (kk : wt_bo rt (some r) → wt_V X K σ' (pc + 3) lv (.int r :: st)) : wt_V X K σ pc lv st0 := wt_callV h mv hy hc hd1 hi hL hcl hlen hst hro hK hd kk
theorem wt_callVv (h : wt_Ok X cc nL own d Km) {idx : Nat} {y : MethodName} {b : ByteArray} {n k dd ci nn N i : Nat} {rs : List Nat} {T : u_T} {rt : Option FieldType} (As : List Value) {st0 : List Value} {σ' : wt_St} (mv : wt_MV own idx y) (hy : wt_Ya y b n rt k) (hc : wt_Ctr (wt_xl X) (wt_xw X) y b n rt dd (.ref (wt_ad (wt_xw X) i) :: As) σ none σ') (hd1 : dd + 1 ≤ d) (hi : wt_dom (wt_xw X) i) (hL : wt_LAY[i]? = some (ci + 3, nn, rs)) (hcl : wt_cl[ci]? = some (y.cls, T, N)) (hlen : As.length = k) (hst : As.reverse ++ .ref (wt_ad (wt_xw X) i) :: st = st0) (hro : (st.map fun v => v.category).sum ≤ 8) (hK : K ≤ Km) (hd : decode cc pc = .ok (.invokevirtual idx, 3))
    (kk : wt_V X K σ' (pc + 3) lv st) : wt_V X K σ pc lv st0 := wt_callV h mv hy hc hd1 hi hL hcl hlen hst hro hK hd (fun _ => kk)
theorem wt_callSi (h : wt_Ok X cc nL own d Km) {idx : Nat} {y : MethodName} {b : ByteArray} {n k dd : Nat} {rt : Option FieldType} (As : List Value) {st0 : List Value} {r : Int32} {σ' : wt_St} (mv : wt_MS own idx y) (hy : wt_Ya y b n rt k) (hc : wt_Ctr (wt_xl X) (wt_xw X) y b n rt dd As σ (some r) σ') (hd1 : dd + 1 ≤ d) (hlen : As.length = k) (hst : As.reverse ++ st = st0) (hro : (st.map fun v => v.category).sum ≤ 8) (hK : K ≤ Km) (hd : decode cc pc = .ok (.invokestatic idx, 3))
    (kk : wt_bo rt (some r) → wt_V X K σ' (pc + 3) lv (.int r :: st)) : wt_V X K σ pc lv st0 := wt_callS h mv hy hc hd1 hlen hst hro hK hd kk
theorem wt_callSv (h : wt_Ok X cc nL own d Km) {idx : Nat} {y : MethodName} {b : ByteArray} {n k dd : Nat} {rt : Option FieldType} (As : List Value) {st0 : List Value} {σ' : wt_St} (mv : wt_MS own idx y) (hy : wt_Ya y b n rt k) (hc : wt_Ctr (wt_xl X) (wt_xw X) y b n rt dd As σ none σ') (hd1 : dd + 1 ≤ d) (hlen : As.length = k) (hst : As.reverse ++ st = st0) (hro : (st.map fun v => v.category).sum ≤ 8) (hK : K ≤ Km) (hd : decode cc pc = .ok (.invokestatic idx, 3))
    (kk : wt_V X K σ' (pc + 3) lv st) : wt_V X K σ pc lv st0 := wt_callS h mv hy hc hd1 hlen hst hro hK hd (fun _ => kk)
def wt_mask : List Bool → List (Option Value) → List (Option Value)
  | b :: bs, v :: vs => (if b then v else none) :: wt_mask bs vs
  | _, _ => []
set_option maxRecDepth 100000 in
theorem wt_mask_sub : ∀ (bs : List Bool) (lv : List (Option Value)) (j : Nat) (v : Value), (wt_mask bs lv)[j]? = some (some v) → lv[j]? = some (some v)
  | [], lv, j, v, h => by unfold wt_mask at h; cases h
  | b :: bs, [], j, v, h => by unfold wt_mask at h; cases h
  | b :: bs, u :: us, 0, v, h => by
    unfold wt_mask at h
    cases b with
    | true => exact h
    | false => cases h
  | b :: bs, u :: us, j + 1, v, h => by
    unfold wt_mask at h
    exact wt_mask_sub bs us j v h
/-- some locals are no more needed -/
theorem wt_wk (bs : List Bool) {lv' : List (Option Value)} (hm : wt_mask bs lv = lv') (k : wt_V X K σ pc lv' st) : wt_V X K σ pc lv st :=
  fun H locs ls ce sl h1 h2 hw hS hl => k H locs ls ce sl h1 h2 hw hS (hl.sub (fun j v hj => wt_mask_sub bs lv j v (by rw [hm]; exact hj)))
end WT4
theorem wt_ip {c : Prop} [Decidable c] {α : Type} {A B : Option α} {r : α} (hc : c) (h : (if c then A else B) = some r) : A = some r := by rw [if_pos hc] at h; exact h
theorem wt_in {c : Prop} [Decidable c] {α : Type} {A B : Option α} {r : α} (hc : ¬ c) (h : (if c then A else B) = some r) : B = some r := by rw [if_neg hc] at h; exact h
theorem wt_gd {c : Prop} [Decidable c] {α : Type} {A : Option α} {r : α} (h : (if c then none else A) = some r) : ¬ c ∧ A = some r := by
  by_cases hc : c
  · rw [if_pos hc] at h; cases h
  · rw [if_neg hc] at h; exact ⟨hc, h⟩
theorem wt_gp {c : Prop} [Decidable c] {α : Type} {A : Option α} {r : α} (h : (if c then A else none) = some r) : c ∧ A = some r := by
  by_cases hc : c
  · rw [if_pos hc] at h; exact ⟨hc, h⟩
  · rw [if_neg hc] at h; cases h
end WTL
