-- 07.rem.lean.txt
section WTQ0
def wt_rem (x y : Int32) : Int32 := x - x / y * y
theorem wt_irem {X : wt_X} {cc : ByteArray} {nL : Nat} {own : String} {d Km K : Nat} {σ : wt_St} {pc : Nat} {lv : List (Option Value)} {st : List Value} (h : wt_Ok X cc nL own d Km) {x y : Int32} (hd : decode cc pc = .ok (.irem, 1)) (hne : ¬ y = 0) (k : wt_V X K σ (pc + 1) lv (.int (wt_rem x y) :: st)) : wt_V X K σ pc lv (.int y :: .int x :: st) :=
  fun H locs ls ce sl h1 h2 hw hS hl => lv_irem h.1 h.2.1 hd hne (k H locs ls ce sl h1 h2 hw hS hl)
end WTQ0
-- 08.str.lean.txt
section WTQ1
section WTS
abbrev wt_y_scharAt : MethodName := ⟨"java/lang/String", "charAt", "(I)C"⟩
set_option maxRecDepth 100000 in
theorem wt_ya_scharAt : wt_Ya wt_y_scharAt prog_23_method_56_code 2 (Option.some Jvm.ClassFile.FieldType.char) 1 := ⟨⟨by decide, by decide, by decide +kernel⟩, wt_g3 189 rfl rfl, by decide⟩
theorem wt_pl_scharAt : plainName (wt_y_scharAt).cls = true := by decide +kernel
def wb08str_prog_23_method_56_code_r0 : List (List Nat) := [42, 182, 1, 236, 153, 0, 12, 42, 180, 0, 9, 27, 184, 1, 239, 172, 42, 180, 0, 9, 27, 184, 1, 242, 172] :: []
set_option maxRecDepth 100000 in
theorem wb08str_prog_23_method_56_code_c0 : wt_cs prog_23_method_56_code 0 wb08str_prog_23_method_56_code_r0 := wt_cs_of (by decide +kernel)
theorem scharAt_d0 : decode prog_23_method_56_code 0 = .ok (.aload_n 0, 1) := wt_op42 wb08str_prog_23_method_56_code_c0 0 rfl rfl
theorem scharAt_d1 : decode prog_23_method_56_code 1 = .ok (.invokevirtual 492, 3) := wt_op182 wb08str_prog_23_method_56_code_c0 1 rfl rfl rfl
theorem scharAt_d4 : decode prog_23_method_56_code 4 = .ok (.ifCond .eq 12, 3) := wt_op153 wb08str_prog_23_method_56_code_c0 4 rfl rfl rfl
theorem scharAt_d7 : decode prog_23_method_56_code 7 = .ok (.aload_n 0, 1) := wt_op42 wb08str_prog_23_method_56_code_c0 7 rfl rfl
theorem scharAt_d8 : decode prog_23_method_56_code 8 = .ok (.getfield 9, 3) := wt_op180 wb08str_prog_23_method_56_code_c0 8 rfl rfl rfl
theorem scharAt_d11 : decode prog_23_method_56_code 11 = .ok (.iload_n 1, 1) := wt_op27 wb08str_prog_23_method_56_code_c0 11 rfl rfl
theorem scharAt_d12 : decode prog_23_method_56_code 12 = .ok (.invokestatic 495, 3) := wt_op184 wb08str_prog_23_method_56_code_c0 12 rfl rfl rfl
theorem scharAt_d15 : decode prog_23_method_56_code 15 = .ok (.ireturn, 1) := wt_op172 wb08str_prog_23_method_56_code_c0 15 rfl rfl
theorem scharAt_d16 : decode prog_23_method_56_code 16 = .ok (.aload_n 0, 1) := wt_op42 wb08str_prog_23_method_56_code_c0 16 rfl rfl
theorem scharAt_d17 : decode prog_23_method_56_code 17 = .ok (.getfield 9, 3) := wt_op180 wb08str_prog_23_method_56_code_c0 17 rfl rfl rfl
theorem scharAt_d20 : decode prog_23_method_56_code 20 = .ok (.iload_n 1, 1) := wt_op27 wb08str_prog_23_method_56_code_c0 20 rfl rfl
theorem scharAt_d21 : decode prog_23_method_56_code 21 = .ok (.invokestatic 498, 3) := wt_op184 wb08str_prog_23_method_56_code_c0 21 rfl rfl rfl
theorem scharAt_d24 : decode prog_23_method_56_code 24 = .ok (.ireturn, 1) := wt_op172 wb08str_prog_23_method_56_code_c0 24 rfl rfl
abbrev wt_y_scheck : MethodName := ⟨"java/lang/String", "checkIndex", "(II)V"⟩
set_option maxRecDepth 100000 in
theorem wt_ya_scheck : wt_Ya wt_y_scheck prog_23_method_155_code 2 (Option.none : Option Jvm.ClassFile.FieldType) 2 := ⟨⟨by decide, by decide, by decide +kernel⟩, wt_g3 199 rfl rfl, by decide⟩
theorem wt_pl_scheck : plainName (wt_y_scheck).cls = true := by decide +kernel
def wb08str_prog_23_method_155_code_r0 : List (List Nat) := [26, 27, 178, 4, 29, 184, 4, 35, 87, 177] :: []
set_option maxRecDepth 100000 in
theorem wb08str_prog_23_method_155_code_c0 : wt_cs prog_23_method_155_code 0 wb08str_prog_23_method_155_code_r0 := wt_cs_of (by decide +kernel)
theorem scheck_d0 : decode prog_23_method_155_code 0 = .ok (.iload_n 0, 1) := wt_op26 wb08str_prog_23_method_155_code_c0 0 rfl rfl
theorem scheck_d1 : decode prog_23_method_155_code 1 = .ok (.iload_n 1, 1) := wt_op27 wb08str_prog_23_method_155_code_c0 1 rfl rfl
theorem scheck_d2 : decode prog_23_method_155_code 2 = .ok (.getstatic 1053, 3) := wt_op178 wb08str_prog_23_method_155_code_c0 2 rfl rfl rfl
theorem scheck_d5 : decode prog_23_method_155_code 5 = .ok (.invokestatic 1059, 3) := wt_op184 wb08str_prog_23_method_155_code_c0 5 rfl rfl rfl
theorem scheck_d8 : decode prog_23_method_155_code 8 = .ok (.pop, 1) := wt_op87 wb08str_prog_23_method_155_code_c0 8 rfl rfl
theorem scheck_d9 : decode prog_23_method_155_code 9 = .ok (.return_, 1) := wt_op177 wb08str_prog_23_method_155_code_c0 9 rfl rfl
abbrev wt_y_scoder : MethodName := ⟨"java/lang/String", "coder", "()B"⟩
set_option maxRecDepth 100000 in
theorem wt_ya_scoder : wt_Ya wt_y_scoder prog_23_method_152_code 1 (Option.some Jvm.ClassFile.FieldType.byte) 0 := ⟨⟨by decide, by decide, by decide +kernel⟩, wt_g3 183 rfl rfl, by decide⟩
theorem wt_pl_scoder : plainName (wt_y_scoder).cls = true := by decide +kernel
def wb08str_prog_23_method_152_code_r0 : List (List Nat) := [178, 0, 38, 153, 0, 10, 42, 180, 0, 15, 167, 0, 4, 4, 172] :: []
set_option maxRecDepth 100000 in
theorem wb08str_prog_23_method_152_code_c0 : wt_cs prog_23_method_152_code 0 wb08str_prog_23_method_152_code_r0 := wt_cs_of (by decide +kernel)
theorem scoder_d0 : decode prog_23_method_152_code 0 = .ok (.getstatic 38, 3) := wt_op178 wb08str_prog_23_method_152_code_c0 0 rfl rfl rfl
theorem scoder_d3 : decode prog_23_method_152_code 3 = .ok (.ifCond .eq 10, 3) := wt_op153 wb08str_prog_23_method_152_code_c0 3 rfl rfl rfl
theorem scoder_d6 : decode prog_23_method_152_code 6 = .ok (.aload_n 0, 1) := wt_op42 wb08str_prog_23_method_152_code_c0 6 rfl rfl
theorem scoder_d7 : decode prog_23_method_152_code 7 = .ok (.getfield 15, 3) := wt_op180 wb08str_prog_23_method_152_code_c0 7 rfl rfl rfl
theorem scoder_d10 : decode prog_23_method_152_code 10 = .ok (.goto 4, 3) := wt_op167 wb08str_prog_23_method_152_code_c0 10 rfl rfl rfl
theorem scoder_d13 : decode prog_23_method_152_code 13 = .ok (.iconst 1, 1) := wt_op4 wb08str_prog_23_method_152_code_c0 13 rfl rfl
theorem scoder_d14 : decode prog_23_method_152_code 14 = .ok (.ireturn, 1) := wt_op172 wb08str_prog_23_method_152_code_c0 14 rfl rfl
abbrev wt_y_slatin : MethodName := ⟨"java/lang/String", "isLatin1", "()Z"⟩
set_option maxRecDepth 100000 in
theorem wt_ya_slatin : wt_Ya wt_y_slatin prog_23_method_154_code 1 (Option.some Jvm.ClassFile.FieldType.boolean) 0 := ⟨⟨by decide, by decide, by decide +kernel⟩, wt_g3 193 rfl rfl, by decide⟩
theorem wt_pl_slatin : plainName (wt_y_slatin).cls = true := by decide +kernel
def wb08str_prog_23_method_154_code_r0 : List (List Nat) := [178, 0, 38, 153, 0, 14, 42, 180, 0, 15, 154, 0, 7, 4, 167, 0, 4, 3, 172] :: []
set_option maxRecDepth 100000 in
theorem wb08str_prog_23_method_154_code_c0 : wt_cs prog_23_method_154_code 0 wb08str_prog_23_method_154_code_r0 := wt_cs_of (by decide +kernel)
theorem slatin_d0 : decode prog_23_method_154_code 0 = .ok (.getstatic 38, 3) := wt_op178 wb08str_prog_23_method_154_code_c0 0 rfl rfl rfl
theorem slatin_d3 : decode prog_23_method_154_code 3 = .ok (.ifCond .eq 14, 3) := wt_op153 wb08str_prog_23_method_154_code_c0 3 rfl rfl rfl
theorem slatin_d6 : decode prog_23_method_154_code 6 = .ok (.aload_n 0, 1) := wt_op42 wb08str_prog_23_method_154_code_c0 6 rfl rfl
theorem slatin_d7 : decode prog_23_method_154_code 7 = .ok (.getfield 15, 3) := wt_op180 wb08str_prog_23_method_154_code_c0 7 rfl rfl rfl
theorem slatin_d10 : decode prog_23_method_154_code 10 = .ok (.ifCond .ne 7, 3) := wt_op154 wb08str_prog_23_method_154_code_c0 10 rfl rfl rfl
theorem slatin_d13 : decode prog_23_method_154_code 13 = .ok (.iconst 1, 1) := wt_op4 wb08str_prog_23_method_154_code_c0 13 rfl rfl
theorem slatin_d14 : decode prog_23_method_154_code 14 = .ok (.goto 4, 3) := wt_op167 wb08str_prog_23_method_154_code_c0 14 rfl rfl rfl
theorem slatin_d17 : decode prog_23_method_154_code 17 = .ok (.iconst 0, 1) := wt_op3 wb08str_prog_23_method_154_code_c0 17 rfl rfl
theorem slatin_d18 : decode prog_23_method_154_code 18 = .ok (.ireturn, 1) := wt_op172 wb08str_prog_23_method_154_code_c0 18 rfl rfl
abbrev wt_y_slength : MethodName := ⟨"java/lang/String", "length", "()I"⟩
set_option maxRecDepth 100000 in
theorem wt_ya_slength : wt_Ya wt_y_slength prog_23_method_54_code 1 (Option.some Jvm.ClassFile.FieldType.int) 0 := ⟨⟨by decide, by decide, by decide +kernel⟩, wt_g3 179 rfl rfl, by decide⟩
theorem wt_pl_slength : plainName (wt_y_slength).cls = true := by decide +kernel
def wb08str_prog_23_method_54_code_r0 : List (List Nat) := [42, 180, 0, 9, 190, 42, 182, 1, 79, 122, 172] :: []
set_option maxRecDepth 100000 in
theorem wb08str_prog_23_method_54_code_c0 : wt_cs prog_23_method_54_code 0 wb08str_prog_23_method_54_code_r0 := wt_cs_of (by decide +kernel)
theorem slength_d0 : decode prog_23_method_54_code 0 = .ok (.aload_n 0, 1) := wt_op42 wb08str_prog_23_method_54_code_c0 0 rfl rfl
theorem slength_d1 : decode prog_23_method_54_code 1 = .ok (.getfield 9, 3) := wt_op180 wb08str_prog_23_method_54_code_c0 1 rfl rfl rfl
theorem slength_d4 : decode prog_23_method_54_code 4 = .ok (.arraylength, 1) := wt_op190 wb08str_prog_23_method_54_code_c0 4 rfl rfl
theorem slength_d5 : decode prog_23_method_54_code 5 = .ok (.aload_n 0, 1) := wt_op42 wb08str_prog_23_method_54_code_c0 5 rfl rfl
theorem slength_d6 : decode prog_23_method_54_code 6 = .ok (.invokevirtual 335, 3) := wt_op182 wb08str_prog_23_method_54_code_c0 6 rfl rfl rfl
theorem slength_d9 : decode prog_23_method_54_code 9 = .ok (.ishr, 1) := wt_op122 wb08str_prog_23_method_54_code_c0 9 rfl rfl
theorem slength_d10 : decode prog_23_method_54_code 10 = .ok (.ireturn, 1) := wt_op172 wb08str_prog_23_method_54_code_c0 10 rfl rfl
abbrev wt_y_lcharAt : MethodName := ⟨"java/lang/StringLatin1", "charAt", "([BI)C"⟩
set_option maxRecDepth 100000 in
theorem wt_ya_lcharAt : wt_Ya wt_y_lcharAt prog_24_method_2_code 2 (Option.some Jvm.ClassFile.FieldType.char) 2 := ⟨⟨by decide, by decide, by decide +kernel⟩, wt_g3 196 rfl rfl, by decide⟩
theorem wt_pl_lcharAt : plainName (wt_y_lcharAt).cls = true := by decide +kernel
def wb08str_prog_24_method_2_code_r0 : List (List Nat) := [27, 42, 190, 184, 0, 9, 42, 27, 51, 17, 0, 255, 126, 146, 172] :: []
set_option maxRecDepth 100000 in
theorem wb08str_prog_24_method_2_code_c0 : wt_cs prog_24_method_2_code 0 wb08str_prog_24_method_2_code_r0 := wt_cs_of (by decide +kernel)
theorem lcharAt_d0 : decode prog_24_method_2_code 0 = .ok (.iload_n 1, 1) := wt_op27 wb08str_prog_24_method_2_code_c0 0 rfl rfl
theorem lcharAt_d1 : decode prog_24_method_2_code 1 = .ok (.aload_n 0, 1) := wt_op42 wb08str_prog_24_method_2_code_c0 1 rfl rfl
theorem lcharAt_d2 : decode prog_24_method_2_code 2 = .ok (.arraylength, 1) := wt_op190 wb08str_prog_24_method_2_code_c0 2 rfl rfl
theorem lcharAt_d3 : decode prog_24_method_2_code 3 = .ok (.invokestatic 9, 3) := wt_op184 wb08str_prog_24_method_2_code_c0 3 rfl rfl rfl
theorem lcharAt_d6 : decode prog_24_method_2_code 6 = .ok (.aload_n 0, 1) := wt_op42 wb08str_prog_24_method_2_code_c0 6 rfl rfl
theorem lcharAt_d7 : decode prog_24_method_2_code 7 = .ok (.iload_n 1, 1) := wt_op27 wb08str_prog_24_method_2_code_c0 7 rfl rfl
theorem lcharAt_d8 : decode prog_24_method_2_code 8 = .ok (.baload, 1) := wt_op51 wb08str_prog_24_method_2_code_c0 8 rfl rfl
theorem lcharAt_d9 : decode prog_24_method_2_code 9 = .ok (.sipush 255, 3) := wt_op17 wb08str_prog_24_method_2_code_c0 9 rfl rfl rfl
theorem lcharAt_d12 : decode prog_24_method_2_code 12 = .ok (.iand, 1) := wt_op126 wb08str_prog_24_method_2_code_c0 12 rfl rfl
theorem lcharAt_d13 : decode prog_24_method_2_code 13 = .ok (.i2c, 1) := wt_op146 wb08str_prog_24_method_2_code_c0 13 rfl rfl
theorem lcharAt_d14 : decode prog_24_method_2_code 14 = .ok (.ireturn, 1) := wt_op172 wb08str_prog_24_method_2_code_c0 14 rfl rfl
abbrev wt_y_pcheck : MethodName := ⟨"jdk/internal/util/Preconditions", "checkIndex", "(IILjava/util/function/BiFunction;)I"⟩
set_option maxRecDepth 100000 in
theorem wt_ya_pcheck : wt_Ya wt_y_pcheck prog_30_method_11_code 3 (Option.some Jvm.ClassFile.FieldType.int) 3 := ⟨⟨by decide, by decide, by decide +kernel⟩, wt_g3 204 rfl rfl, by decide⟩
theorem wt_pl_pcheck : plainName (wt_y_pcheck).cls = true := by decide +kernel
def wb08str_prog_30_method_11_code_r0 : List (List Nat) := [26, 155, 0, 8, 26, 27, 161, 0, 10, 44, 26, 27, 184, 0, 95, 191, 26, 172] :: []
set_option maxRecDepth 100000 in
theorem wb08str_prog_30_method_11_code_c0 : wt_cs prog_30_method_11_code 0 wb08str_prog_30_method_11_code_r0 := wt_cs_of (by decide +kernel)
theorem pcheck_d0 : decode prog_30_method_11_code 0 = .ok (.iload_n 0, 1) := wt_op26 wb08str_prog_30_method_11_code_c0 0 rfl rfl
theorem pcheck_d1 : decode prog_30_method_11_code 1 = .ok (.ifCond .lt 8, 3) := wt_op155 wb08str_prog_30_method_11_code_c0 1 rfl rfl rfl
theorem pcheck_d4 : decode prog_30_method_11_code 4 = .ok (.iload_n 0, 1) := wt_op26 wb08str_prog_30_method_11_code_c0 4 rfl rfl
theorem pcheck_d5 : decode prog_30_method_11_code 5 = .ok (.iload_n 1, 1) := wt_op27 wb08str_prog_30_method_11_code_c0 5 rfl rfl
theorem pcheck_d6 : decode prog_30_method_11_code 6 = .ok (.if_icmp .lt 10, 3) := wt_op161 wb08str_prog_30_method_11_code_c0 6 rfl rfl rfl
theorem pcheck_d9 : decode prog_30_method_11_code 9 = .ok (.aload_n 2, 1) := wt_op44 wb08str_prog_30_method_11_code_c0 9 rfl rfl
theorem pcheck_d10 : decode prog_30_method_11_code 10 = .ok (.iload_n 0, 1) := wt_op26 wb08str_prog_30_method_11_code_c0 10 rfl rfl
theorem pcheck_d11 : decode prog_30_method_11_code 11 = .ok (.iload_n 1, 1) := wt_op27 wb08str_prog_30_method_11_code_c0 11 rfl rfl
theorem pcheck_d12 : decode prog_30_method_11_code 12 = .ok (.invokestatic 95, 3) := wt_op184 wb08str_prog_30_method_11_code_c0 12 rfl rfl rfl
theorem pcheck_d15 : decode prog_30_method_11_code 15 = .ok (.athrow, 1) := wt_op191 wb08str_prog_30_method_11_code_c0 15 rfl rfl
theorem pcheck_d16 : decode prog_30_method_11_code 16 = .ok (.iload_n 0, 1) := wt_op26 wb08str_prog_30_method_11_code_c0 16 rfl rfl
theorem pcheck_d17 : decode prog_30_method_11_code 17 = .ok (.ireturn, 1) := wt_op172 wb08str_prog_30_method_11_code_c0 17 rfl rfl
set_option maxRecDepth 100000 in
theorem wt_lm_js_1059 : wt_MS "java/lang/String" 1059 wt_y_pcheck := ⟨Or.inl (wt_g3 202 rfl rfl), wt_g3 203 rfl rfl, wt_g1 19 rfl rfl⟩
set_option maxRecDepth 100000 in
theorem wt_lm_js_335 : wt_MV "java/lang/String" 335 wt_y_scoder := ⟨Or.inl (wt_g3 180 rfl rfl), wt_g3 181 rfl rfl, wt_g3 182 rfl rfl, wt_g1 17 rfl rfl⟩
set_option maxRecDepth 100000 in
theorem wt_lm_js_492 : wt_MV "java/lang/String" 492 wt_y_slatin := ⟨Or.inl (wt_g3 190 rfl rfl), wt_g3 191 rfl rfl, wt_g3 192 rfl rfl, wt_g1 17 rfl rfl⟩
set_option maxRecDepth 100000 in
theorem wt_lm_js_495 : wt_MS "java/lang/String" 495 wt_y_lcharAt := ⟨Or.inl (wt_g3 194 rfl rfl), wt_g3 195 rfl rfl, wt_g1 18 rfl rfl⟩
set_option maxRecDepth 100000 in
theorem wt_lm_jt_9 : wt_MS "java/lang/StringLatin1" 9 wt_y_scheck := ⟨Or.inl (wt_g3 197 rfl rfl), wt_g3 198 rfl rfl, wt_g1 17 rfl rfl⟩
set_option maxRecDepth 100000 in
theorem wt_lm_tp_59 : wt_MV "WornType$Tape" 59 wt_y_slength := ⟨Or.inl (wt_g3 176 rfl rfl), wt_g3 177 rfl rfl, wt_g3 178 rfl rfl, wt_g1 17 rfl rfl⟩
set_option maxRecDepth 100000 in
theorem wt_lm_tp_64 : wt_MV "WornType$Tape" 64 wt_y_scharAt := ⟨Or.inl (wt_g3 186 rfl rfl), wt_g3 187 rfl rfl, wt_g3 188 rfl rfl, wt_g1 17 rfl rfl⟩
set_option maxRecDepth 100000 in
theorem wt_js_f1053 : ((Jvm.Cond.fieldLink "java/lang/String" (1053 : Nat) "jdk/internal/util/Preconditions" "SIOOBE_FORMATTER" "Ljava/util/function/BiFunction;")) ∈ wt_GT := wt_g3 200 rfl rfl
set_option maxRecDepth 100000 in
theorem wt_js_f15 : ((Jvm.Cond.fieldLink "java/lang/String" (15 : Nat) "java/lang/String" "coder" "B")) ∈ wt_GT := wt_g9 62 rfl rfl
set_option maxRecDepth 100000 in
theorem wt_js_f38 : ((Jvm.Cond.fieldLink "java/lang/String" (38 : Nat) "java/lang/String" "COMPACT_STRINGS" "Z")) ∈ wt_GT := wt_g3 184 rfl rfl
set_option maxRecDepth 100000 in
theorem wt_js_f9 : ((Jvm.Cond.fieldLink "java/lang/String" (9 : Nat) "java/lang/String" "value" "[B")) ∈ wt_GT := wt_g9 61 rfl rfl
section WS1
variable {X : wt_X} {cc : ByteArray} {nL : Nat} {own : String} {d Km K : Nat} {σ : wt_St} {pc : Nat} {lv : List (Option Value)} {st : List Value}
abbrev wt_At (X : wt_X) (S : wt_SP) : Prop := S (wt_A (wt_xw X) (wt_xs X).heap.size) (wt_xs X) (wt_xs X).heap
theorem wt_fxOf (h : wt_Ok X cc nL own d Km) : wt_At X wt_FX := h.2.2.2.2.2.2.2.2.2.2.2.2.2
theorem wt_getsZ (h : wt_Ok X cc nL own d Km) {C n d0 : String} {v : Value} {index : Nat} (hZ : wt_At X (fun A U H => va_Z C n d0 v A U H)) (link : Cond.fieldLink own index C n d0 ∈ wt_GT) (hd : decode cc pc = .ok (.getstatic index, 3)) (k : wt_V X K σ (pc + 3) lv (v :: st)) : wt_V X K σ pc lv st :=
  fun H locs ls ce sl h1 h2 hw hS hl => va_gets h.1 h.2.1 hZ hS h.2.2.2.2.1 (h.2.2.2.2.2.1 _ link) (fun _ hx => hx) hd (k H locs ls ce sl h1 h2 hw hS hl)
theorem wt_getOF (h : wt_Ok X cc nL own d Km) {C n d0 : String} {v : Value} {q index : Nat} (hE : wt_At X (fun A U H => va_OF C n d0 v q A U H)) (link : Cond.fieldLink own index C n d0 ∈ wt_GT) (hd : decode cc pc = .ok (.getfield index, 3)) (k : wt_V X K σ (pc + 3) lv (v :: st)) : wt_V X K σ pc lv (.ref q :: st) :=
  fun H locs ls ce sl h1 h2 hw hS hl => vk_getf h.1 h.2.1 hE hS h.2.2.2.2.1 (h.2.2.2.2.2.1 _ link) (fun _ hx => hx) hd (k H locs ls ce sl h1 h2 hw hS hl)
theorem wt_alenT (h : wt_Ok X cc nL own d Km) {v N : Nat} {f : Nat → Value} (hT : wt_At X (fun A U H => va_T .byte v N f A U H)) (hd : decode cc pc = .ok (.arraylength, 1)) (k : wt_V X K σ (pc + 1) lv (.int (nI N) :: st)) : wt_V X K σ pc lv (.ref v :: st) :=
  fun H locs ls ce sl h1 h2 hw hS hl => va_tlen h.1 h.2.1 hT hS rfl hd (k H locs ls ce sl h1 h2 hw hS hl)
theorem wt_bald (h : wt_Ok X cc nL own d Km) {v N : Nat} {f : Nat → Value} {i : Int32} (hT : wt_At X (fun A U H => va_T .byte v N f A U H)) (hin : vp_in i N) (hd : decode cc pc = .ok (.baload, 1)) (k : wt_V X K σ (pc + 1) lv (f i.toNatClampNeg :: st)) : wt_V X K σ pc lv (.int i :: .ref v :: st) :=
  fun H locs ls ce sl h1 h2 hw hS hl => va_tb h.1 h.2.1 hT hS hin rfl hd (k H locs ls ce sl h1 h2 hw hS hl)
def wt_c16 (x : Int32) : Int32 := (x.toUInt32 % 65536).toInt32
theorem wt_i2c (h : wt_Ok X cc nL own d Km) {x : Int32} (hd : decode cc pc = .ok (.i2c, 1)) (k : wt_V X K σ (pc + 1) lv (.int (wt_c16 x) :: st)) : wt_V X K σ pc lv (.int x :: st) :=
  fun H locs ls ce sl h1 h2 hw hS hl => lv_i2c h.1 h.2.1 hd rfl (k H locs ls ce sl h1 h2 hw hS hl)
theorem wt_nret (h : wt_Ok X cc nL own d Km) {x : Int32} {ty : FieldType} (hn : narrow ty (.int x) = .int x) (hnb : ty ≠ .boolean) (hR : wt_Rt X (some ty) (some x) σ) (hd : decode cc pc = .ok (.ireturn, 1)) : wt_V X 0 σ pc lv [.int x] := by
  intro H locs ls ce sl h1 h2 hw hS hl
  have e1 : ce = 0 := by omega
  have e2 : sl = 0 := by omega
  subst e1; subst e2
  obtain ⟨hr, hQ⟩ := hR
  show W _ _ _ _ _ _ _ _ _ _ _ _ _ _ (wt_xQ X) _
  rw [hQ]
  exact W.zret h.1 h.2.1 hr hn (fun t ht hW => ⟨⟨rfl, (fun z => absurd (Option.some.inj z) hnb), by rw [ht]; exact hw⟩, hS.F ht⟩) hS.2.2 hd h.2.2.2.2.2.2.2.2.2.2.2.2.1
/-- a call on an object that lies outside the world -/
theorem wt_callQ (h : wt_Ok X cc nL own d Km) {S : wt_SP} (hSx : wt_Fx S) (hS0 : wt_At X S) {idx q : Nat} {y : MethodName} {b : ByteArray} {n k dd : Nat} {rt : Option FieldType} (As : List Value) {st0 : List Value} {r : Int32} {σ' : wt_St} (hO : wt_At X (fun A U H => va_O y.cls q A U H)) (mv : wt_MV own idx y) (hy : wt_Ya y b n rt k) (hc : wt_CtrS S (wt_xl X) (wt_xw X) y b n rt dd (.ref q :: As) σ (some r) σ') (hd1 : dd + 1 ≤ d) (hlen : As.length = k) (hst : As.reverse ++ .ref q :: st = st0) (hro : (st.map fun v => v.category).sum ≤ 8) (hK : K ≤ Km) (hd : decode cc pc = .ok (.invokevirtual idx, 3))
    (kk : wt_bo rt (some r) → wt_V X K σ' (pc + 3) lv (.int r :: st)) : wt_V X K σ pc lv st0 := by
  intro H locs ls ce sl h1 h2 hw hS hl
  obtain ⟨hlink, hin, hsel, hini⟩ := mv
  obtain ⟨hx, hb, hml, hn, hown, hts, hKK, hN, r1, r2, r3, r4, hlk, hFX⟩ := id h
  have hrecv : ∃ cell : Cell, H[q]? = some cell ∧ cell.vm.isStatics = false ∧ (wt_xs X).vm.findClass y.cls = some cell.cls := by
    obtain ⟨cell, g1, g2, g3, -⟩ := va_O.kept hO hS.2.1
    exact ⟨cell, g1, g2, g3⟩
  have hpv : PreV (wt_xs X) H y.cls q (wt_PcS (wt_xw X) S (.ref q :: As) σ H.size) As := ⟨wt_blind _ hSx _ _ _, hrecv, fun U hU hW => wt_pre hSx hKK hN hFX hS0 hS hw hU hW⟩
  have hfix : CallFix (wt_xp X) (wt_xm X) (wt_xc X) cc nL (wt_xs X) (wt_xa X) wt_GT own := ⟨hx, hb, hml, hown, hts⟩
  have hsz : ls.size = nL := by rw [hl.1, hn]
  have hroo : (wt_rm dd).frames + 1 ≤ (wt_xR X).frames ∧ 8 + (n + 11) + (wt_rm dd).locals ≤ (wt_xR X).locals := by
    have := hy.2.2
    exact ⟨by show dd + 1 ≤ _; omega, by show 8 + (n + 11) + 64 * dd ≤ _; omega⟩
  rcases hlink with hlink | ⟨host, hlink⟩
  · exact wt_after h1 h2 (va_runV hfix (hc H.size) ⟨callB_of k hts (wt_goodG h hy.2.1) rfl rfl rfl (hts _ hini) (hts _ hlink) hy.1 hroo, hts _ hin, hts _ hsel⟩ hpv rfl hlen hsz hst.symm (lv_room hro) hd ⟨by omega, by omega⟩) hS hl kk
  · exact wt_after h1 h2 (va_runVN hfix (hc H.size) ⟨va_cnB (host := host) k hts (wt_goodG h hy.2.1) rfl rfl rfl (hN _ hlink) (hts _ hini) hy.1 hroo, hts _ hin, hts _ hsel⟩ hpv rfl hlen hsz hst.symm (lv_room hro) hd ⟨by omega, by omega⟩) hS hl kk
end WS1
abbrev wt_At0 (X : wt_X) (S : wt_SP) : Prop := wt_At X S
set_option maxRecDepth 100000 in
set_option maxHeartbeats 4000000 in
theorem wt_j_slatin {l : Launch} {w : wt_E} {q : Nat} {bs : List Int32} {σ : wt_St} : wt_CtrS (wt_Str q bs) l w wt_y_slatin prog_23_method_154_code 1 (Option.some Jvm.ClassFile.FieldType.boolean) 0 [.ref q] σ (some 1) σ := by
  refine wt_ctrS _ wt_pl_slatin rfl (Nat.le_of_ble_eq_true rfl) [some (.ref q)] rfl ?_
  intro X hXl hXw hE hR hQ
  subst hXl
  subst hXw
  have hE : wt_Ok X prog_23_method_154_code 1 "java/lang/String" 0 0 := hE
  refine wt_getsZ hE (wt_fxOf hE).2.2.1 wt_js_f38 slatin_d0 ?_
  refine wt_if_eq hE 17 slatin_d3 rfl (fun c => absurd c (by decide)) (fun _ => ?_)
  refine wt_aload_n hE slatin_d6 rfl ?_
  refine wt_getOF hE hQ.2.1 wt_js_f15 slatin_d7 ?_
  refine wt_if_ne hE 17 slatin_d10 rfl (fun c => absurd rfl c) (fun _ => ?_)
  refine wt_iconst hE 1 slatin_d13 (by decide) ?_
  refine wt_goto hE 18 slatin_d14 rfl ?_
  exact wt_zret hE (Or.inr rfl) hR slatin_d18
set_option maxRecDepth 100000 in
set_option maxHeartbeats 4000000 in
theorem wt_j_scoder {l : Launch} {w : wt_E} {q : Nat} {bs : List Int32} {σ : wt_St} : wt_CtrS (wt_Str q bs) l w wt_y_scoder prog_23_method_152_code 1 (Option.some Jvm.ClassFile.FieldType.byte) 0 [.ref q] σ (some 0) σ := by
  refine wt_ctrS _ wt_pl_scoder rfl (Nat.le_of_ble_eq_true rfl) [some (.ref q)] rfl ?_
  intro X hXl hXw hE hR hQ
  subst hXl
  subst hXw
  have hE : wt_Ok X prog_23_method_152_code 1 "java/lang/String" 0 0 := hE
  refine wt_getsZ hE (wt_fxOf hE).2.2.1 wt_js_f38 scoder_d0 ?_
  refine wt_if_eq hE 13 scoder_d3 rfl (fun c => absurd c (by decide)) (fun _ => ?_)
  refine wt_aload_n hE scoder_d6 rfl ?_
  refine wt_getOF hE hQ.2.1 wt_js_f15 scoder_d7 ?_
  refine wt_goto hE 14 scoder_d10 rfl ?_
  exact wt_nret hE rfl (by decide) hR scoder_d14
set_option maxRecDepth 100000 in
set_option maxHeartbeats 4000000 in
theorem wt_j_slength {l : Launch} {w : wt_E} {q : Nat} {bs : List Int32} (hb : bs.length < 1000) {σ : wt_St} : wt_CtrS (wt_Str q bs) l w wt_y_slength prog_23_method_54_code 1 (Option.some Jvm.ClassFile.FieldType.int) 1 [.ref q] σ (some (nI bs.length)) σ := by
  refine wt_ctrS _ wt_pl_slength rfl (Nat.le_of_ble_eq_true rfl) [some (.ref q)] rfl ?_
  intro X hXl hXw hE hR hQ
  subst hXl
  subst hXw
  have hE : wt_Ok X prog_23_method_54_code 1 "java/lang/String" 1 0 := hE
  obtain ⟨hO, hC, v, hV, hT⟩ := id hQ
  refine wt_aload_n hE slength_d0 rfl ?_
  refine wt_getOF hE hV wt_js_f9 slength_d1 ?_
  refine wt_alenT hE hT slength_d4 ?_
  refine wt_aload_n hE slength_d5 rfl ?_
  refine wt_callQ hE (wt_Str_fx q bs) hQ [] hO wt_lm_js_335 wt_ya_scoder wt_j_scoder (by omega) rfl rfl (Nat.le_of_ble_eq_true rfl) (Nat.zero_le _) slength_d6 (fun _ => ?_)
  refine wt_ishr hE slength_d9 ?_
  have e : nI bs.length >>> ((0 : Int32) &&& 31) = nI bs.length := by
    have h := pk_shrN (n := bs.length) (by omega) ((0 : Int32) &&& 31) 0 (by decide)
    rw [h]
    simp
  rw [e]
  exact wt_iret hE hR slength_d10
set_option maxRecDepth 100000 in
set_option maxHeartbeats 4000000 in
theorem wt_j_pcheckn {l : Launch} {w : wt_E} {z : Nat} {i n : Int32} (h0 : ¬ i < 0) (h1 : i < n) {σ : wt_St} : wt_CtrS wt_S0 l w wt_y_pcheck prog_30_method_11_code 3 (Option.some Jvm.ClassFile.FieldType.int) 0 [.int i, .int n, .null] σ (some i) σ := by
  refine wt_ctrS _ wt_pl_pcheck rfl (Nat.le_of_ble_eq_true rfl) [some (.int i), some (.int n), some (.null)] rfl ?_
  intro X hXl hXw hE hR hQ
  subst hXl
  subst hXw
  have hE : wt_Ok X prog_30_method_11_code 3 "jdk/internal/util/Preconditions" 0 0 := hE
  refine wt_iload_n hE pcheck_d0 rfl ?_
  refine wt_if_lt hE 9 pcheck_d1 rfl (fun c => absurd c h0) (fun _ => ?_)
  refine wt_iload_n hE pcheck_d4 rfl ?_
  refine wt_iload_n hE pcheck_d5 rfl ?_
  refine wt_icmp_lt hE 16 pcheck_d6 rfl (fun _ => ?_) (fun c => absurd h1 c)
  refine wt_iload_n hE pcheck_d16 rfl ?_
  exact wt_iret hE hR pcheck_d17
set_option maxRecDepth 100000 in
set_option maxHeartbeats 4000000 in
theorem wt_j_pcheckr {l : Launch} {w : wt_E} {z : Nat} {i n : Int32} (h0 : ¬ i < 0) (h1 : i < n) {σ : wt_St} : wt_CtrS wt_S0 l w wt_y_pcheck prog_30_method_11_code 3 (Option.some Jvm.ClassFile.FieldType.int) 0 [.int i, .int n, .ref z] σ (some i) σ := by
  refine wt_ctrS _ wt_pl_pcheck rfl (Nat.le_of_ble_eq_true rfl) [some (.int i), some (.int n), some (.ref z)] rfl ?_
  intro X hXl hXw hE hR hQ
  subst hXl
  subst hXw
  have hE : wt_Ok X prog_30_method_11_code 3 "jdk/internal/util/Preconditions" 0 0 := hE
  refine wt_iload_n hE pcheck_d0 rfl ?_
  refine wt_if_lt hE 9 pcheck_d1 rfl (fun c => absurd c h0) (fun _ => ?_)
  refine wt_iload_n hE pcheck_d4 rfl ?_
  refine wt_iload_n hE pcheck_d5 rfl ?_
  refine wt_icmp_lt hE 16 pcheck_d6 rfl (fun _ => ?_) (fun c => absurd h1 c)
  refine wt_iload_n hE pcheck_d16 rfl ?_
  exact wt_iret hE hR pcheck_d17
set_option maxRecDepth 100000 in
set_option maxHeartbeats 4000000 in
theorem wt_j_scheck {l : Launch} {w : wt_E} {i n : Int32} (h0 : ¬ i < 0) (h1 : i < n) {σ : wt_St} : wt_CtrS wt_S0 l w wt_y_scheck prog_23_method_155_code 2 (Option.none : Option Jvm.ClassFile.FieldType) 1 [.int i, .int n] σ none σ := by
  refine wt_ctrS _ wt_pl_scheck rfl (Nat.le_of_ble_eq_true rfl) [some (.int i), some (.int n)] rfl ?_
  intro X hXl hXw hE hR hQ
  subst hXl
  subst hXw
  have hE : wt_Ok X prog_23_method_155_code 2 "java/lang/String" 1 0 := hE
  refine wt_iload_n hE scheck_d0 rfl ?_
  refine wt_iload_n hE scheck_d1 rfl ?_
  rcases (wt_fxOf hE).2.2.2.1 with hz | ⟨z, hz⟩
  · refine wt_getsZ hE hz wt_js_f1053 scheck_d2 ?_
    refine wt_callSi hE [.int i, .int n, .null] wt_lm_js_1059 wt_ya_pcheck (wt_j_pcheckn (z := 0) h0 h1) (by omega) rfl rfl (Nat.le_of_ble_eq_true rfl) (Nat.zero_le _) scheck_d5 (fun _ => ?_)
    refine wt_pop hE scheck_d8 rfl ?_
    exact wt_vret hE hR scheck_d9
  · refine wt_getsZ hE hz wt_js_f1053 scheck_d2 ?_
    refine wt_callSi hE [.int i, .int n, .ref z] wt_lm_js_1059 wt_ya_pcheck (wt_j_pcheckr (z := z) h0 h1) (by omega) rfl rfl (Nat.le_of_ble_eq_true rfl) (Nat.zero_le _) scheck_d5 (fun _ => ?_)
    refine wt_pop hE scheck_d8 rfl ?_
    exact wt_vret hE hR scheck_d9
def wt_ch (bs : List Int32) (i : Int32) : Int32 := wt_c16 (bs.getD i.toNatClampNeg 0 &&& 255)
set_option maxRecDepth 100000 in
set_option maxHeartbeats 4000000 in
theorem wt_j_lcharAt {l : Launch} {w : wt_E} {v : Nat} {bs : List Int32} {i : Int32} (h0 : ¬ i < 0) (h1 : i < nI bs.length) (hin : vp_in i bs.length) {σ : wt_St} : wt_CtrS (fun A U H => va_T .byte v bs.length (fun j => .int (bs.getD j 0)) A U H) l w wt_y_lcharAt prog_24_method_2_code 2 (Option.some Jvm.ClassFile.FieldType.char) 2 [.ref v, .int i] σ (some (wt_ch bs i)) σ := by
  refine wt_ctrS _ wt_pl_lcharAt rfl (Nat.le_of_ble_eq_true rfl) [some (.ref v), some (.int i)] rfl ?_
  intro X hXl hXw hE hR hQ
  subst hXl
  subst hXw
  have hE : wt_Ok X prog_24_method_2_code 2 "java/lang/StringLatin1" 2 0 := hE
  refine wt_iload_n hE lcharAt_d0 rfl ?_
  refine wt_aload_n hE lcharAt_d1 rfl ?_
  refine wt_alenT hE hQ lcharAt_d2 ?_
  refine wt_callSv hE [.int i, .int (nI bs.length)] wt_lm_jt_9 wt_ya_scheck (wt_j_scheck h0 h1) (by omega) rfl rfl (Nat.le_of_ble_eq_true rfl) (Nat.zero_le _) lcharAt_d3 ?_
  refine wt_aload_n hE lcharAt_d6 rfl ?_
  refine wt_iload_n hE lcharAt_d7 rfl ?_
  refine wt_bald hE hQ hin lcharAt_d8 ?_
  refine wt_sipush hE 255 lcharAt_d9 (by decide) ?_
  refine wt_iand hE lcharAt_d12 ?_
  refine wt_i2c hE lcharAt_d13 ?_
  exact wt_nret hE (pk_nc _) (by decide) hR lcharAt_d14
set_option maxRecDepth 100000 in
set_option maxHeartbeats 4000000 in
theorem wt_j_scharAt {l : Launch} {w : wt_E} {q : Nat} {bs : List Int32} {i : Int32} (h0 : ¬ i < 0) (h1 : i < nI bs.length) (hin : vp_in i bs.length) {σ : wt_St} : wt_CtrS (wt_Str q bs) l w wt_y_scharAt prog_23_method_56_code 2 (Option.some Jvm.ClassFile.FieldType.char) 3 [.ref q, .int i] σ (some (wt_ch bs i)) σ := by
  refine wt_ctrS _ wt_pl_scharAt rfl (Nat.le_of_ble_eq_true rfl) [some (.ref q), some (.int i)] rfl ?_
  intro X hXl hXw hE hR hQ
  subst hXl
  subst hXw
  have hE : wt_Ok X prog_23_method_56_code 2 "java/lang/String" 3 0 := hE
  obtain ⟨hO, hC, v, hV, hT⟩ := id hQ
  refine wt_aload_n hE scharAt_d0 rfl ?_
  refine wt_callQ hE (wt_Str_fx q bs) hQ [] hO wt_lm_js_492 wt_ya_slatin wt_j_slatin (by omega) rfl rfl (Nat.le_of_ble_eq_true rfl) (Nat.zero_le _) scharAt_d1 (fun _ => ?_)
  refine wt_if_eq hE 16 scharAt_d4 rfl (fun c => absurd c (by decide)) (fun _ => ?_)
  refine wt_aload_n hE scharAt_d7 rfl ?_
  refine wt_getOF hE hV wt_js_f9 scharAt_d8 ?_
  refine wt_iload_n hE scharAt_d11 rfl ?_
  refine wt_callSS (As := [.ref v, .int i]) (r := some _) hE (wt_T_fx v bs) hT wt_lm_js_495 wt_ya_lcharAt (wt_j_lcharAt h0 h1 hin) (by omega) rfl rfl (Nat.le_of_ble_eq_true rfl) (Nat.zero_le _) scharAt_d12 (fun _ => ?_)
  exact wt_nret hE (pk_nc _) (by decide) hR scharAt_d15
end WTS
end WTQ1
-- 09.ldc.lean.txt
section WTQ2
theorem wt_ldcS {X : wt_X} {cc : ByteArray} {nL : Nat} {own : String} {d Km K : Nat} {σ : wt_St} {pc : Nat} {lv : List (Option Value)} {st : List Value} (h : wt_Ok X cc nL own d Km) {tx : String} {index q : Nat} (hZ : vk_R own index tx q (wt_xs X)) (hd : decode cc pc = .ok (.ldc index, 2)) (k : wt_V X K σ (pc + 2) lv (.ref q :: st)) : wt_V X K σ pc lv st :=
  fun H locs ls ce sl h1 h2 hw hS hl => va_ldcS h.1 h.2.1 h.2.2.2.2.1 hZ hd (k H locs ls ce sl h1 h2 hw hS hl)
theorem wt_ltN {i : Int32} {N : Nat} (h : ¬ (i < 0 ∨ N ≤ i.toNatClampNeg)) (hN : N < 1000) : i < nI N := by
  have h0 : ¬ i < 0 := fun z => h (Or.inl z)
  obtain ⟨j, hj, rfl⟩ := nI_of h0
  have h1 := wt_lt h
  rw [nI_clamp hj] at h1
  exact nI_lt h1 (by omega)
theorem wt_ci_0 : Int32.ofInt (0 : Int) = (0 : Int32) := by decide
theorem wt_cs_312 : (Int16.ofInt (312 : Int)).toInt32 = (312 : Int32) := by decide
theorem wt_ci_1 : Int32.ofInt (1 : Int) = (1 : Int32) := by decide
theorem wt_ci_4 : Int32.ofInt (4 : Int) = (4 : Int32) := by decide
theorem wt_ci_m1 : Int32.ofInt (-1) = (-1 : Int32) := by decide
theorem wt_cb_12 : (Int8.ofInt (12 : Int)).toInt32 = (12 : Int32) := by decide
theorem wt_cb_26 : (Int8.ofInt (26 : Int)).toInt32 = (26 : Int32) := by decide
theorem wt_cb_9 : (Int8.ofInt (9 : Int)).toInt32 = (9 : Int32) := by decide
theorem wt_cb_100 : (Int8.ofInt (100 : Int)).toInt32 = (100 : Int32) := by decide
theorem wt_cs_255 : (Int16.ofInt (255 : Int)).toInt32 = (255 : Int32) := by decide
theorem wt_cb_24 : (Int8.ofInt (24 : Int)).toInt32 = (24 : Int32) := by decide
theorem wt_cs_480 : (Int16.ofInt (480 : Int)).toInt32 = (480 : Int32) := by decide
theorem wt_cs_4096 : (Int16.ofInt (4096 : Int)).toInt32 = (4096 : Int32) := by decide
theorem wt_cb_48 : (Int8.ofInt (48 : Int)).toInt32 = (48 : Int32) := by decide
theorem wt_cb_57 : (Int8.ofInt (57 : Int)).toInt32 = (57 : Int32) := by decide
theorem wt_cb_32 : (Int8.ofInt (32 : Int)).toInt32 = (32 : Int32) := by decide
theorem wt_ci_2 : Int32.ofInt (2 : Int) = (2 : Int32) := by decide
theorem wt_cb_10 : (Int8.ofInt (10 : Int)).toInt32 = (10 : Int32) := by decide
theorem wt_cb_99 : (Int8.ofInt (99 : Int)).toInt32 = (99 : Int32) := by decide
theorem wt_ci_3 : Int32.ofInt (3 : Int) = (3 : Int32) := by decide
theorem wt_cb_97 : (Int8.ofInt (97 : Int)).toInt32 = (97 : Int32) := by decide
theorem wt_cb_122 : (Int8.ofInt (122 : Int)).toInt32 = (122 : Int32) := by decide
theorem wt_cs_400 : (Int16.ofInt (400 : Int)).toInt32 = (400 : Int32) := by decide
theorem wt_cb_60 : (Int8.ofInt (60 : Int)).toInt32 = (60 : Int32) := by decide
theorem wt_cb_59 : (Int8.ofInt (59 : Int)).toInt32 = (59 : Int32) := by decide
theorem wt_ci_5 : Int32.ofInt (5 : Int) = (5 : Int32) := by decide
theorem wt_cb_m2 : (Int8.ofInt (-2)).toInt32 = (-2 : Int32) := by decide
theorem wt_cb_8 : (Int8.ofInt (8 : Int)).toInt32 = (8 : Int32) := by decide
theorem wt_cb_16 : (Int8.ofInt (16 : Int)).toInt32 = (16 : Int32) := by decide
theorem wt_cb_63 : (Int8.ofInt (63 : Int)).toInt32 = (63 : Int32) := by decide
theorem wt_cb_47 : (Int8.ofInt (47 : Int)).toInt32 = (47 : Int32) := by decide
theorem wt_cb_20 : (Int8.ofInt (20 : Int)).toInt32 = (20 : Int32) := by decide
theorem wt_cb_44 : (Int8.ofInt (44 : Int)).toInt32 = (44 : Int32) := by decide
theorem wt_cb_13 : (Int8.ofInt (13 : Int)).toInt32 = (13 : Int32) := by decide
theorem wt_cb_7 : (Int8.ofInt (7 : Int)).toInt32 = (7 : Int32) := by decide
theorem wt_cb_27 : (Int8.ofInt (27 : Int)).toInt32 = (27 : Int32) := by decide
theorem wt_cb_18 : (Int8.ofInt (18 : Int)).toInt32 = (18 : Int32) := by decide
theorem wt_cb_6 : (Int8.ofInt (6 : Int)).toInt32 = (6 : Int32) := by decide
theorem wt_cb_14 : (Int8.ofInt (14 : Int)).toInt32 = (14 : Int32) := by decide
theorem wt_cb_11 : (Int8.ofInt (11 : Int)).toInt32 = (11 : Int32) := by decide
theorem wt_cb_15 : (Int8.ofInt (15 : Int)).toInt32 = (15 : Int32) := by decide
theorem wt_cb_23 : (Int8.ofInt (23 : Int)).toInt32 = (23 : Int32) := by decide
theorem wt_cs_338 : (Int16.ofInt (338 : Int)).toInt32 = (338 : Int32) := by decide
theorem wt_cs_500 : (Int16.ofInt (500 : Int)).toInt32 = (500 : Int32) := by decide
theorem wt_cs_5000 : (Int16.ofInt (5000 : Int)).toInt32 = (5000 : Int32) := by decide
theorem wt_cb_108 : (Int8.ofInt (108 : Int)).toInt32 = (108 : Int32) := by decide
theorem wt_cb_25 : (Int8.ofInt (25 : Int)).toInt32 = (25 : Int32) := by decide
theorem wt_cs_200 : (Int16.ofInt (200 : Int)).toInt32 = (200 : Int32) := by decide
theorem wt_cs_999 : (Int16.ofInt (999 : Int)).toInt32 = (999 : Int32) := by decide
theorem wt_cs_540 : (Int16.ofInt (540 : Int)).toInt32 = (540 : Int32) := by decide
theorem wt_cb_96 : (Int8.ofInt (96 : Int)).toInt32 = (96 : Int32) := by decide
theorem wt_cs_208 : (Int16.ofInt (208 : Int)).toInt32 = (208 : Int32) := by decide
theorem wt_cb_61 : (Int8.ofInt (61 : Int)).toInt32 = (61 : Int32) := by decide
theorem wt_cs_1158 : (Int16.ofInt (1158 : Int)).toInt32 = (1158 : Int32) := by decide
theorem wt_cn_500 : ¬ (500 : Int32) < 0 ∧ Int32.toNatClampNeg (500 : Int32) = 500 := by decide
theorem wt_cn_9 : ¬ (9 : Int32) < 0 ∧ Int32.toNatClampNeg (9 : Int32) = 9 := by decide
theorem wt_cn_26 : ¬ (26 : Int32) < 0 ∧ Int32.toNatClampNeg (26 : Int32) = 26 := by decide
theorem wt_cn_312 : ¬ (312 : Int32) < 0 ∧ Int32.toNatClampNeg (312 : Int32) = 312 := by decide
theorem wt_cn_4 : ¬ (4 : Int32) < 0 ∧ Int32.toNatClampNeg (4 : Int32) = 4 := by decide
theorem wt_cn_540 : ¬ (540 : Int32) < 0 ∧ Int32.toNatClampNeg (540 : Int32) = 540 := by decide
theorem wt_cn_60 : ¬ (60 : Int32) < 0 ∧ Int32.toNatClampNeg (60 : Int32) = 60 := by decide
theorem wt_cn_20 : ¬ (20 : Int32) < 0 ∧ Int32.toNatClampNeg (20 : Int32) = 20 := by decide
theorem wt_cn_96 : ¬ (96 : Int32) < 0 ∧ Int32.toNatClampNeg (96 : Int32) = 96 := by decide
theorem wt_cn_8 : ¬ (8 : Int32) < 0 ∧ Int32.toNatClampNeg (8 : Int32) = 8 := by decide
theorem wt_cn_208 : ¬ (208 : Int32) < 0 ∧ Int32.toNatClampNeg (208 : Int32) = 208 := by decide
theorem wt_cn_10 : ¬ (10 : Int32) < 0 ∧ Int32.toNatClampNeg (10 : Int32) = 10 := by decide
theorem wt_cn_12 : ¬ (12 : Int32) < 0 ∧ Int32.toNatClampNeg (12 : Int32) = 12 := by decide
theorem wt_cn_338 : ¬ (338 : Int32) < 0 ∧ Int32.toNatClampNeg (338 : Int32) = 338 := by decide
theorem wt_cn_61 : ¬ (61 : Int32) < 0 ∧ Int32.toNatClampNeg (61 : Int32) = 61 := by decide
theorem wt_cn_108 : ¬ (108 : Int32) < 0 ∧ Int32.toNatClampNeg (108 : Int32) = 108 := by decide
end WTQ2
