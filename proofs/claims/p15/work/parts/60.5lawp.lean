section WLA
def wb605lawp_code_r52 : List (List Nat) := [4, 6, 167, 250, 101, 4, 172] :: []
def wb605lawp_code_r51 : List (List Nat) := [0, 28, 43, 42, 21, 4, 4, 96, 46, 182, 0, 232, 87, 44, 42, 21, 4, 4, 96, 46, 182, 0, 235, 87, 167, 0, 3, 132] :: wb605lawp_code_r52
def wb605lawp_code_r50 : List (List Nat) := [6, 167, 0, 54, 43, 182, 0, 224, 87, 44, 182, 0, 227, 87, 167, 0, 41, 43, 182, 0, 228, 87, 44, 182, 0, 231, 87, 167] :: wb605lawp_code_r51
def wb605lawp_code_r49 : List (List Nat) := [6, 167, 0, 82, 43, 42, 21, 4, 4, 96, 46, 45, 184, 0, 221, 54, 5, 44, 42, 21, 4, 4, 96, 46, 182, 0, 223, 54] :: wb605lawp_code_r50
def wb605lawp_code_r48 : List (List Nat) := [21, 4, 5, 96, 46, 45, 184, 0, 218, 54, 5, 44, 42, 21, 4, 4, 96, 46, 42, 21, 4, 5, 96, 46, 182, 0, 220, 54] :: wb605lawp_code_r49
def wb605lawp_code_r47 : List (List Nat) := [184, 0, 215, 54, 5, 44, 42, 21, 4, 4, 96, 46, 182, 0, 217, 54, 6, 167, 0, 122, 43, 42, 21, 4, 4, 96, 46, 42] :: wb605lawp_code_r48
def wb605lawp_code_r46 : List (List Nat) := [184, 0, 212, 54, 5, 44, 42, 21, 4, 4, 96, 46, 182, 0, 214, 54, 6, 167, 0, 150, 43, 42, 21, 4, 4, 96, 46, 45] :: wb605lawp_code_r47
def wb605lawp_code_r45 : List (List Nat) := [184, 0, 209, 54, 5, 44, 42, 21, 4, 4, 96, 46, 182, 0, 211, 54, 6, 167, 0, 178, 43, 42, 21, 4, 4, 96, 46, 45] :: wb605lawp_code_r46
def wb605lawp_code_r44 : List (List Nat) := [42, 21, 4, 4, 96, 46, 42, 21, 4, 5, 96, 46, 182, 0, 208, 54, 6, 167, 0, 206, 43, 42, 21, 4, 4, 96, 46, 45] :: wb605lawp_code_r45
def wb605lawp_code_r43 : List (List Nat) := [44, 182, 0, 205, 87, 167, 0, 246, 43, 42, 21, 4, 4, 96, 46, 42, 21, 4, 5, 96, 46, 45, 184, 0, 206, 54, 5, 44] :: wb605lawp_code_r44
def wb605lawp_code_r42 : List (List Nat) := [96, 46, 45, 184, 0, 199, 54, 5, 44, 42, 21, 4, 4, 96, 46, 182, 0, 201, 54, 6, 167, 1, 3, 43, 182, 0, 202, 87] :: wb605lawp_code_r43
def wb605lawp_code_r41 : List (List Nat) := [96, 46, 45, 184, 0, 196, 54, 5, 44, 42, 21, 4, 4, 96, 46, 182, 0, 198, 54, 6, 167, 1, 31, 43, 42, 21, 4, 4] :: wb605lawp_code_r42
def wb605lawp_code_r40 : List (List Nat) := [96, 46, 182, 0, 191, 54, 6, 167, 1, 72, 43, 182, 0, 192, 87, 44, 182, 0, 195, 87, 167, 1, 59, 43, 42, 21, 4, 4] :: wb605lawp_code_r41
def wb605lawp_code_r39 : List (List Nat) := [184, 0, 189, 54, 5, 44, 42, 21, 4, 4, 96, 46, 42, 21, 4, 5, 96, 46, 42, 21, 4, 6, 96, 46, 42, 21, 4, 7] :: wb605lawp_code_r40
def wb605lawp_code_r38 : List (List Nat) := [1, 136, 43, 42, 21, 4, 4, 96, 46, 42, 21, 4, 5, 96, 46, 42, 21, 4, 6, 96, 46, 42, 21, 4, 7, 96, 46, 45] :: wb605lawp_code_r39
def wb605lawp_code_r37 : List (List Nat) := [1, 164, 43, 42, 21, 4, 4, 96, 46, 45, 184, 0, 186, 54, 5, 44, 42, 21, 4, 4, 96, 46, 182, 0, 188, 54, 6, 167] :: wb605lawp_code_r38
def wb605lawp_code_r36 : List (List Nat) := [4, 4, 96, 46, 42, 21, 4, 5, 96, 46, 42, 21, 4, 6, 96, 46, 42, 21, 4, 7, 96, 46, 182, 0, 185, 54, 6, 167] :: wb605lawp_code_r37
def wb605lawp_code_r35 : List (List Nat) := [46, 42, 21, 4, 5, 96, 46, 42, 21, 4, 6, 96, 46, 42, 21, 4, 7, 96, 46, 45, 184, 0, 182, 54, 5, 44, 42, 21] :: wb605lawp_code_r36
def wb605lawp_code_r34 : List (List Nat) := [96, 46, 42, 21, 4, 5, 96, 46, 42, 21, 4, 6, 96, 46, 182, 0, 181, 54, 6, 167, 1, 228, 43, 42, 21, 4, 4, 96] :: wb605lawp_code_r35
def wb605lawp_code_r33 : List (List Nat) := [21, 4, 4, 96, 46, 42, 21, 4, 5, 96, 46, 42, 21, 4, 6, 96, 46, 45, 184, 0, 179, 54, 5, 44, 42, 21, 4, 4] :: wb605lawp_code_r34
def wb605lawp_code_r32 : List (List Nat) := [184, 0, 176, 54, 5, 44, 42, 21, 4, 4, 96, 46, 42, 21, 4, 5, 96, 46, 182, 0, 178, 54, 6, 167, 2, 24, 43, 42] :: wb605lawp_code_r33
def wb605lawp_code_r31 : List (List Nat) := [42, 21, 4, 5, 96, 46, 182, 0, 175, 54, 6, 167, 2, 64, 43, 42, 21, 4, 4, 96, 46, 42, 21, 4, 5, 96, 46, 45] :: wb605lawp_code_r32
def wb605lawp_code_r30 : List (List Nat) := [2, 104, 43, 42, 21, 4, 4, 96, 46, 42, 21, 4, 5, 96, 46, 45, 184, 0, 173, 54, 5, 44, 42, 21, 4, 4, 96, 46] :: wb605lawp_code_r31
def wb605lawp_code_r29 : List (List Nat) := [2, 132, 43, 42, 21, 4, 4, 96, 46, 45, 184, 0, 170, 54, 5, 44, 42, 21, 4, 4, 96, 46, 182, 0, 172, 54, 6, 167] :: wb605lawp_code_r30
def wb605lawp_code_r28 : List (List Nat) := [5, 96, 46, 45, 184, 0, 167, 54, 5, 44, 42, 21, 4, 4, 96, 46, 42, 21, 4, 5, 96, 46, 182, 0, 169, 54, 6, 167] :: wb605lawp_code_r29
def wb605lawp_code_r27 : List (List Nat) := [4, 4, 96, 46, 42, 21, 4, 5, 96, 46, 182, 0, 166, 54, 6, 167, 2, 172, 43, 42, 21, 4, 4, 96, 46, 42, 21, 4] :: wb605lawp_code_r28
def wb605lawp_code_r26 : List (List Nat) := [5, 3, 172, 167, 2, 212, 43, 42, 21, 4, 4, 96, 46, 42, 21, 4, 5, 96, 46, 45, 184, 0, 164, 54, 5, 44, 42, 21] :: wb605lawp_code_r27
def wb605lawp_code_r25 : List (List Nat) := [160, 54, 6, 44, 182, 0, 161, 21, 5, 159, 0, 5, 3, 172, 21, 5, 154, 0, 15, 45, 3, 47, 21, 6, 133, 148, 153, 0] :: wb605lawp_code_r26
def wb605lawp_code_r24 : List (List Nat) := [46, 42, 21, 4, 5, 96, 46, 45, 184, 0, 158, 54, 5, 44, 42, 21, 4, 4, 96, 46, 42, 21, 4, 5, 96, 46, 182, 0] :: wb605lawp_code_r25
def wb605lawp_code_r23 : List (List Nat) := [46, 45, 184, 0, 155, 54, 5, 44, 42, 21, 4, 4, 96, 46, 182, 0, 157, 54, 6, 167, 3, 24, 43, 42, 21, 4, 4, 96] :: wb605lawp_code_r24
def wb605lawp_code_r22 : List (List Nat) := [46, 45, 184, 0, 152, 54, 5, 44, 42, 21, 4, 4, 96, 46, 182, 0, 154, 54, 6, 167, 3, 52, 43, 42, 21, 4, 4, 96] :: wb605lawp_code_r23
def wb605lawp_code_r21 : List (List Nat) := [5, 44, 42, 21, 4, 4, 96, 46, 42, 21, 4, 5, 96, 46, 182, 0, 151, 54, 6, 167, 3, 80, 43, 42, 21, 4, 4, 96] :: wb605lawp_code_r22
def wb605lawp_code_r20 : List (List Nat) := [96, 46, 182, 0, 148, 54, 6, 167, 3, 120, 43, 42, 21, 4, 4, 96, 46, 42, 21, 4, 5, 96, 46, 45, 184, 0, 149, 54] :: wb605lawp_code_r21
def wb605lawp_code_r19 : List (List Nat) := [21, 4, 4, 96, 46, 42, 21, 4, 5, 96, 46, 45, 184, 0, 146, 54, 5, 44, 42, 21, 4, 4, 96, 46, 42, 21, 4, 5] :: wb605lawp_code_r20
def wb605lawp_code_r18 : List (List Nat) := [184, 0, 143, 54, 5, 44, 42, 21, 4, 4, 96, 46, 42, 21, 4, 5, 96, 46, 182, 0, 145, 54, 6, 167, 3, 160, 43, 42] :: wb605lawp_code_r19
def wb605lawp_code_r17 : List (List Nat) := [42, 21, 4, 6, 96, 46, 182, 0, 142, 54, 6, 167, 3, 200, 43, 42, 21, 4, 4, 96, 46, 42, 21, 4, 5, 96, 46, 45] :: wb605lawp_code_r18
def wb605lawp_code_r16 : List (List Nat) := [5, 96, 46, 42, 21, 4, 6, 96, 46, 45, 184, 0, 139, 54, 5, 44, 42, 21, 4, 4, 96, 46, 42, 21, 4, 5, 96, 46] :: wb605lawp_code_r17
def wb605lawp_code_r15 : List (List Nat) := [4, 4, 96, 46, 42, 21, 4, 5, 96, 46, 182, 0, 138, 54, 6, 167, 3, 252, 43, 42, 21, 4, 4, 96, 46, 42, 21, 4] :: wb605lawp_code_r16
def wb605lawp_code_r14 : List (List Nat) := [134, 54, 6, 167, 4, 36, 43, 42, 21, 4, 4, 96, 46, 42, 21, 4, 5, 96, 46, 45, 184, 0, 135, 54, 5, 44, 42, 21] :: wb605lawp_code_r15
def wb605lawp_code_r13 : List (List Nat) := [0, 131, 87, 167, 4, 64, 43, 42, 21, 4, 4, 96, 46, 45, 184, 0, 132, 54, 5, 44, 42, 21, 4, 4, 96, 46, 182, 0] :: wb605lawp_code_r14
def wb605lawp_code_r12 : List (List Nat) := [45, 184, 0, 124, 54, 5, 44, 42, 21, 4, 4, 96, 46, 182, 0, 126, 54, 6, 167, 4, 77, 43, 182, 0, 127, 87, 44, 182] :: wb605lawp_code_r13
def wb605lawp_code_r11 : List (List Nat) := [45, 184, 0, 121, 54, 5, 44, 42, 21, 4, 4, 96, 46, 182, 0, 123, 54, 6, 167, 4, 105, 43, 42, 21, 4, 4, 96, 46] :: wb605lawp_code_r12
def wb605lawp_code_r10 : List (List Nat) := [45, 184, 0, 115, 54, 5, 44, 42, 21, 4, 4, 96, 46, 182, 0, 120, 54, 6, 167, 4, 133, 43, 42, 21, 4, 4, 96, 46] :: wb605lawp_code_r11
def wb605lawp_code_r9 : List (List Nat) := [96, 46, 42, 21, 4, 7, 96, 46, 42, 21, 4, 8, 96, 46, 182, 0, 114, 87, 167, 4, 161, 43, 42, 21, 4, 4, 96, 46] :: wb605lawp_code_r10
def wb605lawp_code_r8 : List (List Nat) := [46, 42, 21, 4, 8, 96, 46, 182, 0, 110, 87, 44, 42, 21, 4, 4, 96, 46, 42, 21, 4, 5, 96, 46, 42, 21, 4, 6] :: wb605lawp_code_r9
def wb605lawp_code_r7 : List (List Nat) := [0, 0, 5, 110, 43, 42, 21, 4, 4, 96, 46, 42, 21, 4, 5, 96, 46, 42, 21, 4, 6, 96, 46, 42, 21, 4, 7, 96] :: wb605lawp_code_r8
def wb605lawp_code_r6 : List (List Nat) := [0, 0, 4, 188, 0, 0, 4, 216, 0, 0, 4, 244, 0, 0, 5, 16, 0, 0, 5, 56, 0, 0, 5, 84, 0, 0, 5, 97] :: wb605lawp_code_r7
def wb605lawp_code_r5 : List (List Nat) := [0, 0, 3, 230, 0, 0, 4, 2, 0, 0, 4, 66, 0, 0, 4, 79, 0, 0, 4, 107, 0, 0, 4, 135, 0, 0, 4, 148] :: wb605lawp_code_r6
def wb605lawp_code_r4 : List (List Nat) := [0, 0, 2, 182, 0, 0, 2, 222, 0, 0, 3, 6, 0, 0, 3, 34, 0, 0, 3, 74, 0, 0, 3, 114, 0, 0, 3, 166] :: wb605lawp_code_r5
def wb605lawp_code_r3 : List (List Nat) := [0, 0, 1, 142, 0, 0, 1, 194, 0, 0, 1, 234, 0, 0, 2, 18, 0, 0, 2, 58, 0, 0, 2, 86, 0, 0, 2, 114] :: wb605lawp_code_r4
def wb605lawp_code_r2 : List (List Nat) := [0, 0, 0, 160, 0, 0, 0, 233, 0, 0, 1, 5, 0, 0, 1, 33, 0, 0, 1, 61, 0, 0, 1, 74, 0, 0, 1, 102] :: wb605lawp_code_r3
def wb605lawp_code_r1 : List (List Nat) := [6, 100, 163, 5, 151, 42, 21, 4, 46, 16, 63, 126, 170, 0, 0, 0, 0, 0, 5, 135, 0, 0, 0, 0, 0, 0, 0, 35] :: wb605lawp_code_r2
def wb605lawp_code_r0 : List (List Nat) := [187, 0, 8, 89, 183, 0, 106, 76, 187, 0, 107, 89, 183, 0, 109, 77, 4, 188, 11, 78, 3, 54, 4, 21, 4, 42, 190, 16] :: wb605lawp_code_r1
set_option maxRecDepth 100000 in
theorem wb605lawp_code_c0 : wt_cs code 0 wb605lawp_code_r0 := wt_cs_of (by decide +kernel)
theorem wb605lawp_code_c1 : wt_cs code 28 wb605lawp_code_r1 := wt_cs_tl (m := 28) wb605lawp_code_c0 rfl rfl
theorem wb605lawp_code_c2 : wt_cs code 56 wb605lawp_code_r2 := wt_cs_tl (m := 28) wb605lawp_code_c1 rfl rfl
theorem wb605lawp_code_c3 : wt_cs code 84 wb605lawp_code_r3 := wt_cs_tl (m := 28) wb605lawp_code_c2 rfl rfl
theorem wb605lawp_code_c4 : wt_cs code 112 wb605lawp_code_r4 := wt_cs_tl (m := 28) wb605lawp_code_c3 rfl rfl
theorem wb605lawp_code_c5 : wt_cs code 140 wb605lawp_code_r5 := wt_cs_tl (m := 28) wb605lawp_code_c4 rfl rfl
theorem wb605lawp_code_c6 : wt_cs code 168 wb605lawp_code_r6 := wt_cs_tl (m := 28) wb605lawp_code_c5 rfl rfl
theorem wb605lawp_code_c7 : wt_cs code 196 wb605lawp_code_r7 := wt_cs_tl (m := 28) wb605lawp_code_c6 rfl rfl
theorem wb605lawp_code_c8 : wt_cs code 224 wb605lawp_code_r8 := wt_cs_tl (m := 28) wb605lawp_code_c7 rfl rfl
theorem wb605lawp_code_c9 : wt_cs code 252 wb605lawp_code_r9 := wt_cs_tl (m := 28) wb605lawp_code_c8 rfl rfl
theorem wb605lawp_code_c10 : wt_cs code 280 wb605lawp_code_r10 := wt_cs_tl (m := 28) wb605lawp_code_c9 rfl rfl
theorem wb605lawp_code_c11 : wt_cs code 308 wb605lawp_code_r11 := wt_cs_tl (m := 28) wb605lawp_code_c10 rfl rfl
theorem wb605lawp_code_c12 : wt_cs code 336 wb605lawp_code_r12 := wt_cs_tl (m := 28) wb605lawp_code_c11 rfl rfl
theorem wb605lawp_code_c13 : wt_cs code 364 wb605lawp_code_r13 := wt_cs_tl (m := 28) wb605lawp_code_c12 rfl rfl
theorem wb605lawp_code_c14 : wt_cs code 392 wb605lawp_code_r14 := wt_cs_tl (m := 28) wb605lawp_code_c13 rfl rfl
theorem wb605lawp_code_c15 : wt_cs code 420 wb605lawp_code_r15 := wt_cs_tl (m := 28) wb605lawp_code_c14 rfl rfl
theorem wb605lawp_code_c16 : wt_cs code 448 wb605lawp_code_r16 := wt_cs_tl (m := 28) wb605lawp_code_c15 rfl rfl
theorem wb605lawp_code_c17 : wt_cs code 476 wb605lawp_code_r17 := wt_cs_tl (m := 28) wb605lawp_code_c16 rfl rfl
theorem wb605lawp_code_c18 : wt_cs code 504 wb605lawp_code_r18 := wt_cs_tl (m := 28) wb605lawp_code_c17 rfl rfl
theorem wb605lawp_code_c19 : wt_cs code 532 wb605lawp_code_r19 := wt_cs_tl (m := 28) wb605lawp_code_c18 rfl rfl
theorem wb605lawp_code_c20 : wt_cs code 560 wb605lawp_code_r20 := wt_cs_tl (m := 28) wb605lawp_code_c19 rfl rfl
theorem wb605lawp_code_c21 : wt_cs code 588 wb605lawp_code_r21 := wt_cs_tl (m := 28) wb605lawp_code_c20 rfl rfl
theorem wb605lawp_code_c22 : wt_cs code 616 wb605lawp_code_r22 := wt_cs_tl (m := 28) wb605lawp_code_c21 rfl rfl
theorem wb605lawp_code_c23 : wt_cs code 644 wb605lawp_code_r23 := wt_cs_tl (m := 28) wb605lawp_code_c22 rfl rfl
theorem wb605lawp_code_c24 : wt_cs code 672 wb605lawp_code_r24 := wt_cs_tl (m := 28) wb605lawp_code_c23 rfl rfl
theorem wb605lawp_code_c25 : wt_cs code 700 wb605lawp_code_r25 := wt_cs_tl (m := 28) wb605lawp_code_c24 rfl rfl
theorem wb605lawp_code_c26 : wt_cs code 728 wb605lawp_code_r26 := wt_cs_tl (m := 28) wb605lawp_code_c25 rfl rfl
theorem wb605lawp_code_c27 : wt_cs code 756 wb605lawp_code_r27 := wt_cs_tl (m := 28) wb605lawp_code_c26 rfl rfl
theorem wb605lawp_code_c28 : wt_cs code 784 wb605lawp_code_r28 := wt_cs_tl (m := 28) wb605lawp_code_c27 rfl rfl
theorem wb605lawp_code_c29 : wt_cs code 812 wb605lawp_code_r29 := wt_cs_tl (m := 28) wb605lawp_code_c28 rfl rfl
theorem wb605lawp_code_c30 : wt_cs code 840 wb605lawp_code_r30 := wt_cs_tl (m := 28) wb605lawp_code_c29 rfl rfl
theorem wb605lawp_code_c31 : wt_cs code 868 wb605lawp_code_r31 := wt_cs_tl (m := 28) wb605lawp_code_c30 rfl rfl
theorem wb605lawp_code_c32 : wt_cs code 896 wb605lawp_code_r32 := wt_cs_tl (m := 28) wb605lawp_code_c31 rfl rfl
theorem wb605lawp_code_c33 : wt_cs code 924 wb605lawp_code_r33 := wt_cs_tl (m := 28) wb605lawp_code_c32 rfl rfl
theorem wb605lawp_code_c34 : wt_cs code 952 wb605lawp_code_r34 := wt_cs_tl (m := 28) wb605lawp_code_c33 rfl rfl
theorem wb605lawp_code_c35 : wt_cs code 980 wb605lawp_code_r35 := wt_cs_tl (m := 28) wb605lawp_code_c34 rfl rfl
theorem wb605lawp_code_c36 : wt_cs code 1008 wb605lawp_code_r36 := wt_cs_tl (m := 28) wb605lawp_code_c35 rfl rfl
theorem wb605lawp_code_c37 : wt_cs code 1036 wb605lawp_code_r37 := wt_cs_tl (m := 28) wb605lawp_code_c36 rfl rfl
theorem wb605lawp_code_c38 : wt_cs code 1064 wb605lawp_code_r38 := wt_cs_tl (m := 28) wb605lawp_code_c37 rfl rfl
theorem wb605lawp_code_c39 : wt_cs code 1092 wb605lawp_code_r39 := wt_cs_tl (m := 28) wb605lawp_code_c38 rfl rfl
theorem wb605lawp_code_c40 : wt_cs code 1120 wb605lawp_code_r40 := wt_cs_tl (m := 28) wb605lawp_code_c39 rfl rfl
theorem wb605lawp_code_c41 : wt_cs code 1148 wb605lawp_code_r41 := wt_cs_tl (m := 28) wb605lawp_code_c40 rfl rfl
theorem wb605lawp_code_c42 : wt_cs code 1176 wb605lawp_code_r42 := wt_cs_tl (m := 28) wb605lawp_code_c41 rfl rfl
theorem wb605lawp_code_c43 : wt_cs code 1204 wb605lawp_code_r43 := wt_cs_tl (m := 28) wb605lawp_code_c42 rfl rfl
theorem wb605lawp_code_c44 : wt_cs code 1232 wb605lawp_code_r44 := wt_cs_tl (m := 28) wb605lawp_code_c43 rfl rfl
theorem wb605lawp_code_c45 : wt_cs code 1260 wb605lawp_code_r45 := wt_cs_tl (m := 28) wb605lawp_code_c44 rfl rfl
theorem wb605lawp_code_c46 : wt_cs code 1288 wb605lawp_code_r46 := wt_cs_tl (m := 28) wb605lawp_code_c45 rfl rfl
theorem wb605lawp_code_c47 : wt_cs code 1316 wb605lawp_code_r47 := wt_cs_tl (m := 28) wb605lawp_code_c46 rfl rfl
theorem wb605lawp_code_c48 : wt_cs code 1344 wb605lawp_code_r48 := wt_cs_tl (m := 28) wb605lawp_code_c47 rfl rfl
theorem wb605lawp_code_c49 : wt_cs code 1372 wb605lawp_code_r49 := wt_cs_tl (m := 28) wb605lawp_code_c48 rfl rfl
theorem wb605lawp_code_c50 : wt_cs code 1400 wb605lawp_code_r50 := wt_cs_tl (m := 28) wb605lawp_code_c49 rfl rfl
theorem wb605lawp_code_c51 : wt_cs code 1428 wb605lawp_code_r51 := wt_cs_tl (m := 28) wb605lawp_code_c50 rfl rfl
theorem wb605lawp_code_c52 : wt_cs code 1456 wb605lawp_code_r52 := wt_cs_tl (m := 28) wb605lawp_code_c51 rfl rfl
theorem wld_0 : decode code 0 = .ok (.new 8, 3) := wt_op187 wb605lawp_code_c0 0 rfl rfl rfl
theorem wld_3 : decode code 3 = .ok (.dup, 1) := wt_op89 wb605lawp_code_c0 3 rfl rfl
theorem wld_4 : decode code 4 = .ok (.invokespecial 106, 3) := wt_op183 wb605lawp_code_c0 4 rfl rfl rfl
theorem wld_7 : decode code 7 = .ok (.astore_n 1, 1) := wt_op76 wb605lawp_code_c0 7 rfl rfl
theorem wld_8 : decode code 8 = .ok (.new 107, 3) := wt_op187 wb605lawp_code_c0 8 rfl rfl rfl
theorem wld_11 : decode code 11 = .ok (.dup, 1) := wt_op89 wb605lawp_code_c0 11 rfl rfl
theorem wld_12 : decode code 12 = .ok (.invokespecial 109, 3) := wt_op183 wb605lawp_code_c0 12 rfl rfl rfl
theorem wld_15 : decode code 15 = .ok (.astore_n 2, 1) := wt_op77 wb605lawp_code_c0 15 rfl rfl
abbrev wt_z : wt_St := (fun _ _ => 0, fun _ _ => 0)
theorem wt_z_zero : wt_zero wt_z 0 := fun _ _ => ⟨fun _ => rfl, fun _ => rfl⟩
/-- σ is what the two makers leave -/
def wt_made (n : Nat) (σ : wt_St) : Prop := ∃ α1 α2 α3 α4 α5 α6 β1 β2 : wt_St, (wp_ld_clear n 4 (wt_sf wt_z 1 7 (-1 : Int32)) = some α1) ∧ (∀ i, ¬ (4 ≤ i ∧ i < 12) → (∀ q, wt_gf α1 i q = wt_gf (wt_sf wt_z 1 7 (-1 : Int32)) i q) ∧ ∀ q, wt_ga α1 i q = wt_ga (wt_sf wt_z 1 7 (-1 : Int32)) i q) ∧ (wp_ld_clear n 12 α1 = some α2) ∧ (∀ i, ¬ (12 ≤ i ∧ i < 20) → (∀ q, wt_gf α2 i q = wt_gf α1 i q) ∧ ∀ q, wt_ga α2 i q = wt_ga α1 i q) ∧ (wp_st_clearPages n 39 α2 = some α3) ∧ (∀ i, ¬ (39 ≤ i ∧ i < 48) → (∀ q, wt_gf α3 i q = wt_gf α2 i q) ∧ ∀ q, wt_ga α3 i q = wt_ga α2 i q) ∧ (wp_st_clearPages n 49 α3 = some α4) ∧ (∀ i, ¬ (49 ≤ i ∧ i < 58) → (∀ q, wt_gf α4 i q = wt_gf α3 i q) ∧ ∀ q, wt_ga α4 i q = wt_ga α3 i q) ∧ (wp_st_clearPages n 58 α4 = some α5) ∧ (∀ i, ¬ (58 ≤ i ∧ i < 67) → (∀ q, wt_gf α5 i q = wt_gf α4 i q) ∧ ∀ q, wt_ga α5 i q = wt_ga α4 i q) ∧ (wp_st_clearPages n 67 α5 = some α6) ∧ (∀ i, ¬ (67 ≤ i ∧ i < 76) → (∀ q, wt_gf α6 i q = wt_gf α5 i q) ∧ ∀ q, wt_ga α6 i q = wt_ga α5 i q) ∧ (wp_md_clearsCase n (wt_sf (wt_sf (wt_sf α6 81 9 (-1 : Int32)) 0 14 (0 : Int32)) 108 3 (-1 : Int32)) = some β1) ∧ (∀ i, ¬ (108 ≤ i ∧ i < 321) → (∀ q, wt_gf β1 i q = wt_gf (wt_sf (wt_sf (wt_sf α6 81 9 (-1 : Int32)) 0 14 (0 : Int32)) 108 3 (-1 : Int32)) i q) ∧ ∀ q, wt_ga β1 i q = wt_ga (wt_sf (wt_sf (wt_sf α6 81 9 (-1 : Int32)) 0 14 (0 : Int32)) 108 3 (-1 : Int32)) i q) ∧ (wp_md_takesCase n β1 = some β2) ∧ (∀ i, ¬ (108 ≤ i ∧ i < 321) → (∀ q, wt_gf β2 i q = wt_gf β1 i q) ∧ ∀ q, wt_ga β2 i q = wt_ga β1 i q) ∧ σ = (wt_sa (wt_sa (wt_sa (wt_sa β2 275 ((0 : Int32)).toNatClampNeg (-1 : Int32)) 275 ((1 : Int32)).toNatClampNeg (-1 : Int32)) 275 ((2 : Int32)).toNatClampNeg (-1 : Int32)) 275 ((3 : Int32)).toNatClampNeg (-1 : Int32))
set_option maxRecDepth 100000 in
set_option maxHeartbeats 4000000 in
theorem wt_law_start {X : wt_X} {v0 : Value} {n : Nat} {σ : wt_St} (hm : wt_made n σ) (h : wt_Ok X code 7 "WornTypeLaw" 400 100000) (hSA : wt_SA (wt_A (wt_xw X) (wt_xs X).heap.size) (wt_xs X) (wt_xs X).heap) (kk : wt_BV X v0 3000 (16 * 3000) 321 [] σ 16 [some (.inr 0), some (.inr 108), none, none, none, none] []) : wt_BV X v0 0 0 0 [] wt_z 0 [none, none, none, none, none, none] [] := by
  obtain ⟨α1, α2, α3, α4, α5, α6, β1, β2, p0, p1, p2, p3, p4, p5, p6, p7, p8, p9, p10, p11, q0, q1, q2, q3, rfl⟩ := hm
  have z1 : wt_zero (wt_sf (wt_sf α6 81 9 (-1 : Int32)) 0 14 (0 : Int32)) 108 := wc_ap_0_z (wt_z_zero.mono (by decide)) p0 p1 p2 p3 p4 p5 p6 p7 p8 p9 p10 p11
  have z2 : wt_zero (wt_sa (wt_sa (wt_sa (wt_sa β2 275 ((0 : Int32)).toNatClampNeg (-1 : Int32)) 275 ((1 : Int32)).toNatClampNeg (-1 : Int32)) 275 ((2 : Int32)).toNatClampNeg (-1 : Int32)) 275 ((3 : Int32)).toNatClampNeg (-1 : Int32)) 321 := wc_md_108_z (z1.mono (by decide)) q0 q1 q2 q3
  refine wt_bv_new h [] wt_cf10 rfl (wt_g1 25 rfl rfl) (wt_g1 26 rfl rfl) (wt_g1 1 rfl rfl) (by decide) wt_L0 (by decide +kernel) (by decide +kernel) rfl rfl (Nat.le_of_ble_eq_true rfl) (Nat.le_of_ble_eq_true rfl) wld_0 ?_
  refine wt_bv_dup h wld_3 ?_
  refine wt_bv_callI (dd := 3) (k2 := 745) h wt_SA_fx hSA rfl (wt_g1 27 rfl rfl) (wt_g1 28 rfl rfl) (wt_g1 1 rfl rfl) wt_ya_ap_init (fun ad => wc_ap_0 (w := wt_at (wt_xw X) ad (fun i => i < 1)) (fun _ => Iff.rfl) (wt_z_zero.mono (by decide)) p0 p1 p2 p3 p4 p5 p6 p7 p8 p9 p10 p11) (by decide) rfl rfl (by decide) (Nat.le_of_ble_eq_true rfl) (Nat.le_of_ble_eq_true rfl) (by decide) z1 rfl rfl wld_4 ?_
  refine wt_bv_astore_n h (j := 0) [some (.inr 0), none, none, none, none, none] wld_7 (by decide) rfl rfl ?_
  refine wt_bv_new h [] wt_cf11 rfl (wt_g6 193 rfl rfl) (wt_g6 194 rfl rfl) (wt_g1 12 rfl rfl) (by decide) wt_L108 (by decide +kernel) (by decide +kernel) rfl rfl (Nat.le_of_ble_eq_true rfl) (Nat.le_of_ble_eq_true rfl) wld_8 ?_
  refine wt_bv_dup h wld_11 ?_
  refine wt_bv_callI (dd := 1) (k2 := 630) h wt_SA_fx hSA rfl (wt_g6 195 rfl rfl) (wt_g6 196 rfl rfl) (wt_g1 12 rfl rfl) wt_ya_md_init (fun ad => wc_md_108 (w := wt_at (wt_xw X) ad (fun i => i < 109)) (fun _ => Iff.rfl) (z1.mono (by decide)) q0 q1 q2 q3) (by decide) rfl rfl (by decide) (Nat.le_of_ble_eq_true rfl) (Nat.le_of_ble_eq_true rfl) (by decide) z2 rfl rfl wld_12 ?_
  refine wt_bv_astore_n h (j := 1) [some (.inr 0), some (.inr 108), none, none, none, none] wld_15 (by decide) rfl rfl ?_
  exact fun ad H locs ls ce sl h1 h2 hw hS hl => kk ad H locs ls ce sl (by omega) (by omega) hw hS hl
def wt_P_feed (n : Nat) (Inv : wt_St → Prop) : Prop := ∀ (σ : wt_St) (x1 x2 x3 x4 x5 : Int32), Inv σ → ∃ q : Int32 × wt_St, wp_ap_feed n x1 x2 x3 x4 x5 σ = some q ∧ ∃ r : Int32 × wt_St, wp_md_feed n x1 x2 x3 x4 x5 q.2 = some r ∧ Inv r.2
def wt_P_kase (n : Nat) (Inv : wt_St → Prop) : Prop := ∀ (σ : wt_St) (x1 : Int32), Inv σ → ∃ q : Nat × Int32 × wt_St, wp_ap_kase n x1 σ = some q ∧ (q.1 = 0 ∨ q.1 = 1) ∧ ∃ r : Int32 × wt_St, wp_md_kase n x1 q.2.2 = some r ∧ Inv r.2
def wt_P_tongue (n : Nat) (Inv : wt_St → Prop) : Prop := ∀ (σ : wt_St) (x1 : Int32), Inv σ → ∃ q : Nat × Int32 × wt_St, wp_ap_tongue n x1 σ = some q ∧ (q.1 = 0 ∨ q.1 = 1) ∧ ∃ r : Int32 × wt_St, wp_md_tongue n x1 q.2.2 = some r ∧ Inv r.2
def wt_P_text (n : Nat) (Inv : wt_St → Prop) : Prop := ∀ (σ : wt_St) (x1 : Int32), Inv σ → ∃ q : Nat × Int32 × wt_St, wp_ap_text n x1 σ = some q ∧ (q.1 = 0 ∨ q.1 = 1) ∧ ∃ r : Int32 × wt_St, wp_md_text n x1 q.2.2 = some r ∧ Inv r.2
def wt_P_fault (n : Nat) (Inv : wt_St → Prop) : Prop := ∀ (σ : wt_St), Inv σ → ∃ q : Int32 × wt_St, wp_ap_fault n σ = some q ∧ ∃ r : Int32 × wt_St, wp_md_fault n q.2 = some r ∧ Inv r.2
def wt_P_told (n : Nat) (Inv : wt_St → Prop) : Prop := ∀ (σ : wt_St) (x1 : Int32), Inv σ → ∃ q : Nat × Int32 × wt_St, wp_ap_told n x1 σ = some q ∧ (q.1 = 0 ∨ q.1 = 1) ∧ ∃ r : Int32 × wt_St, wp_md_told n x1 q.2.2 = some r ∧ Inv r.2
def wt_P_letter (n : Nat) (Inv : wt_St → Prop) : Prop := ∀ (σ : wt_St) (x1 x2 : Int32), Inv σ → ∃ q : Nat × Int32 × wt_St, wp_ap_letter n x1 x2 σ = some q ∧ (q.1 = 0 ∨ q.1 = 1) ∧ ∃ r : Int32 × wt_St, wp_md_letter n x1 x2 q.2.2 = some r ∧ Inv r.2
def wt_P_piece (n : Nat) (Inv : wt_St → Prop) : Prop := ∀ (σ : wt_St) (x1 x2 x3 : Int32), Inv σ → ∃ q : Nat × Int32 × wt_St, wp_ap_piece n x1 x2 x3 σ = some q ∧ (q.1 = 0 ∨ q.1 = 3 ∨ q.1 = 1) ∧ ∃ r : Int32 × wt_St, wp_md_piece n x1 x2 x3 q.2.2 = some r ∧ Inv r.2
def wt_P_word (n : Nat) (Inv : wt_St → Prop) : Prop := ∀ (σ : wt_St) (x1 x2 : Int32), Inv σ → ∃ q : Nat × Int32 × wt_St, wp_ap_word n x1 x2 σ = some q ∧ (q.1 = 0 ∨ q.1 = 2 ∨ q.1 = 1) ∧ ∃ r : Int32 × wt_St, wp_md_word n x1 x2 q.2.2 = some r ∧ Inv r.2
def wt_P_at (n : Nat) (Inv : wt_St → Prop) : Prop := ∀ (σ : wt_St) (x1 x2 : Int32), Inv σ → ∃ q : Nat × Int32 × wt_St, wp_ap_at n x1 x2 σ = some q ∧ (q.1 = 0 ∨ q.1 = 2) ∧ ∃ r : Int32 × wt_St, wp_md_at n x1 x2 q.2.2 = some r ∧ Inv r.2
def wt_P_needs (n : Nat) (Inv : wt_St → Prop) : Prop := ∀ (σ : wt_St) (x1 x2 : Int32), Inv σ → ∃ q : Nat × Int32 × wt_St, wp_ap_needs n x1 x2 σ = some q ∧ (q.1 = 0 ∨ q.1 = 2 ∨ q.1 = 1) ∧ ∃ r : Int32 × wt_St, wp_md_needs n x1 x2 q.2.2 = some r ∧ Inv r.2
def wt_P_habit (n : Nat) (Inv : wt_St → Prop) : Prop := ∀ (σ : wt_St) (x1 : Int32), Inv σ → ∃ q : Nat × Int32 × wt_St, wp_ap_habit n x1 σ = some q ∧ (q.1 = 0 ∨ q.1 = 1) ∧ ∃ r : Int32 × wt_St, wp_md_habit n x1 q.2.2 = some r ∧ Inv r.2
def wt_P_can (n : Nat) (Inv : wt_St → Prop) : Prop := ∀ (σ : wt_St) (x1 : Int32), Inv σ → ∃ q : Nat × Int32 × wt_St, wp_ap_can n x1 σ = some q ∧ (q.1 = 0 ∨ q.1 = 2) ∧ ∃ r : Int32 × wt_St, wp_md_can n x1 q.2.2 = some r ∧ Inv r.2
def wt_P_lacks (n : Nat) (Inv : wt_St → Prop) : Prop := ∀ (σ : wt_St) (x1 x2 : Int32), Inv σ → ∃ q : Nat × Int32 × wt_St, wp_ap_lacks n x1 x2 σ = some q ∧ (q.1 = 0 ∨ q.1 = 2 ∨ q.1 = 1) ∧ ∃ r : Int32 × wt_St, wp_md_lacks n x1 x2 q.2.2 = some r ∧ (q.1 = 0 → wt_gf r.2 108 0 = 0) ∧ (q.1 = 2 → wt_gf r.2 108 0 = (1 : Int32)) ∧ (q.1 = 1 → wt_gf r.2 108 0 = (2 : Int32)) ∧ (q.1 = 0 → q.2.1 = r.1) ∧ Inv r.2
def wt_P_set (n : Nat) (Inv : wt_St → Prop) : Prop := ∀ (σ : wt_St) (x1 x2 : Int32), Inv σ → ∃ q : Nat × Int32 × wt_St, wp_ap_set n x1 x2 σ = some q ∧ (q.1 = 0 ∨ q.1 = 2 ∨ q.1 = 1) ∧ ∃ r : Int32 × wt_St, wp_md_set n x1 x2 q.2.2 = some r ∧ Inv r.2
def wt_P_print (n : Nat) (Inv : wt_St → Prop) : Prop := ∀ (σ : wt_St) (x1 x2 : Int32), Inv σ → ∃ q : Nat × Int32 × wt_St, wp_ap_print n x1 x2 σ = some q ∧ (q.1 = 0 ∨ q.1 = 2 ∨ q.1 = 1) ∧ ∃ r : Int32 × wt_St, wp_md_print n x1 x2 q.2.2 = some r ∧ Inv r.2
def wt_P_apart (n : Nat) (Inv : wt_St → Prop) : Prop := ∀ (σ : wt_St) (x1 : Int32), Inv σ → ∃ q : Nat × Int32 × wt_St, wp_ap_apart n x1 σ = some q ∧ (q.1 = 0 ∨ q.1 = 2) ∧ ∃ r : Int32 × wt_St, wp_md_apart n x1 q.2.2 = some r ∧ Inv r.2
def wt_P_page (n : Nat) (Inv : wt_St → Prop) : Prop := ∀ (σ : wt_St) (x1 x2 : Int32), Inv σ → ∃ q : Nat × Int32 × wt_St, wp_ap_page n x1 x2 σ = some q ∧ (q.1 = 0 ∨ q.1 = 2 ∨ q.1 = 1) ∧ ∃ r : Int32 × wt_St, wp_md_page n x1 x2 q.2.2 = some r ∧ Inv r.2
def wt_P_read (n : Nat) (Inv : wt_St → Prop) : Prop := ∀ (σ : wt_St) (x1 x2 : Int32), Inv σ → ∃ q : Nat × Int32 × wt_St, wp_ap_read n x1 x2 σ = some q ∧ (q.1 = 0 ∨ q.1 = 2) ∧ ∃ r : Int32 × wt_St, wp_md_read n x1 x2 q.2.2 = some r ∧ Inv r.2
def wt_P_least (n : Nat) (Inv : wt_St → Prop) : Prop := ∀ (σ : wt_St) (x1 x2 x3 : Int32), Inv σ → ∃ q : Nat × Int32 × wt_St, wp_ap_least n x1 x2 x3 σ = some q ∧ (q.1 = 0 ∨ q.1 = 2 ∨ q.1 = 1) ∧ ∃ r : Int32 × wt_St, wp_md_least n x1 x2 x3 q.2.2 = some r ∧ Inv r.2
def wt_P_fitting (n : Nat) (Inv : wt_St → Prop) : Prop := ∀ (σ : wt_St) (x1 x2 x3 x4 : Int32), Inv σ → ∃ q : Nat × Int32 × wt_St, wp_ap_fitting n x1 x2 x3 x4 σ = some q ∧ (q.1 = 0 ∨ q.1 = 2 ∨ q.1 = 1) ∧ ∃ r : Int32 × wt_St, wp_md_fitting n x1 x2 x3 x4 q.2.2 = some r ∧ Inv r.2
def wt_P_wordings (n : Nat) (Inv : wt_St → Prop) : Prop := ∀ (σ : wt_St) (x1 : Int32), Inv σ → ∃ q : Nat × Int32 × wt_St, wp_ap_wordings n x1 σ = some q ∧ (q.1 = 0 ∨ q.1 = 2) ∧ ∃ r : Int32 × wt_St, wp_md_wordings n x1 q.2.2 = some r ∧ Inv r.2
def wt_P_want (n : Nat) (Inv : wt_St → Prop) : Prop := ∀ (σ : wt_St) (x1 x2 x3 x4 : Int32), Inv σ → ∃ q : Nat × Int32 × wt_St, wp_ap_want n x1 x2 x3 x4 σ = some q ∧ (q.1 = 0 ∨ q.1 = 2 ∨ q.1 = 1) ∧ ∃ r : Int32 × wt_St, wp_md_want n x1 x2 x3 x4 q.2.2 = some r ∧ Inv r.2
def wt_P_forget (n : Nat) (Inv : wt_St → Prop) : Prop := ∀ (σ : wt_St), Inv σ → ∃ q : Int32 × wt_St, wp_ap_forget n σ = some q ∧ ∃ r : Int32 × wt_St, wp_md_forget n q.2 = some r ∧ Inv r.2
def wt_P_most (n : Nat) (Inv : wt_St → Prop) : Prop := ∀ (σ : wt_St) (x1 : Int32), Inv σ → ∃ q : Nat × Int32 × wt_St, wp_ap_most n x1 σ = some q ∧ (q.1 = 0 ∨ q.1 = 1) ∧ ∃ r : Int32 × wt_St, wp_md_most n x1 q.2.2 = some r ∧ Inv r.2
def wt_P_greedy (n : Nat) (Inv : wt_St → Prop) : Prop := ∀ (σ : wt_St) (x1 : Int32), Inv σ → ∃ q : Nat × Int32 × wt_St, wp_ap_greedy n x1 σ = some q ∧ (q.1 = 0 ∨ q.1 = 1) ∧ ∃ r : Int32 × wt_St, wp_md_greedy n x1 q.2.2 = some r ∧ Inv r.2
def wt_P_bound (n : Nat) (Inv : wt_St → Prop) : Prop := ∀ (σ : wt_St), Inv σ → ∃ q : Int32 × wt_St, wp_ap_bound n σ = some q ∧ ∃ r : Int32 × wt_St, wp_md_bound n q.2 = some r ∧ Inv r.2
def wt_P_said (n : Nat) (Inv : wt_St → Prop) : Prop := ∀ (σ : wt_St) (x1 x2 : Int32), Inv σ → ∃ q : Nat × Int32 × wt_St, wp_ap_said n x1 x2 σ = some q ∧ (q.1 = 0 ∨ q.1 = 2 ∨ q.1 = 1) ∧ ∃ r : Int32 × wt_St, wp_md_said n x1 x2 q.2.2 = some r ∧ Inv r.2
def wt_P_lost (n : Nat) (Inv : wt_St → Prop) : Prop := ∀ (σ : wt_St) (x1 : Int32), Inv σ → ∃ q : Nat × Int32 × wt_St, wp_ap_lost n x1 σ = some q ∧ (q.1 = 0 ∨ q.1 = 1) ∧ ∃ r : Int32 × wt_St, wp_md_lost n x1 q.2.2 = some r ∧ Inv r.2
def wt_P_ends (n : Nat) (Inv : wt_St → Prop) : Prop := ∀ (σ : wt_St) (x1 : Int32), Inv σ → ∃ q : Nat × Int32 × wt_St, wp_ap_ends n x1 σ = some q ∧ (q.1 = 0 ∨ q.1 = 2) ∧ ∃ r : Int32 × wt_St, wp_md_ends n x1 q.2.2 = some r ∧ Inv r.2
def wt_P_exchange (n : Nat) (Inv : wt_St → Prop) : Prop := ∀ (σ : wt_St) (x1 : Int32), Inv σ → ∃ q : Nat × Int32 × wt_St, wp_ap_exchange n x1 σ = some q ∧ (q.1 = 0 ∨ q.1 = 2) ∧ ∃ r : Int32 × wt_St, wp_md_exchange n x1 q.2.2 = some r ∧ Inv r.2
def wt_P_cast (n : Nat) (Inv : wt_St → Prop) : Prop := ∀ (σ : wt_St) (x1 x2 : Int32), Inv σ → ∃ q : Nat × Int32 × wt_St, wp_ap_cast n x1 x2 σ = some q ∧ (q.1 = 0 ∨ q.1 = 2 ∨ q.1 = 1) ∧ ∃ r : Int32 × wt_St, wp_md_cast n x1 x2 q.2.2 = some r ∧ Inv r.2
def wt_P_together (n : Nat) (Inv : wt_St → Prop) : Prop := ∀ (σ : wt_St) (x1 : Int32), Inv σ → ∃ q : Nat × Int32 × wt_St, wp_ap_together n x1 σ = some q ∧ (q.1 = 0 ∨ q.1 = 1) ∧ ∃ r : Int32 × wt_St, wp_md_together n x1 q.2.2 = some r ∧ Inv r.2
def wt_P_image (n : Nat) (Inv : wt_St → Prop) : Prop := ∀ (σ : wt_St), Inv σ → ∃ q : Int32 × wt_St, wp_ap_image n σ = some q ∧ ∃ r : Int32 × wt_St, wp_md_image n q.2 = some r ∧ Inv r.2
def wt_P_restore (n : Nat) (Inv : wt_St → Prop) : Prop := ∀ (σ : wt_St), Inv σ → ∃ q : Int32 × wt_St, wp_ap_restore n σ = some q ∧ ∃ r : Int32 × wt_St, wp_md_restore n q.2 = some r ∧ Inv r.2
def wt_P_count (n : Nat) (Inv : wt_St → Prop) : Prop := ∀ (σ : wt_St) (x1 : Int32), Inv σ → ∃ q : Int32 × wt_St, wp_ap_count n x1 σ = some q ∧ ∃ r : Int32 × wt_St, wp_md_count n x1 q.2 = some r ∧ Inv r.2
/-- all that is wanted of the programs -/
def wt_P (n : Nat) (Inv : wt_St → Prop) : Prop := wt_P_feed n Inv ∧ wt_P_kase n Inv ∧ wt_P_tongue n Inv ∧ wt_P_text n Inv ∧ wt_P_fault n Inv ∧ wt_P_told n Inv ∧ wt_P_letter n Inv ∧ wt_P_piece n Inv ∧ wt_P_word n Inv ∧ wt_P_at n Inv ∧ wt_P_needs n Inv ∧ wt_P_habit n Inv ∧ wt_P_can n Inv ∧ wt_P_lacks n Inv ∧ wt_P_set n Inv ∧ wt_P_print n Inv ∧ wt_P_apart n Inv ∧ wt_P_page n Inv ∧ wt_P_read n Inv ∧ wt_P_least n Inv ∧ wt_P_fitting n Inv ∧ wt_P_wordings n Inv ∧ wt_P_want n Inv ∧ wt_P_forget n Inv ∧ wt_P_most n Inv ∧ wt_P_greedy n Inv ∧ wt_P_bound n Inv ∧ wt_P_said n Inv ∧ wt_P_lost n Inv ∧ wt_P_ends n Inv ∧ wt_P_exchange n Inv ∧ wt_P_cast n Inv ∧ wt_P_together n Inv ∧ wt_P_image n Inv ∧ wt_P_restore n Inv ∧ wt_P_count n Inv
end WLA
