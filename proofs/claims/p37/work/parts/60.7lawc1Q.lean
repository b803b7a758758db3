-- 60.7lawc1.lean.txt
section WTQ0
section WLC
def wb607lawc1_code_r50 : List (List Nat) := [182, 0, 229, 44, 42, 21, 4, 4, 96, 46, 182, 0, 232, 159, 0, 5, 3, 172, 132, 4, 6, 167, 250, 129, 4, 172] :: []
def wb607lawc1_code_r49 : List (List Nat) := [44, 182, 0, 224, 87, 167, 0, 41, 43, 182, 0, 225, 87, 44, 182, 0, 228, 87, 167, 0, 28, 43, 42, 21, 4, 4, 96, 46] :: wb607lawc1_code_r50
def wb607lawc1_code_r48 : List (List Nat) := [96, 46, 45, 184, 0, 218, 54, 5, 44, 42, 21, 4, 4, 96, 46, 182, 0, 220, 54, 6, 167, 0, 54, 43, 182, 0, 221, 87] :: wb607lawc1_code_r49
def wb607lawc1_code_r47 : List (List Nat) := [54, 5, 44, 42, 21, 4, 4, 96, 46, 42, 21, 4, 5, 96, 46, 182, 0, 217, 54, 6, 167, 0, 82, 43, 42, 21, 4, 4] :: wb607lawc1_code_r48
def wb607lawc1_code_r46 : List (List Nat) := [4, 96, 46, 182, 0, 214, 54, 6, 167, 0, 122, 43, 42, 21, 4, 4, 96, 46, 42, 21, 4, 5, 96, 46, 45, 184, 0, 215] :: wb607lawc1_code_r47
def wb607lawc1_code_r45 : List (List Nat) := [4, 96, 46, 182, 0, 211, 54, 6, 167, 0, 150, 43, 42, 21, 4, 4, 96, 46, 45, 184, 0, 212, 54, 5, 44, 42, 21, 4] :: wb607lawc1_code_r46
def wb607lawc1_code_r44 : List (List Nat) := [4, 96, 46, 182, 0, 208, 54, 6, 167, 0, 178, 43, 42, 21, 4, 4, 96, 46, 45, 184, 0, 209, 54, 5, 44, 42, 21, 4] :: wb607lawc1_code_r45
def wb607lawc1_code_r43 : List (List Nat) := [5, 96, 46, 182, 0, 205, 54, 6, 167, 0, 206, 43, 42, 21, 4, 4, 96, 46, 45, 184, 0, 206, 54, 5, 44, 42, 21, 4] :: wb607lawc1_code_r44
def wb607lawc1_code_r42 : List (List Nat) := [43, 42, 21, 4, 4, 96, 46, 42, 21, 4, 5, 96, 46, 45, 184, 0, 203, 54, 5, 44, 42, 21, 4, 4, 96, 46, 42, 21, 4] :: wb607lawc1_code_r43
def wb607lawc1_code_r41 : List (List Nat) := [54, 5, 44, 42, 21, 4, 4, 96, 46, 182, 0, 198, 54, 6, 167, 1, 3, 43, 182, 0, 199, 87, 44, 182, 0, 202, 87, 167, 0, 246] :: wb607lawc1_code_r42
def wb607lawc1_code_r40 : List (List Nat) := [54, 5, 44, 42, 21, 4, 4, 96, 46, 182, 0, 195, 54, 6, 167, 1, 31, 43, 42, 21, 4, 4, 96, 46, 45, 184, 0, 196] :: wb607lawc1_code_r41
def wb607lawc1_code_r39 : List (List Nat) := [54, 6, 167, 1, 72, 43, 182, 0, 189, 87, 44, 182, 0, 192, 87, 167, 1, 59, 43, 42, 21, 4, 4, 96, 46, 45, 184, 0, 193] :: wb607lawc1_code_r40
def wb607lawc1_code_r38 : List (List Nat) := [54, 5, 44, 42, 21, 4, 4, 96, 46, 42, 21, 4, 5, 96, 46, 42, 21, 4, 6, 96, 46, 42, 21, 4, 7, 96, 46, 182, 0, 188] :: wb607lawc1_code_r39
def wb607lawc1_code_r37 : List (List Nat) := [43, 42, 21, 4, 4, 96, 46, 42, 21, 4, 5, 96, 46, 42, 21, 4, 6, 96, 46, 42, 21, 4, 7, 96, 46, 45, 184, 0, 186] :: wb607lawc1_code_r38
def wb607lawc1_code_r36 : List (List Nat) := [43, 42, 21, 4, 4, 96, 46, 45, 184, 0, 183, 54, 5, 44, 42, 21, 4, 4, 96, 46, 182, 0, 185, 54, 6, 167, 1, 136] :: wb607lawc1_code_r37
def wb607lawc1_code_r35 : List (List Nat) := [4, 96, 46, 42, 21, 4, 5, 96, 46, 42, 21, 4, 6, 96, 46, 42, 21, 4, 7, 96, 46, 182, 0, 182, 54, 6, 167, 1, 164] :: wb607lawc1_code_r36
def wb607lawc1_code_r34 : List (List Nat) := [46, 42, 21, 4, 5, 96, 46, 42, 21, 4, 6, 96, 46, 42, 21, 4, 7, 96, 46, 45, 184, 0, 179, 54, 5, 44, 42, 21, 4] :: wb607lawc1_code_r35
def wb607lawc1_code_r33 : List (List Nat) := [96, 46, 42, 21, 4, 5, 96, 46, 42, 21, 4, 6, 96, 46, 182, 0, 178, 54, 6, 167, 1, 228, 43, 42, 21, 4, 4, 96] :: wb607lawc1_code_r34
def wb607lawc1_code_r32 : List (List Nat) := [21, 4, 4, 96, 46, 42, 21, 4, 5, 96, 46, 42, 21, 4, 6, 96, 46, 45, 184, 0, 176, 54, 5, 44, 42, 21, 4, 4] :: wb607lawc1_code_r33
def wb607lawc1_code_r31 : List (List Nat) := [184, 0, 173, 54, 5, 44, 42, 21, 4, 4, 96, 46, 42, 21, 4, 5, 96, 46, 182, 0, 175, 54, 6, 167, 2, 24, 43, 42] :: wb607lawc1_code_r32
def wb607lawc1_code_r30 : List (List Nat) := [42, 21, 4, 5, 96, 46, 182, 0, 172, 54, 6, 167, 2, 64, 43, 42, 21, 4, 4, 96, 46, 42, 21, 4, 5, 96, 46, 45] :: wb607lawc1_code_r31
def wb607lawc1_code_r29 : List (List Nat) := [2, 104, 43, 42, 21, 4, 4, 96, 46, 42, 21, 4, 5, 96, 46, 45, 184, 0, 170, 54, 5, 44, 42, 21, 4, 4, 96, 46] :: wb607lawc1_code_r30
def wb607lawc1_code_r28 : List (List Nat) := [2, 132, 43, 42, 21, 4, 4, 96, 46, 45, 184, 0, 167, 54, 5, 44, 42, 21, 4, 4, 96, 46, 182, 0, 169, 54, 6, 167] :: wb607lawc1_code_r29
def wb607lawc1_code_r27 : List (List Nat) := [5, 96, 46, 45, 184, 0, 164, 54, 5, 44, 42, 21, 4, 4, 96, 46, 42, 21, 4, 5, 96, 46, 182, 0, 166, 54, 6, 167] :: wb607lawc1_code_r28
def wb607lawc1_code_r26 : List (List Nat) := [4, 4, 96, 46, 42, 21, 4, 5, 96, 46, 182, 0, 163, 54, 6, 167, 2, 172, 43, 42, 21, 4, 4, 96, 46, 42, 21, 4] :: wb607lawc1_code_r27
def wb607lawc1_code_r25 : List (List Nat) := [160, 54, 6, 167, 2, 212, 43, 42, 21, 4, 4, 96, 46, 42, 21, 4, 5, 96, 46, 45, 184, 0, 161, 54, 5, 44, 42, 21] :: wb607lawc1_code_r26
def wb607lawc1_code_r24 : List (List Nat) := [46, 42, 21, 4, 5, 96, 46, 45, 184, 0, 158, 54, 5, 44, 42, 21, 4, 4, 96, 46, 42, 21, 4, 5, 96, 46, 182, 0] :: wb607lawc1_code_r25
def wb607lawc1_code_r23 : List (List Nat) := [46, 45, 184, 0, 155, 54, 5, 44, 42, 21, 4, 4, 96, 46, 182, 0, 157, 54, 6, 167, 2, 252, 43, 42, 21, 4, 4, 96] :: wb607lawc1_code_r24
def wb607lawc1_code_r22 : List (List Nat) := [46, 45, 184, 0, 152, 54, 5, 44, 42, 21, 4, 4, 96, 46, 182, 0, 154, 54, 6, 167, 3, 24, 43, 42, 21, 4, 4, 96] :: wb607lawc1_code_r23
def wb607lawc1_code_r21 : List (List Nat) := [5, 44, 42, 21, 4, 4, 96, 46, 42, 21, 4, 5, 96, 46, 182, 0, 151, 54, 6, 167, 3, 52, 43, 42, 21, 4, 4, 96] :: wb607lawc1_code_r22
def wb607lawc1_code_r20 : List (List Nat) := [96, 46, 182, 0, 148, 54, 6, 167, 3, 92, 43, 42, 21, 4, 4, 96, 46, 42, 21, 4, 5, 96, 46, 45, 184, 0, 149, 54] :: wb607lawc1_code_r21
def wb607lawc1_code_r19 : List (List Nat) := [21, 4, 4, 96, 46, 42, 21, 4, 5, 96, 46, 45, 184, 0, 146, 54, 5, 44, 42, 21, 4, 4, 96, 46, 42, 21, 4, 5] :: wb607lawc1_code_r20
def wb607lawc1_code_r18 : List (List Nat) := [184, 0, 143, 54, 5, 44, 42, 21, 4, 4, 96, 46, 42, 21, 4, 5, 96, 46, 182, 0, 145, 54, 6, 167, 3, 132, 43, 42] :: wb607lawc1_code_r19
def wb607lawc1_code_r17 : List (List Nat) := [42, 21, 4, 6, 96, 46, 182, 0, 142, 54, 6, 167, 3, 172, 43, 42, 21, 4, 4, 96, 46, 42, 21, 4, 5, 96, 46, 45] :: wb607lawc1_code_r18
def wb607lawc1_code_r16 : List (List Nat) := [5, 96, 46, 42, 21, 4, 6, 96, 46, 45, 184, 0, 139, 54, 5, 44, 42, 21, 4, 4, 96, 46, 42, 21, 4, 5, 96, 46] :: wb607lawc1_code_r17
def wb607lawc1_code_r15 : List (List Nat) := [4, 4, 96, 46, 42, 21, 4, 5, 96, 46, 182, 0, 138, 54, 6, 167, 3, 224, 43, 42, 21, 4, 4, 96, 46, 42, 21, 4] :: wb607lawc1_code_r16
def wb607lawc1_code_r14 : List (List Nat) := [134, 54, 6, 167, 4, 8, 43, 42, 21, 4, 4, 96, 46, 42, 21, 4, 5, 96, 46, 45, 184, 0, 135, 54, 5, 44, 42, 21] :: wb607lawc1_code_r15
def wb607lawc1_code_r13 : List (List Nat) := [0, 131, 87, 167, 4, 36, 43, 42, 21, 4, 4, 96, 46, 45, 184, 0, 132, 54, 5, 44, 42, 21, 4, 4, 96, 46, 182, 0] :: wb607lawc1_code_r14
def wb607lawc1_code_r12 : List (List Nat) := [45, 184, 0, 124, 54, 5, 44, 42, 21, 4, 4, 96, 46, 182, 0, 126, 54, 6, 167, 4, 49, 43, 182, 0, 127, 87, 44, 182] :: wb607lawc1_code_r13
def wb607lawc1_code_r11 : List (List Nat) := [45, 184, 0, 121, 54, 5, 44, 42, 21, 4, 4, 96, 46, 182, 0, 123, 54, 6, 167, 4, 77, 43, 42, 21, 4, 4, 96, 46] :: wb607lawc1_code_r12
def wb607lawc1_code_r10 : List (List Nat) := [45, 184, 0, 115, 54, 5, 44, 42, 21, 4, 4, 96, 46, 182, 0, 120, 54, 6, 167, 4, 105, 43, 42, 21, 4, 4, 96, 46] :: wb607lawc1_code_r11
def wb607lawc1_code_r9 : List (List Nat) := [96, 46, 42, 21, 4, 7, 96, 46, 42, 21, 4, 8, 96, 46, 182, 0, 114, 87, 167, 4, 133, 43, 42, 21, 4, 4, 96, 46] :: wb607lawc1_code_r10
def wb607lawc1_code_r8 : List (List Nat) := [46, 42, 21, 4, 8, 96, 46, 182, 0, 110, 87, 44, 42, 21, 4, 4, 96, 46, 42, 21, 4, 5, 96, 46, 42, 21, 4, 6] :: wb607lawc1_code_r9
def wb607lawc1_code_r7 : List (List Nat) := [0, 0, 5, 82, 43, 42, 21, 4, 4, 96, 46, 42, 21, 4, 5, 96, 46, 42, 21, 4, 6, 96, 46, 42, 21, 4, 7, 96] :: wb607lawc1_code_r8
def wb607lawc1_code_r6 : List (List Nat) := [0, 0, 4, 160, 0, 0, 4, 188, 0, 0, 4, 216, 0, 0, 4, 244, 0, 0, 5, 28, 0, 0, 5, 56, 0, 0, 5, 69] :: wb607lawc1_code_r7
def wb607lawc1_code_r5 : List (List Nat) := [0, 0, 3, 202, 0, 0, 3, 230, 0, 0, 4, 38, 0, 0, 4, 51, 0, 0, 4, 79, 0, 0, 4, 107, 0, 0, 4, 120] :: wb607lawc1_code_r6
def wb607lawc1_code_r4 : List (List Nat) := [0, 0, 2, 154, 0, 0, 2, 194, 0, 0, 2, 234, 0, 0, 3, 6, 0, 0, 3, 46, 0, 0, 3, 86, 0, 0, 3, 138] :: wb607lawc1_code_r5
def wb607lawc1_code_r3 : List (List Nat) := [0, 0, 1, 142, 0, 0, 1, 194, 0, 0, 1, 234, 0, 0, 2, 18, 0, 0, 2, 58, 0, 0, 2, 86, 0, 0, 2, 114] :: wb607lawc1_code_r4
def wb607lawc1_code_r2 : List (List Nat) := [0, 0, 0, 160, 0, 0, 0, 233, 0, 0, 1, 5, 0, 0, 1, 33, 0, 0, 1, 61, 0, 0, 1, 74, 0, 0, 1, 102] :: wb607lawc1_code_r3
def wb607lawc1_code_r1 : List (List Nat) := [6, 100, 163, 5, 123, 42, 21, 4, 46, 16, 63, 126, 170, 0, 0, 0, 0, 0, 5, 107, 0, 0, 0, 0, 0, 0, 0, 35] :: wb607lawc1_code_r2
def wb607lawc1_code_r0 : List (List Nat) := [187, 0, 8, 89, 183, 0, 106, 76, 187, 0, 107, 89, 183, 0, 109, 77, 4, 188, 11, 78, 3, 54, 4, 21, 4, 42, 190, 16] :: wb607lawc1_code_r1
set_option maxRecDepth 100000 in
theorem wb607lawc1_code_c0 : wt_cs code 0 wb607lawc1_code_r0 := wt_cs_of (by decide +kernel)
theorem wb607lawc1_code_c1 : wt_cs code 28 wb607lawc1_code_r1 := wt_cs_tl (m := 28) wb607lawc1_code_c0 rfl rfl
theorem wb607lawc1_code_c2 : wt_cs code 56 wb607lawc1_code_r2 := wt_cs_tl (m := 28) wb607lawc1_code_c1 rfl rfl
theorem wb607lawc1_code_c3 : wt_cs code 84 wb607lawc1_code_r3 := wt_cs_tl (m := 28) wb607lawc1_code_c2 rfl rfl
theorem wb607lawc1_code_c4 : wt_cs code 112 wb607lawc1_code_r4 := wt_cs_tl (m := 28) wb607lawc1_code_c3 rfl rfl
theorem wb607lawc1_code_c5 : wt_cs code 140 wb607lawc1_code_r5 := wt_cs_tl (m := 28) wb607lawc1_code_c4 rfl rfl
theorem wb607lawc1_code_c6 : wt_cs code 168 wb607lawc1_code_r6 := wt_cs_tl (m := 28) wb607lawc1_code_c5 rfl rfl
theorem wb607lawc1_code_c7 : wt_cs code 196 wb607lawc1_code_r7 := wt_cs_tl (m := 28) wb607lawc1_code_c6 rfl rfl
theorem wb607lawc1_code_c8 : wt_cs code 224 wb607lawc1_code_r8 := wt_cs_tl (m := 28) wb607lawc1_code_c7 rfl rfl
theorem wb607lawc1_code_c9 : wt_cs code 252 wb607lawc1_code_r9 := wt_cs_tl (m := 28) wb607lawc1_code_c8 rfl rfl
theorem wb607lawc1_code_c10 : wt_cs code 280 wb607lawc1_code_r10 := wt_cs_tl (m := 28) wb607lawc1_code_c9 rfl rfl
theorem wb607lawc1_code_c11 : wt_cs code 308 wb607lawc1_code_r11 := wt_cs_tl (m := 28) wb607lawc1_code_c10 rfl rfl
theorem wb607lawc1_code_c12 : wt_cs code 336 wb607lawc1_code_r12 := wt_cs_tl (m := 28) wb607lawc1_code_c11 rfl rfl
theorem wb607lawc1_code_c13 : wt_cs code 364 wb607lawc1_code_r13 := wt_cs_tl (m := 28) wb607lawc1_code_c12 rfl rfl
theorem wb607lawc1_code_c14 : wt_cs code 392 wb607lawc1_code_r14 := wt_cs_tl (m := 28) wb607lawc1_code_c13 rfl rfl
theorem wb607lawc1_code_c15 : wt_cs code 420 wb607lawc1_code_r15 := wt_cs_tl (m := 28) wb607lawc1_code_c14 rfl rfl
theorem wb607lawc1_code_c16 : wt_cs code 448 wb607lawc1_code_r16 := wt_cs_tl (m := 28) wb607lawc1_code_c15 rfl rfl
theorem wb607lawc1_code_c17 : wt_cs code 476 wb607lawc1_code_r17 := wt_cs_tl (m := 28) wb607lawc1_code_c16 rfl rfl
theorem wb607lawc1_code_c18 : wt_cs code 504 wb607lawc1_code_r18 := wt_cs_tl (m := 28) wb607lawc1_code_c17 rfl rfl
theorem wb607lawc1_code_c19 : wt_cs code 532 wb607lawc1_code_r19 := wt_cs_tl (m := 28) wb607lawc1_code_c18 rfl rfl
theorem wb607lawc1_code_c20 : wt_cs code 560 wb607lawc1_code_r20 := wt_cs_tl (m := 28) wb607lawc1_code_c19 rfl rfl
theorem wb607lawc1_code_c21 : wt_cs code 588 wb607lawc1_code_r21 := wt_cs_tl (m := 28) wb607lawc1_code_c20 rfl rfl
theorem wb607lawc1_code_c22 : wt_cs code 616 wb607lawc1_code_r22 := wt_cs_tl (m := 28) wb607lawc1_code_c21 rfl rfl
theorem wb607lawc1_code_c23 : wt_cs code 644 wb607lawc1_code_r23 := wt_cs_tl (m := 28) wb607lawc1_code_c22 rfl rfl
theorem wb607lawc1_code_c24 : wt_cs code 672 wb607lawc1_code_r24 := wt_cs_tl (m := 28) wb607lawc1_code_c23 rfl rfl
theorem wb607lawc1_code_c25 : wt_cs code 700 wb607lawc1_code_r25 := wt_cs_tl (m := 28) wb607lawc1_code_c24 rfl rfl
theorem wb607lawc1_code_c26 : wt_cs code 728 wb607lawc1_code_r26 := wt_cs_tl (m := 28) wb607lawc1_code_c25 rfl rfl
theorem wb607lawc1_code_c27 : wt_cs code 756 wb607lawc1_code_r27 := wt_cs_tl (m := 28) wb607lawc1_code_c26 rfl rfl
theorem wb607lawc1_code_c28 : wt_cs code 784 wb607lawc1_code_r28 := wt_cs_tl (m := 28) wb607lawc1_code_c27 rfl rfl
theorem wb607lawc1_code_c29 : wt_cs code 812 wb607lawc1_code_r29 := wt_cs_tl (m := 28) wb607lawc1_code_c28 rfl rfl
theorem wb607lawc1_code_c30 : wt_cs code 840 wb607lawc1_code_r30 := wt_cs_tl (m := 28) wb607lawc1_code_c29 rfl rfl
theorem wb607lawc1_code_c31 : wt_cs code 868 wb607lawc1_code_r31 := wt_cs_tl (m := 28) wb607lawc1_code_c30 rfl rfl
theorem wb607lawc1_code_c32 : wt_cs code 896 wb607lawc1_code_r32 := wt_cs_tl (m := 28) wb607lawc1_code_c31 rfl rfl
theorem wb607lawc1_code_c33 : wt_cs code 924 wb607lawc1_code_r33 := wt_cs_tl (m := 28) wb607lawc1_code_c32 rfl rfl
theorem wb607lawc1_code_c34 : wt_cs code 952 wb607lawc1_code_r34 := wt_cs_tl (m := 28) wb607lawc1_code_c33 rfl rfl
theorem wb607lawc1_code_c35 : wt_cs code 981 wb607lawc1_code_r35 := wt_cs_tl (m := 29) wb607lawc1_code_c34 rfl rfl
theorem wb607lawc1_code_c36 : wt_cs code 1010 wb607lawc1_code_r36 := wt_cs_tl (m := 29) wb607lawc1_code_c35 rfl rfl
theorem wb607lawc1_code_c37 : wt_cs code 1038 wb607lawc1_code_r37 := wt_cs_tl (m := 28) wb607lawc1_code_c36 rfl rfl
theorem wb607lawc1_code_c38 : wt_cs code 1067 wb607lawc1_code_r38 := wt_cs_tl (m := 29) wb607lawc1_code_c37 rfl rfl
theorem wb607lawc1_code_c39 : wt_cs code 1097 wb607lawc1_code_r39 := wt_cs_tl (m := 30) wb607lawc1_code_c38 rfl rfl
theorem wb607lawc1_code_c40 : wt_cs code 1126 wb607lawc1_code_r40 := wt_cs_tl (m := 29) wb607lawc1_code_c39 rfl rfl
theorem wb607lawc1_code_c41 : wt_cs code 1154 wb607lawc1_code_r41 := wt_cs_tl (m := 28) wb607lawc1_code_c40 rfl rfl
theorem wb607lawc1_code_c42 : wt_cs code 1184 wb607lawc1_code_r42 := wt_cs_tl (m := 30) wb607lawc1_code_c41 rfl rfl
theorem wb607lawc1_code_c43 : wt_cs code 1213 wb607lawc1_code_r43 := wt_cs_tl (m := 29) wb607lawc1_code_c42 rfl rfl
theorem wb607lawc1_code_c44 : wt_cs code 1241 wb607lawc1_code_r44 := wt_cs_tl (m := 28) wb607lawc1_code_c43 rfl rfl
theorem wb607lawc1_code_c45 : wt_cs code 1269 wb607lawc1_code_r45 := wt_cs_tl (m := 28) wb607lawc1_code_c44 rfl rfl
theorem wb607lawc1_code_c46 : wt_cs code 1297 wb607lawc1_code_r46 := wt_cs_tl (m := 28) wb607lawc1_code_c45 rfl rfl
theorem wb607lawc1_code_c47 : wt_cs code 1325 wb607lawc1_code_r47 := wt_cs_tl (m := 28) wb607lawc1_code_c46 rfl rfl
theorem wb607lawc1_code_c48 : wt_cs code 1353 wb607lawc1_code_r48 := wt_cs_tl (m := 28) wb607lawc1_code_c47 rfl rfl
theorem wb607lawc1_code_c49 : wt_cs code 1381 wb607lawc1_code_r49 := wt_cs_tl (m := 28) wb607lawc1_code_c48 rfl rfl
theorem wb607lawc1_code_c50 : wt_cs code 1409 wb607lawc1_code_r50 := wt_cs_tl (m := 28) wb607lawc1_code_c49 rfl rfl
theorem wld_854 : decode code 854 = .ok (.aload_n 1, 1) := wt_op43 wb607lawc1_code_c30 14 rfl rfl
theorem wld_855 : decode code 855 = .ok (.aload_n 0, 1) := wt_op42 wb607lawc1_code_c30 15 rfl rfl
theorem wld_856 : decode code 856 = .ok (.iload 4, 2) := wt_op21 wb607lawc1_code_c30 16 rfl rfl
theorem wld_858 : decode code 858 = .ok (.iconst 1, 1) := wt_op4 wb607lawc1_code_c30 18 rfl rfl
theorem wld_859 : decode code 859 = .ok (.iadd, 1) := wt_op96 wb607lawc1_code_c30 19 rfl rfl
theorem wld_860 : decode code 860 = .ok (.iaload, 1) := wt_op46 wb607lawc1_code_c30 20 rfl rfl
theorem wld_861 : decode code 861 = .ok (.aload_n 0, 1) := wt_op42 wb607lawc1_code_c30 21 rfl rfl
theorem wld_862 : decode code 862 = .ok (.iload 4, 2) := wt_op21 wb607lawc1_code_c30 22 rfl rfl
theorem wld_864 : decode code 864 = .ok (.iconst 2, 1) := wt_op5 wb607lawc1_code_c30 24 rfl rfl
theorem wld_865 : decode code 865 = .ok (.iadd, 1) := wt_op96 wb607lawc1_code_c30 25 rfl rfl
theorem wld_866 : decode code 866 = .ok (.iaload, 1) := wt_op46 wb607lawc1_code_c30 26 rfl rfl
theorem wld_867 : decode code 867 = .ok (.aload_n 3, 1) := wt_op45 wb607lawc1_code_c30 27 rfl rfl
theorem wld_868 : decode code 868 = .ok (.invokestatic 173, 3) := wt_op184 wb607lawc1_code_c31 0 rfl rfl rfl
theorem wld_871 : decode code 871 = .ok (.istore 5, 2) := wt_op54 wb607lawc1_code_c31 3 rfl rfl
theorem wld_873 : decode code 873 = .ok (.aload_n 2, 1) := wt_op44 wb607lawc1_code_c31 5 rfl rfl
theorem wld_874 : decode code 874 = .ok (.aload_n 0, 1) := wt_op42 wb607lawc1_code_c31 6 rfl rfl
theorem wld_875 : decode code 875 = .ok (.iload 4, 2) := wt_op21 wb607lawc1_code_c31 7 rfl rfl
theorem wld_877 : decode code 877 = .ok (.iconst 1, 1) := wt_op4 wb607lawc1_code_c31 9 rfl rfl
theorem wld_878 : decode code 878 = .ok (.iadd, 1) := wt_op96 wb607lawc1_code_c31 10 rfl rfl
theorem wld_879 : decode code 879 = .ok (.iaload, 1) := wt_op46 wb607lawc1_code_c31 11 rfl rfl
theorem wld_880 : decode code 880 = .ok (.aload_n 0, 1) := wt_op42 wb607lawc1_code_c31 12 rfl rfl
theorem wld_881 : decode code 881 = .ok (.iload 4, 2) := wt_op21 wb607lawc1_code_c31 13 rfl rfl
theorem wld_883 : decode code 883 = .ok (.iconst 2, 1) := wt_op5 wb607lawc1_code_c31 15 rfl rfl
theorem wld_884 : decode code 884 = .ok (.iadd, 1) := wt_op96 wb607lawc1_code_c31 16 rfl rfl
theorem wld_885 : decode code 885 = .ok (.iaload, 1) := wt_op46 wb607lawc1_code_c31 17 rfl rfl
theorem wld_886 : decode code 886 = .ok (.invokevirtual 175, 3) := wt_op182 wb607lawc1_code_c31 18 rfl rfl rfl
theorem wld_889 : decode code 889 = .ok (.istore 6, 2) := wt_op54 wb607lawc1_code_c31 21 rfl rfl
theorem wld_891 : decode code 891 = .ok (.goto 536, 3) := wt_op167 wb607lawc1_code_c31 23 rfl rfl rfl
set_option maxRecDepth 100000 in
set_option maxHeartbeats 4000000 in
theorem wl_read {X : wt_X} {o b L : Nat} {xs : Nat → Int32} {n K : Nat} {Inv : wt_St → Prop} {i : Int32} (hE : wt_OkO X o code 7 "WornTypeLaw" 400 100000) (hdm : ∀ i, wt_dom (wt_xw X) i ↔ i < 321) (hSN : wt_SN (wt_Ao (wt_xw X) o (wt_xs X).heap.size) (wt_xs X) (wt_xs X).heap) (htr : (wt_xl X).stackTraces = false) (hX : wt_scr X o b L xs) (hi : ∀ c : Int32, c = 1 ∨ c = 2 ∨ c = 3 ∨ c = 4 ∨ c = 5 → vp_in (i + c) L) (hK : K + 8 ≤ 100000) (hP : wt_P_read n Inv) {σ : wt_St} (hσ : Inv σ) (kn : ∀ τ : wt_St, Inv τ → wt_O X o (K + 8) τ 1427 [some (.ref b), some (.ref (wt_ad (wt_xw X) 0)), some (.ref (wt_ad (wt_xw X) 108)), some (.ref o), some (.int i), none, none] []) : wt_O X o K σ 854 [some (.ref b), some (.ref (wt_ad (wt_xw X) 0)), some (.ref (wt_ad (wt_xw X) 108)), some (.ref o), some (.int i), none, none] [] := by
  have hD : ∀ i, i < 108 → wt_dom (wt_xw X) i := fun i hi => (hdm i).mpr (by omega)
  have hM : ∀ i, 108 ≤ i → i < 321 → wt_dom (wt_xw X) i := fun i _ hi => (hdm i).mpr hi
  obtain ⟨q, hq, hx, r, hr, hI⟩ := hP _ (xs (i + (1 : Int32)).toNatClampNeg) (xs (i + (2 : Int32)).toNatClampNeg) hσ
  refine wt_o_aload_n hE wld_854 rfl ?_
  refine wt_o_aload_n hE wld_855 rfl ?_
  refine wt_o_iload hE wld_856 rfl ?_
  refine wt_o_iconst hE (1 : Int32) wld_858 (by decide) ?_
  refine wt_o_iadd hE wld_859 ?_
  refine wt_o_sld hE hX (hi 1 (by decide)) wld_860 ?_
  refine wt_o_aload_n hE wld_861 rfl ?_
  refine wt_o_iload hE wld_862 rfl ?_
  refine wt_o_iconst hE (2 : Int32) wld_864 (by decide) ?_
  refine wt_o_iadd hE wld_865 ?_
  refine wt_o_sld hE hX (hi 2 (by decide)) wld_866 ?_
  refine wt_o_aload_n hE wld_867 rfl ?_
  refine wt_o_callW hE hSN (k := 4) (dd := 8) (mc := 8) [.ref (wt_ad (wt_xw X) 0), .int (xs (i + (1 : Int32)).toNatClampNeg), .int (xs (i + (2 : Int32)).toNatClampNeg), .ref o] (wt_g5 162 rfl rfl) (wt_g5 163 rfl rfl) (wt_g1 0 rfl rfl) wt_cm_read ⟨by decide, by decide, by decide +kernel⟩ (by decide) (ww_read_ok htr hE.2.2 hD hq hx) (by decide) rfl rfl (Nat.le_of_ble_eq_true rfl) (by omega) wld_868 (fun w5 => ?_)
  refine wt_o_istore hE [some (.ref b), some (.ref (wt_ad (wt_xw X) 0)), some (.ref (wt_ad (wt_xw X) 108)), some (.ref o), some (.int i), some (.int w5), none] wld_871 (by decide) rfl ?_
  refine wt_o_aload_n hE wld_873 rfl ?_
  refine wt_o_aload_n hE wld_874 rfl ?_
  refine wt_o_iload hE wld_875 rfl ?_
  refine wt_o_iconst hE (1 : Int32) wld_877 (by decide) ?_
  refine wt_o_iadd hE wld_878 ?_
  refine wt_o_sld hE hX (hi 1 (by decide)) wld_879 ?_
  refine wt_o_aload_n hE wld_880 rfl ?_
  refine wt_o_iload hE wld_881 rfl ?_
  refine wt_o_iconst hE (2 : Int32) wld_883 (by decide) ?_
  refine wt_o_iadd hE wld_884 ?_
  refine wt_o_sld hE hX (hi 2 (by decide)) wld_885 ?_
  refine wt_o_callVi (dd := 2) hE [.int (xs (i + (1 : Int32)).toNatClampNeg), .int (xs (i + (2 : Int32)).toNatClampNeg)] wt_lm_lw_175 wt_ya_md_read (wp_md_read_ok hM hr) (by decide) (hM 108 (by decide) (by decide)) wt_L108 rfl rfl rfl (Nat.le_of_ble_eq_true rfl) (by omega) wld_886 ?_
  refine wt_o_istore hE [some (.ref b), some (.ref (wt_ad (wt_xw X) 0)), some (.ref (wt_ad (wt_xw X) 108)), some (.ref o), some (.int i), some (.int w5), some (.int r.1)] wld_889 (by decide) rfl ?_
  refine wt_o_goto hE 1427 wld_891 rfl ?_
  exact wt_o_wk [true, true, true, true, true, false, false] rfl (kn _ hI)
theorem wld_894 : decode code 894 = .ok (.aload_n 1, 1) := wt_op43 wb607lawc1_code_c31 26 rfl rfl
theorem wld_895 : decode code 895 = .ok (.aload_n 0, 1) := wt_op42 wb607lawc1_code_c31 27 rfl rfl
theorem wld_896 : decode code 896 = .ok (.iload 4, 2) := wt_op21 wb607lawc1_code_c32 0 rfl rfl
theorem wld_898 : decode code 898 = .ok (.iconst 1, 1) := wt_op4 wb607lawc1_code_c32 2 rfl rfl
theorem wld_899 : decode code 899 = .ok (.iadd, 1) := wt_op96 wb607lawc1_code_c32 3 rfl rfl
theorem wld_900 : decode code 900 = .ok (.iaload, 1) := wt_op46 wb607lawc1_code_c32 4 rfl rfl
theorem wld_901 : decode code 901 = .ok (.aload_n 0, 1) := wt_op42 wb607lawc1_code_c32 5 rfl rfl
theorem wld_902 : decode code 902 = .ok (.iload 4, 2) := wt_op21 wb607lawc1_code_c32 6 rfl rfl
theorem wld_904 : decode code 904 = .ok (.iconst 2, 1) := wt_op5 wb607lawc1_code_c32 8 rfl rfl
theorem wld_905 : decode code 905 = .ok (.iadd, 1) := wt_op96 wb607lawc1_code_c32 9 rfl rfl
theorem wld_906 : decode code 906 = .ok (.iaload, 1) := wt_op46 wb607lawc1_code_c32 10 rfl rfl
theorem wld_907 : decode code 907 = .ok (.aload_n 0, 1) := wt_op42 wb607lawc1_code_c32 11 rfl rfl
theorem wld_908 : decode code 908 = .ok (.iload 4, 2) := wt_op21 wb607lawc1_code_c32 12 rfl rfl
theorem wld_910 : decode code 910 = .ok (.iconst 3, 1) := wt_op6 wb607lawc1_code_c32 14 rfl rfl
theorem wld_911 : decode code 911 = .ok (.iadd, 1) := wt_op96 wb607lawc1_code_c32 15 rfl rfl
theorem wld_912 : decode code 912 = .ok (.iaload, 1) := wt_op46 wb607lawc1_code_c32 16 rfl rfl
theorem wld_913 : decode code 913 = .ok (.aload_n 3, 1) := wt_op45 wb607lawc1_code_c32 17 rfl rfl
theorem wld_914 : decode code 914 = .ok (.invokestatic 176, 3) := wt_op184 wb607lawc1_code_c32 18 rfl rfl rfl
theorem wld_917 : decode code 917 = .ok (.istore 5, 2) := wt_op54 wb607lawc1_code_c32 21 rfl rfl
theorem wld_919 : decode code 919 = .ok (.aload_n 2, 1) := wt_op44 wb607lawc1_code_c32 23 rfl rfl
theorem wld_920 : decode code 920 = .ok (.aload_n 0, 1) := wt_op42 wb607lawc1_code_c32 24 rfl rfl
theorem wld_921 : decode code 921 = .ok (.iload 4, 2) := wt_op21 wb607lawc1_code_c32 25 rfl rfl
theorem wld_923 : decode code 923 = .ok (.iconst 1, 1) := wt_op4 wb607lawc1_code_c32 27 rfl rfl
theorem wld_924 : decode code 924 = .ok (.iadd, 1) := wt_op96 wb607lawc1_code_c33 0 rfl rfl
theorem wld_925 : decode code 925 = .ok (.iaload, 1) := wt_op46 wb607lawc1_code_c33 1 rfl rfl
theorem wld_926 : decode code 926 = .ok (.aload_n 0, 1) := wt_op42 wb607lawc1_code_c33 2 rfl rfl
theorem wld_927 : decode code 927 = .ok (.iload 4, 2) := wt_op21 wb607lawc1_code_c33 3 rfl rfl
theorem wld_929 : decode code 929 = .ok (.iconst 2, 1) := wt_op5 wb607lawc1_code_c33 5 rfl rfl
theorem wld_930 : decode code 930 = .ok (.iadd, 1) := wt_op96 wb607lawc1_code_c33 6 rfl rfl
theorem wld_931 : decode code 931 = .ok (.iaload, 1) := wt_op46 wb607lawc1_code_c33 7 rfl rfl
theorem wld_932 : decode code 932 = .ok (.aload_n 0, 1) := wt_op42 wb607lawc1_code_c33 8 rfl rfl
theorem wld_933 : decode code 933 = .ok (.iload 4, 2) := wt_op21 wb607lawc1_code_c33 9 rfl rfl
theorem wld_935 : decode code 935 = .ok (.iconst 3, 1) := wt_op6 wb607lawc1_code_c33 11 rfl rfl
theorem wld_936 : decode code 936 = .ok (.iadd, 1) := wt_op96 wb607lawc1_code_c33 12 rfl rfl
theorem wld_937 : decode code 937 = .ok (.iaload, 1) := wt_op46 wb607lawc1_code_c33 13 rfl rfl
theorem wld_938 : decode code 938 = .ok (.invokevirtual 178, 3) := wt_op182 wb607lawc1_code_c33 14 rfl rfl rfl
theorem wld_941 : decode code 941 = .ok (.istore 6, 2) := wt_op54 wb607lawc1_code_c33 17 rfl rfl
theorem wld_943 : decode code 943 = .ok (.goto 484, 3) := wt_op167 wb607lawc1_code_c33 19 rfl rfl rfl
set_option maxRecDepth 100000 in
set_option maxHeartbeats 4000000 in
theorem wl_least {X : wt_X} {o b L : Nat} {xs : Nat → Int32} {n K : Nat} {Inv : wt_St → Prop} {i : Int32} (hE : wt_OkO X o code 7 "WornTypeLaw" 400 100000) (hdm : ∀ i, wt_dom (wt_xw X) i ↔ i < 321) (hSN : wt_SN (wt_Ao (wt_xw X) o (wt_xs X).heap.size) (wt_xs X) (wt_xs X).heap) (htr : (wt_xl X).stackTraces = false) (hX : wt_scr X o b L xs) (hi : ∀ c : Int32, c = 1 ∨ c = 2 ∨ c = 3 ∨ c = 4 ∨ c = 5 → vp_in (i + c) L) (hK : K + 8 ≤ 100000) (hP : wt_P_least n Inv) {σ : wt_St} (hσ : Inv σ) (kn : ∀ τ : wt_St, Inv τ → wt_O X o (K + 8) τ 1427 [some (.ref b), some (.ref (wt_ad (wt_xw X) 0)), some (.ref (wt_ad (wt_xw X) 108)), some (.ref o), some (.int i), none, none] []) : wt_O X o K σ 894 [some (.ref b), some (.ref (wt_ad (wt_xw X) 0)), some (.ref (wt_ad (wt_xw X) 108)), some (.ref o), some (.int i), none, none] [] := by
  have hD : ∀ i, i < 108 → wt_dom (wt_xw X) i := fun i hi => (hdm i).mpr (by omega)
  have hM : ∀ i, 108 ≤ i → i < 321 → wt_dom (wt_xw X) i := fun i _ hi => (hdm i).mpr hi
  obtain ⟨q, hq, hx, r, hr, hI⟩ := hP _ (xs (i + (1 : Int32)).toNatClampNeg) (xs (i + (2 : Int32)).toNatClampNeg) (xs (i + (3 : Int32)).toNatClampNeg) hσ
  refine wt_o_aload_n hE wld_894 rfl ?_
  refine wt_o_aload_n hE wld_895 rfl ?_
  refine wt_o_iload hE wld_896 rfl ?_
  refine wt_o_iconst hE (1 : Int32) wld_898 (by decide) ?_
  refine wt_o_iadd hE wld_899 ?_
  refine wt_o_sld hE hX (hi 1 (by decide)) wld_900 ?_
  refine wt_o_aload_n hE wld_901 rfl ?_
  refine wt_o_iload hE wld_902 rfl ?_
  refine wt_o_iconst hE (2 : Int32) wld_904 (by decide) ?_
  refine wt_o_iadd hE wld_905 ?_
  refine wt_o_sld hE hX (hi 2 (by decide)) wld_906 ?_
  refine wt_o_aload_n hE wld_907 rfl ?_
  refine wt_o_iload hE wld_908 rfl ?_
  refine wt_o_iconst hE (3 : Int32) wld_910 (by decide) ?_
  refine wt_o_iadd hE wld_911 ?_
  refine wt_o_sld hE hX (hi 3 (by decide)) wld_912 ?_
  refine wt_o_aload_n hE wld_913 rfl ?_
  refine wt_o_callW hE hSN (k := 5) (dd := 8) (mc := 8) [.ref (wt_ad (wt_xw X) 0), .int (xs (i + (1 : Int32)).toNatClampNeg), .int (xs (i + (2 : Int32)).toNatClampNeg), .int (xs (i + (3 : Int32)).toNatClampNeg), .ref o] (wt_g5 170 rfl rfl) (wt_g5 171 rfl rfl) (wt_g1 0 rfl rfl) wt_cm_least ⟨by decide, by decide, by decide +kernel⟩ (by decide) (ww_least_ok htr hE.2.2 hD hq hx) (by decide) rfl rfl (Nat.le_of_ble_eq_true rfl) (by omega) wld_914 (fun w5 => ?_)
  refine wt_o_istore hE [some (.ref b), some (.ref (wt_ad (wt_xw X) 0)), some (.ref (wt_ad (wt_xw X) 108)), some (.ref o), some (.int i), some (.int w5), none] wld_917 (by decide) rfl ?_
  refine wt_o_aload_n hE wld_919 rfl ?_
  refine wt_o_aload_n hE wld_920 rfl ?_
  refine wt_o_iload hE wld_921 rfl ?_
  refine wt_o_iconst hE (1 : Int32) wld_923 (by decide) ?_
  refine wt_o_iadd hE wld_924 ?_
  refine wt_o_sld hE hX (hi 1 (by decide)) wld_925 ?_
  refine wt_o_aload_n hE wld_926 rfl ?_
  refine wt_o_iload hE wld_927 rfl ?_
  refine wt_o_iconst hE (2 : Int32) wld_929 (by decide) ?_
  refine wt_o_iadd hE wld_930 ?_
  refine wt_o_sld hE hX (hi 2 (by decide)) wld_931 ?_
  refine wt_o_aload_n hE wld_932 rfl ?_
  refine wt_o_iload hE wld_933 rfl ?_
  refine wt_o_iconst hE (3 : Int32) wld_935 (by decide) ?_
  refine wt_o_iadd hE wld_936 ?_
  refine wt_o_sld hE hX (hi 3 (by decide)) wld_937 ?_
  refine wt_o_callVi (dd := 2) hE [.int (xs (i + (1 : Int32)).toNatClampNeg), .int (xs (i + (2 : Int32)).toNatClampNeg), .int (xs (i + (3 : Int32)).toNatClampNeg)] wt_lm_lw_178 wt_ya_md_least (wp_md_least_ok hM hr) (by decide) (hM 108 (by decide) (by decide)) wt_L108 rfl rfl rfl (Nat.le_of_ble_eq_true rfl) (by omega) wld_938 ?_
  refine wt_o_istore hE [some (.ref b), some (.ref (wt_ad (wt_xw X) 0)), some (.ref (wt_ad (wt_xw X) 108)), some (.ref o), some (.int i), some (.int w5), some (.int r.1)] wld_941 (by decide) rfl ?_
  refine wt_o_goto hE 1427 wld_943 rfl ?_
  exact wt_o_wk [true, true, true, true, true, false, false] rfl (kn _ hI)
theorem wld_946 : decode code 946 = .ok (.aload_n 1, 1) := wt_op43 wb607lawc1_code_c33 22 rfl rfl
theorem wld_947 : decode code 947 = .ok (.aload_n 0, 1) := wt_op42 wb607lawc1_code_c33 23 rfl rfl
theorem wld_948 : decode code 948 = .ok (.iload 4, 2) := wt_op21 wb607lawc1_code_c33 24 rfl rfl
theorem wld_950 : decode code 950 = .ok (.iconst 1, 1) := wt_op4 wb607lawc1_code_c33 26 rfl rfl
theorem wld_951 : decode code 951 = .ok (.iadd, 1) := wt_op96 wb607lawc1_code_c33 27 rfl rfl
theorem wld_952 : decode code 952 = .ok (.iaload, 1) := wt_op46 wb607lawc1_code_c34 0 rfl rfl
theorem wld_953 : decode code 953 = .ok (.aload_n 0, 1) := wt_op42 wb607lawc1_code_c34 1 rfl rfl
theorem wld_954 : decode code 954 = .ok (.iload 4, 2) := wt_op21 wb607lawc1_code_c34 2 rfl rfl
theorem wld_956 : decode code 956 = .ok (.iconst 2, 1) := wt_op5 wb607lawc1_code_c34 4 rfl rfl
theorem wld_957 : decode code 957 = .ok (.iadd, 1) := wt_op96 wb607lawc1_code_c34 5 rfl rfl
theorem wld_958 : decode code 958 = .ok (.iaload, 1) := wt_op46 wb607lawc1_code_c34 6 rfl rfl
theorem wld_959 : decode code 959 = .ok (.aload_n 0, 1) := wt_op42 wb607lawc1_code_c34 7 rfl rfl
theorem wld_960 : decode code 960 = .ok (.iload 4, 2) := wt_op21 wb607lawc1_code_c34 8 rfl rfl
theorem wld_962 : decode code 962 = .ok (.iconst 3, 1) := wt_op6 wb607lawc1_code_c34 10 rfl rfl
theorem wld_963 : decode code 963 = .ok (.iadd, 1) := wt_op96 wb607lawc1_code_c34 11 rfl rfl
theorem wld_964 : decode code 964 = .ok (.iaload, 1) := wt_op46 wb607lawc1_code_c34 12 rfl rfl
theorem wld_965 : decode code 965 = .ok (.aload_n 0, 1) := wt_op42 wb607lawc1_code_c34 13 rfl rfl
theorem wld_966 : decode code 966 = .ok (.iload 4, 2) := wt_op21 wb607lawc1_code_c34 14 rfl rfl
theorem wld_968 : decode code 968 = .ok (.iconst 4, 1) := wt_op7 wb607lawc1_code_c34 16 rfl rfl
theorem wld_969 : decode code 969 = .ok (.iadd, 1) := wt_op96 wb607lawc1_code_c34 17 rfl rfl
theorem wld_970 : decode code 970 = .ok (.iaload, 1) := wt_op46 wb607lawc1_code_c34 18 rfl rfl
theorem wld_971 : decode code 971 = .ok (.aload_n 3, 1) := wt_op45 wb607lawc1_code_c34 19 rfl rfl
theorem wld_972 : decode code 972 = .ok (.invokestatic 179, 3) := wt_op184 wb607lawc1_code_c34 20 rfl rfl rfl
theorem wld_975 : decode code 975 = .ok (.istore 5, 2) := wt_op54 wb607lawc1_code_c34 23 rfl rfl
theorem wld_977 : decode code 977 = .ok (.aload_n 2, 1) := wt_op44 wb607lawc1_code_c34 25 rfl rfl
theorem wld_978 : decode code 978 = .ok (.aload_n 0, 1) := wt_op42 wb607lawc1_code_c34 26 rfl rfl
theorem wld_979 : decode code 979 = .ok (.iload 4, 2) := wt_op21 wb607lawc1_code_c34 27 rfl rfl
theorem wld_981 : decode code 981 = .ok (.iconst 1, 1) := wt_op4 wb607lawc1_code_c35 0 rfl rfl
theorem wld_982 : decode code 982 = .ok (.iadd, 1) := wt_op96 wb607lawc1_code_c35 1 rfl rfl
theorem wld_983 : decode code 983 = .ok (.iaload, 1) := wt_op46 wb607lawc1_code_c35 2 rfl rfl
theorem wld_984 : decode code 984 = .ok (.aload_n 0, 1) := wt_op42 wb607lawc1_code_c35 3 rfl rfl
theorem wld_985 : decode code 985 = .ok (.iload 4, 2) := wt_op21 wb607lawc1_code_c35 4 rfl rfl
theorem wld_987 : decode code 987 = .ok (.iconst 2, 1) := wt_op5 wb607lawc1_code_c35 6 rfl rfl
theorem wld_988 : decode code 988 = .ok (.iadd, 1) := wt_op96 wb607lawc1_code_c35 7 rfl rfl
theorem wld_989 : decode code 989 = .ok (.iaload, 1) := wt_op46 wb607lawc1_code_c35 8 rfl rfl
theorem wld_990 : decode code 990 = .ok (.aload_n 0, 1) := wt_op42 wb607lawc1_code_c35 9 rfl rfl
theorem wld_991 : decode code 991 = .ok (.iload 4, 2) := wt_op21 wb607lawc1_code_c35 10 rfl rfl
theorem wld_993 : decode code 993 = .ok (.iconst 3, 1) := wt_op6 wb607lawc1_code_c35 12 rfl rfl
theorem wld_994 : decode code 994 = .ok (.iadd, 1) := wt_op96 wb607lawc1_code_c35 13 rfl rfl
theorem wld_995 : decode code 995 = .ok (.iaload, 1) := wt_op46 wb607lawc1_code_c35 14 rfl rfl
theorem wld_996 : decode code 996 = .ok (.aload_n 0, 1) := wt_op42 wb607lawc1_code_c35 15 rfl rfl
theorem wld_997 : decode code 997 = .ok (.iload 4, 2) := wt_op21 wb607lawc1_code_c35 16 rfl rfl
theorem wld_999 : decode code 999 = .ok (.iconst 4, 1) := wt_op7 wb607lawc1_code_c35 18 rfl rfl
theorem wld_1000 : decode code 1000 = .ok (.iadd, 1) := wt_op96 wb607lawc1_code_c35 19 rfl rfl
theorem wld_1001 : decode code 1001 = .ok (.iaload, 1) := wt_op46 wb607lawc1_code_c35 20 rfl rfl
theorem wld_1002 : decode code 1002 = .ok (.invokevirtual 182, 3) := wt_op182 wb607lawc1_code_c35 21 rfl rfl rfl
theorem wld_1005 : decode code 1005 = .ok (.istore 6, 2) := wt_op54 wb607lawc1_code_c35 24 rfl rfl
theorem wld_1007 : decode code 1007 = .ok (.goto 420, 3) := wt_op167 wb607lawc1_code_c35 26 rfl rfl rfl
set_option maxRecDepth 100000 in
set_option maxHeartbeats 4000000 in
theorem wl_fitting {X : wt_X} {o b L : Nat} {xs : Nat → Int32} {n K : Nat} {Inv : wt_St → Prop} {i : Int32} (hE : wt_OkO X o code 7 "WornTypeLaw" 400 100000) (hdm : ∀ i, wt_dom (wt_xw X) i ↔ i < 321) (hSN : wt_SN (wt_Ao (wt_xw X) o (wt_xs X).heap.size) (wt_xs X) (wt_xs X).heap) (htr : (wt_xl X).stackTraces = false) (hX : wt_scr X o b L xs) (hi : ∀ c : Int32, c = 1 ∨ c = 2 ∨ c = 3 ∨ c = 4 ∨ c = 5 → vp_in (i + c) L) (hK : K + 8 ≤ 100000) (hP : wt_P_fitting n Inv) {σ : wt_St} (hσ : Inv σ) (kn : ∀ τ : wt_St, Inv τ → wt_O X o (K + 8) τ 1427 [some (.ref b), some (.ref (wt_ad (wt_xw X) 0)), some (.ref (wt_ad (wt_xw X) 108)), some (.ref o), some (.int i), none, none] []) : wt_O X o K σ 946 [some (.ref b), some (.ref (wt_ad (wt_xw X) 0)), some (.ref (wt_ad (wt_xw X) 108)), some (.ref o), some (.int i), none, none] [] := by
  have hD : ∀ i, i < 108 → wt_dom (wt_xw X) i := fun i hi => (hdm i).mpr (by omega)
  have hM : ∀ i, 108 ≤ i → i < 321 → wt_dom (wt_xw X) i := fun i _ hi => (hdm i).mpr hi
  obtain ⟨q, hq, hx, r, hr, hI⟩ := hP _ (xs (i + (1 : Int32)).toNatClampNeg) (xs (i + (2 : Int32)).toNatClampNeg) (xs (i + (3 : Int32)).toNatClampNeg) (xs (i + (4 : Int32)).toNatClampNeg) hσ
  refine wt_o_aload_n hE wld_946 rfl ?_
  refine wt_o_aload_n hE wld_947 rfl ?_
  refine wt_o_iload hE wld_948 rfl ?_
  refine wt_o_iconst hE (1 : Int32) wld_950 (by decide) ?_
  refine wt_o_iadd hE wld_951 ?_
  refine wt_o_sld hE hX (hi 1 (by decide)) wld_952 ?_
  refine wt_o_aload_n hE wld_953 rfl ?_
  refine wt_o_iload hE wld_954 rfl ?_
  refine wt_o_iconst hE (2 : Int32) wld_956 (by decide) ?_
  refine wt_o_iadd hE wld_957 ?_
  refine wt_o_sld hE hX (hi 2 (by decide)) wld_958 ?_
  refine wt_o_aload_n hE wld_959 rfl ?_
  refine wt_o_iload hE wld_960 rfl ?_
  refine wt_o_iconst hE (3 : Int32) wld_962 (by decide) ?_
  refine wt_o_iadd hE wld_963 ?_
  refine wt_o_sld hE hX (hi 3 (by decide)) wld_964 ?_
  refine wt_o_aload_n hE wld_965 rfl ?_
  refine wt_o_iload hE wld_966 rfl ?_
  refine wt_o_iconst hE (4 : Int32) wld_968 (by decide) ?_
  refine wt_o_iadd hE wld_969 ?_
  refine wt_o_sld hE hX (hi 4 (by decide)) wld_970 ?_
  refine wt_o_aload_n hE wld_971 rfl ?_
  refine wt_o_callW hE hSN (k := 6) (dd := 22) (mc := 8) [.ref (wt_ad (wt_xw X) 0), .int (xs (i + (1 : Int32)).toNatClampNeg), .int (xs (i + (2 : Int32)).toNatClampNeg), .int (xs (i + (3 : Int32)).toNatClampNeg), .int (xs (i + (4 : Int32)).toNatClampNeg), .ref o] (wt_g5 218 rfl rfl) (wt_g5 219 rfl rfl) (wt_g1 0 rfl rfl) wt_cm_fitting ⟨by decide, by decide, by decide +kernel⟩ (by decide) (ww_fitting_ok htr hE.2.2 hD hq hx) (by decide) rfl rfl (Nat.le_of_ble_eq_true rfl) (by omega) wld_972 (fun w5 => ?_)
  refine wt_o_istore hE [some (.ref b), some (.ref (wt_ad (wt_xw X) 0)), some (.ref (wt_ad (wt_xw X) 108)), some (.ref o), some (.int i), some (.int w5), none] wld_975 (by decide) rfl ?_
  refine wt_o_aload_n hE wld_977 rfl ?_
  refine wt_o_aload_n hE wld_978 rfl ?_
  refine wt_o_iload hE wld_979 rfl ?_
  refine wt_o_iconst hE (1 : Int32) wld_981 (by decide) ?_
  refine wt_o_iadd hE wld_982 ?_
  refine wt_o_sld hE hX (hi 1 (by decide)) wld_983 ?_
  refine wt_o_aload_n hE wld_984 rfl ?_
  refine wt_o_iload hE wld_985 rfl ?_
  refine wt_o_iconst hE (2 : Int32) wld_987 (by decide) ?_
  refine wt_o_iadd hE wld_988 ?_
  refine wt_o_sld hE hX (hi 2 (by decide)) wld_989 ?_
  refine wt_o_aload_n hE wld_990 rfl ?_
  refine wt_o_iload hE wld_991 rfl ?_
  refine wt_o_iconst hE (3 : Int32) wld_993 (by decide) ?_
  refine wt_o_iadd hE wld_994 ?_
  refine wt_o_sld hE hX (hi 3 (by decide)) wld_995 ?_
  refine wt_o_aload_n hE wld_996 rfl ?_
  refine wt_o_iload hE wld_997 rfl ?_
  refine wt_o_iconst hE (4 : Int32) wld_999 (by decide) ?_
  refine wt_o_iadd hE wld_1000 ?_
  refine wt_o_sld hE hX (hi 4 (by decide)) wld_1001 ?_
  refine wt_o_callVi (dd := 20) hE [.int (xs (i + (1 : Int32)).toNatClampNeg), .int (xs (i + (2 : Int32)).toNatClampNeg), .int (xs (i + (3 : Int32)).toNatClampNeg), .int (xs (i + (4 : Int32)).toNatClampNeg)] wt_lm_lw_182 wt_ya_md_fitting (wp_md_fitting_ok hM hr) (by decide) (hM 108 (by decide) (by decide)) wt_L108 rfl rfl rfl (Nat.le_of_ble_eq_true rfl) (by omega) wld_1002 ?_
  refine wt_o_istore hE [some (.ref b), some (.ref (wt_ad (wt_xw X) 0)), some (.ref (wt_ad (wt_xw X) 108)), some (.ref o), some (.int i), some (.int w5), some (.int r.1)] wld_1005 (by decide) rfl ?_
  refine wt_o_goto hE 1427 wld_1007 rfl ?_
  exact wt_o_wk [true, true, true, true, true, false, false] rfl (kn _ hI)
theorem wld_1010 : decode code 1010 = .ok (.aload_n 1, 1) := wt_op43 wb607lawc1_code_c36 0 rfl rfl
theorem wld_1011 : decode code 1011 = .ok (.aload_n 0, 1) := wt_op42 wb607lawc1_code_c36 1 rfl rfl
theorem wld_1012 : decode code 1012 = .ok (.iload 4, 2) := wt_op21 wb607lawc1_code_c36 2 rfl rfl
theorem wld_1014 : decode code 1014 = .ok (.iconst 1, 1) := wt_op4 wb607lawc1_code_c36 4 rfl rfl
theorem wld_1015 : decode code 1015 = .ok (.iadd, 1) := wt_op96 wb607lawc1_code_c36 5 rfl rfl
theorem wld_1016 : decode code 1016 = .ok (.iaload, 1) := wt_op46 wb607lawc1_code_c36 6 rfl rfl
theorem wld_1017 : decode code 1017 = .ok (.aload_n 3, 1) := wt_op45 wb607lawc1_code_c36 7 rfl rfl
theorem wld_1018 : decode code 1018 = .ok (.invokestatic 183, 3) := wt_op184 wb607lawc1_code_c36 8 rfl rfl rfl
theorem wld_1021 : decode code 1021 = .ok (.istore 5, 2) := wt_op54 wb607lawc1_code_c36 11 rfl rfl
theorem wld_1023 : decode code 1023 = .ok (.aload_n 2, 1) := wt_op44 wb607lawc1_code_c36 13 rfl rfl
theorem wld_1024 : decode code 1024 = .ok (.aload_n 0, 1) := wt_op42 wb607lawc1_code_c36 14 rfl rfl
theorem wld_1025 : decode code 1025 = .ok (.iload 4, 2) := wt_op21 wb607lawc1_code_c36 15 rfl rfl
theorem wld_1027 : decode code 1027 = .ok (.iconst 1, 1) := wt_op4 wb607lawc1_code_c36 17 rfl rfl
theorem wld_1028 : decode code 1028 = .ok (.iadd, 1) := wt_op96 wb607lawc1_code_c36 18 rfl rfl
theorem wld_1029 : decode code 1029 = .ok (.iaload, 1) := wt_op46 wb607lawc1_code_c36 19 rfl rfl
theorem wld_1030 : decode code 1030 = .ok (.invokevirtual 185, 3) := wt_op182 wb607lawc1_code_c36 20 rfl rfl rfl
theorem wld_1033 : decode code 1033 = .ok (.istore 6, 2) := wt_op54 wb607lawc1_code_c36 23 rfl rfl
theorem wld_1035 : decode code 1035 = .ok (.goto 392, 3) := wt_op167 wb607lawc1_code_c36 25 rfl rfl rfl
set_option maxRecDepth 100000 in
set_option maxHeartbeats 4000000 in
theorem wl_wordings {X : wt_X} {o b L : Nat} {xs : Nat → Int32} {n K : Nat} {Inv : wt_St → Prop} {i : Int32} (hE : wt_OkO X o code 7 "WornTypeLaw" 400 100000) (hdm : ∀ i, wt_dom (wt_xw X) i ↔ i < 321) (hSN : wt_SN (wt_Ao (wt_xw X) o (wt_xs X).heap.size) (wt_xs X) (wt_xs X).heap) (htr : (wt_xl X).stackTraces = false) (hX : wt_scr X o b L xs) (hi : ∀ c : Int32, c = 1 ∨ c = 2 ∨ c = 3 ∨ c = 4 ∨ c = 5 → vp_in (i + c) L) (hK : K + 8 ≤ 100000) (hP : wt_P_wordings n Inv) {σ : wt_St} (hσ : Inv σ) (kn : ∀ τ : wt_St, Inv τ → wt_O X o (K + 8) τ 1427 [some (.ref b), some (.ref (wt_ad (wt_xw X) 0)), some (.ref (wt_ad (wt_xw X) 108)), some (.ref o), some (.int i), none, none] []) : wt_O X o K σ 1010 [some (.ref b), some (.ref (wt_ad (wt_xw X) 0)), some (.ref (wt_ad (wt_xw X) 108)), some (.ref o), some (.int i), none, none] [] := by
  have hD : ∀ i, i < 108 → wt_dom (wt_xw X) i := fun i hi => (hdm i).mpr (by omega)
  have hM : ∀ i, 108 ≤ i → i < 321 → wt_dom (wt_xw X) i := fun i _ hi => (hdm i).mpr hi
  obtain ⟨q, hq, hx, r, hr, hI⟩ := hP _ (xs (i + (1 : Int32)).toNatClampNeg) hσ
  refine wt_o_aload_n hE wld_1010 rfl ?_
  refine wt_o_aload_n hE wld_1011 rfl ?_
  refine wt_o_iload hE wld_1012 rfl ?_
  refine wt_o_iconst hE (1 : Int32) wld_1014 (by decide) ?_
  refine wt_o_iadd hE wld_1015 ?_
  refine wt_o_sld hE hX (hi 1 (by decide)) wld_1016 ?_
  refine wt_o_aload_n hE wld_1017 rfl ?_
  refine wt_o_callW hE hSN (k := 3) (dd := 8) (mc := 8) [.ref (wt_ad (wt_xw X) 0), .int (xs (i + (1 : Int32)).toNatClampNeg), .ref o] (wt_g6 2 rfl rfl) (wt_g6 3 rfl rfl) (wt_g1 0 rfl rfl) wt_cm_wordings ⟨by decide, by decide, by decide +kernel⟩ (by decide) (ww_wordings_ok htr hE.2.2 hD hq hx) (by decide) rfl rfl (Nat.le_of_ble_eq_true rfl) (by omega) wld_1018 (fun w5 => ?_)
  refine wt_o_istore hE [some (.ref b), some (.ref (wt_ad (wt_xw X) 0)), some (.ref (wt_ad (wt_xw X) 108)), some (.ref o), some (.int i), some (.int w5), none] wld_1021 (by decide) rfl ?_
  refine wt_o_aload_n hE wld_1023 rfl ?_
  refine wt_o_aload_n hE wld_1024 rfl ?_
  refine wt_o_iload hE wld_1025 rfl ?_
  refine wt_o_iconst hE (1 : Int32) wld_1027 (by decide) ?_
  refine wt_o_iadd hE wld_1028 ?_
  refine wt_o_sld hE hX (hi 1 (by decide)) wld_1029 ?_
  refine wt_o_callVi (dd := 2) hE [.int (xs (i + (1 : Int32)).toNatClampNeg)] wt_lm_lw_185 wt_ya_md_wordings (wp_md_wordings_ok hM hr) (by decide) (hM 108 (by decide) (by decide)) wt_L108 rfl rfl rfl (Nat.le_of_ble_eq_true rfl) (by omega) wld_1030 ?_
  refine wt_o_istore hE [some (.ref b), some (.ref (wt_ad (wt_xw X) 0)), some (.ref (wt_ad (wt_xw X) 108)), some (.ref o), some (.int i), some (.int w5), some (.int r.1)] wld_1033 (by decide) rfl ?_
  refine wt_o_goto hE 1427 wld_1035 rfl ?_
  exact wt_o_wk [true, true, true, true, true, false, false] rfl (kn _ hI)
theorem wld_1038 : decode code 1038 = .ok (.aload_n 1, 1) := wt_op43 wb607lawc1_code_c37 0 rfl rfl
theorem wld_1039 : decode code 1039 = .ok (.aload_n 0, 1) := wt_op42 wb607lawc1_code_c37 1 rfl rfl
theorem wld_1040 : decode code 1040 = .ok (.iload 4, 2) := wt_op21 wb607lawc1_code_c37 2 rfl rfl
theorem wld_1042 : decode code 1042 = .ok (.iconst 1, 1) := wt_op4 wb607lawc1_code_c37 4 rfl rfl
theorem wld_1043 : decode code 1043 = .ok (.iadd, 1) := wt_op96 wb607lawc1_code_c37 5 rfl rfl
theorem wld_1044 : decode code 1044 = .ok (.iaload, 1) := wt_op46 wb607lawc1_code_c37 6 rfl rfl
theorem wld_1045 : decode code 1045 = .ok (.aload_n 0, 1) := wt_op42 wb607lawc1_code_c37 7 rfl rfl
theorem wld_1046 : decode code 1046 = .ok (.iload 4, 2) := wt_op21 wb607lawc1_code_c37 8 rfl rfl
theorem wld_1048 : decode code 1048 = .ok (.iconst 2, 1) := wt_op5 wb607lawc1_code_c37 10 rfl rfl
theorem wld_1049 : decode code 1049 = .ok (.iadd, 1) := wt_op96 wb607lawc1_code_c37 11 rfl rfl
theorem wld_1050 : decode code 1050 = .ok (.iaload, 1) := wt_op46 wb607lawc1_code_c37 12 rfl rfl
theorem wld_1051 : decode code 1051 = .ok (.aload_n 0, 1) := wt_op42 wb607lawc1_code_c37 13 rfl rfl
theorem wld_1052 : decode code 1052 = .ok (.iload 4, 2) := wt_op21 wb607lawc1_code_c37 14 rfl rfl
theorem wld_1054 : decode code 1054 = .ok (.iconst 3, 1) := wt_op6 wb607lawc1_code_c37 16 rfl rfl
theorem wld_1055 : decode code 1055 = .ok (.iadd, 1) := wt_op96 wb607lawc1_code_c37 17 rfl rfl
theorem wld_1056 : decode code 1056 = .ok (.iaload, 1) := wt_op46 wb607lawc1_code_c37 18 rfl rfl
theorem wld_1057 : decode code 1057 = .ok (.aload_n 0, 1) := wt_op42 wb607lawc1_code_c37 19 rfl rfl
theorem wld_1058 : decode code 1058 = .ok (.iload 4, 2) := wt_op21 wb607lawc1_code_c37 20 rfl rfl
theorem wld_1060 : decode code 1060 = .ok (.iconst 4, 1) := wt_op7 wb607lawc1_code_c37 22 rfl rfl
theorem wld_1061 : decode code 1061 = .ok (.iadd, 1) := wt_op96 wb607lawc1_code_c37 23 rfl rfl
theorem wld_1062 : decode code 1062 = .ok (.iaload, 1) := wt_op46 wb607lawc1_code_c37 24 rfl rfl
theorem wld_1063 : decode code 1063 = .ok (.aload_n 3, 1) := wt_op45 wb607lawc1_code_c37 25 rfl rfl
theorem wld_1064 : decode code 1064 = .ok (.invokestatic 186, 3) := wt_op184 wb607lawc1_code_c37 26 rfl rfl rfl
theorem wld_1067 : decode code 1067 = .ok (.istore 5, 2) := wt_op54 wb607lawc1_code_c38 0 rfl rfl
theorem wld_1069 : decode code 1069 = .ok (.aload_n 2, 1) := wt_op44 wb607lawc1_code_c38 2 rfl rfl
theorem wld_1070 : decode code 1070 = .ok (.aload_n 0, 1) := wt_op42 wb607lawc1_code_c38 3 rfl rfl
theorem wld_1071 : decode code 1071 = .ok (.iload 4, 2) := wt_op21 wb607lawc1_code_c38 4 rfl rfl
theorem wld_1073 : decode code 1073 = .ok (.iconst 1, 1) := wt_op4 wb607lawc1_code_c38 6 rfl rfl
theorem wld_1074 : decode code 1074 = .ok (.iadd, 1) := wt_op96 wb607lawc1_code_c38 7 rfl rfl
theorem wld_1075 : decode code 1075 = .ok (.iaload, 1) := wt_op46 wb607lawc1_code_c38 8 rfl rfl
theorem wld_1076 : decode code 1076 = .ok (.aload_n 0, 1) := wt_op42 wb607lawc1_code_c38 9 rfl rfl
theorem wld_1077 : decode code 1077 = .ok (.iload 4, 2) := wt_op21 wb607lawc1_code_c38 10 rfl rfl
theorem wld_1079 : decode code 1079 = .ok (.iconst 2, 1) := wt_op5 wb607lawc1_code_c38 12 rfl rfl
theorem wld_1080 : decode code 1080 = .ok (.iadd, 1) := wt_op96 wb607lawc1_code_c38 13 rfl rfl
theorem wld_1081 : decode code 1081 = .ok (.iaload, 1) := wt_op46 wb607lawc1_code_c38 14 rfl rfl
theorem wld_1082 : decode code 1082 = .ok (.aload_n 0, 1) := wt_op42 wb607lawc1_code_c38 15 rfl rfl
theorem wld_1083 : decode code 1083 = .ok (.iload 4, 2) := wt_op21 wb607lawc1_code_c38 16 rfl rfl
theorem wld_1085 : decode code 1085 = .ok (.iconst 3, 1) := wt_op6 wb607lawc1_code_c38 18 rfl rfl
theorem wld_1086 : decode code 1086 = .ok (.iadd, 1) := wt_op96 wb607lawc1_code_c38 19 rfl rfl
theorem wld_1087 : decode code 1087 = .ok (.iaload, 1) := wt_op46 wb607lawc1_code_c38 20 rfl rfl
theorem wld_1088 : decode code 1088 = .ok (.aload_n 0, 1) := wt_op42 wb607lawc1_code_c38 21 rfl rfl
theorem wld_1089 : decode code 1089 = .ok (.iload 4, 2) := wt_op21 wb607lawc1_code_c38 22 rfl rfl
theorem wld_1091 : decode code 1091 = .ok (.iconst 4, 1) := wt_op7 wb607lawc1_code_c38 24 rfl rfl
theorem wld_1092 : decode code 1092 = .ok (.iadd, 1) := wt_op96 wb607lawc1_code_c38 25 rfl rfl
theorem wld_1093 : decode code 1093 = .ok (.iaload, 1) := wt_op46 wb607lawc1_code_c38 26 rfl rfl
theorem wld_1094 : decode code 1094 = .ok (.invokevirtual 188, 3) := wt_op182 wb607lawc1_code_c38 27 rfl rfl rfl
theorem wld_1097 : decode code 1097 = .ok (.istore 6, 2) := wt_op54 wb607lawc1_code_c39 0 rfl rfl
theorem wld_1099 : decode code 1099 = .ok (.goto 328, 3) := wt_op167 wb607lawc1_code_c39 2 rfl rfl rfl
set_option maxRecDepth 100000 in
set_option maxHeartbeats 4000000 in
theorem wl_want {X : wt_X} {o b L : Nat} {xs : Nat → Int32} {n K : Nat} {Inv : wt_St → Prop} {i : Int32} (hE : wt_OkO X o code 7 "WornTypeLaw" 400 100000) (hdm : ∀ i, wt_dom (wt_xw X) i ↔ i < 321) (hSN : wt_SN (wt_Ao (wt_xw X) o (wt_xs X).heap.size) (wt_xs X) (wt_xs X).heap) (htr : (wt_xl X).stackTraces = false) (hX : wt_scr X o b L xs) (hi : ∀ c : Int32, c = 1 ∨ c = 2 ∨ c = 3 ∨ c = 4 ∨ c = 5 → vp_in (i + c) L) (hK : K + 8 ≤ 100000) (hP : wt_P_want n Inv) {σ : wt_St} (hσ : Inv σ) (kn : ∀ τ : wt_St, Inv τ → wt_O X o (K + 8) τ 1427 [some (.ref b), some (.ref (wt_ad (wt_xw X) 0)), some (.ref (wt_ad (wt_xw X) 108)), some (.ref o), some (.int i), none, none] []) : wt_O X o K σ 1038 [some (.ref b), some (.ref (wt_ad (wt_xw X) 0)), some (.ref (wt_ad (wt_xw X) 108)), some (.ref o), some (.int i), none, none] [] := by
  have hD : ∀ i, i < 108 → wt_dom (wt_xw X) i := fun i hi => (hdm i).mpr (by omega)
  have hM : ∀ i, 108 ≤ i → i < 321 → wt_dom (wt_xw X) i := fun i _ hi => (hdm i).mpr hi
  obtain ⟨q, hq, hx, r, hr, hI⟩ := hP _ (xs (i + (1 : Int32)).toNatClampNeg) (xs (i + (2 : Int32)).toNatClampNeg) (xs (i + (3 : Int32)).toNatClampNeg) (xs (i + (4 : Int32)).toNatClampNeg) hσ
  refine wt_o_aload_n hE wld_1038 rfl ?_
  refine wt_o_aload_n hE wld_1039 rfl ?_
  refine wt_o_iload hE wld_1040 rfl ?_
  refine wt_o_iconst hE (1 : Int32) wld_1042 (by decide) ?_
  refine wt_o_iadd hE wld_1043 ?_
  refine wt_o_sld hE hX (hi 1 (by decide)) wld_1044 ?_
  refine wt_o_aload_n hE wld_1045 rfl ?_
  refine wt_o_iload hE wld_1046 rfl ?_
  refine wt_o_iconst hE (2 : Int32) wld_1048 (by decide) ?_
  refine wt_o_iadd hE wld_1049 ?_
  refine wt_o_sld hE hX (hi 2 (by decide)) wld_1050 ?_
  refine wt_o_aload_n hE wld_1051 rfl ?_
  refine wt_o_iload hE wld_1052 rfl ?_
  refine wt_o_iconst hE (3 : Int32) wld_1054 (by decide) ?_
  refine wt_o_iadd hE wld_1055 ?_
  refine wt_o_sld hE hX (hi 3 (by decide)) wld_1056 ?_
  refine wt_o_aload_n hE wld_1057 rfl ?_
  refine wt_o_iload hE wld_1058 rfl ?_
  refine wt_o_iconst hE (4 : Int32) wld_1060 (by decide) ?_
  refine wt_o_iadd hE wld_1061 ?_
  refine wt_o_sld hE hX (hi 4 (by decide)) wld_1062 ?_
  refine wt_o_aload_n hE wld_1063 rfl ?_
  refine wt_o_callW hE hSN (k := 6) (dd := 9) (mc := 8) [.ref (wt_ad (wt_xw X) 0), .int (xs (i + (1 : Int32)).toNatClampNeg), .int (xs (i + (2 : Int32)).toNatClampNeg), .int (xs (i + (3 : Int32)).toNatClampNeg), .int (xs (i + (4 : Int32)).toNatClampNeg), .ref o] (wt_g6 19 rfl rfl) (wt_g6 20 rfl rfl) (wt_g1 0 rfl rfl) wt_cm_want ⟨by decide, by decide, by decide +kernel⟩ (by decide) (ww_want_ok htr hE.2.2 hD hq hx) (by decide) rfl rfl (Nat.le_of_ble_eq_true rfl) (by omega) wld_1064 (fun w5 => ?_)
  refine wt_o_istore hE [some (.ref b), some (.ref (wt_ad (wt_xw X) 0)), some (.ref (wt_ad (wt_xw X) 108)), some (.ref o), some (.int i), some (.int w5), none] wld_1067 (by decide) rfl ?_
  refine wt_o_aload_n hE wld_1069 rfl ?_
  refine wt_o_aload_n hE wld_1070 rfl ?_
  refine wt_o_iload hE wld_1071 rfl ?_
  refine wt_o_iconst hE (1 : Int32) wld_1073 (by decide) ?_
  refine wt_o_iadd hE wld_1074 ?_
  refine wt_o_sld hE hX (hi 1 (by decide)) wld_1075 ?_
  refine wt_o_aload_n hE wld_1076 rfl ?_
  refine wt_o_iload hE wld_1077 rfl ?_
  refine wt_o_iconst hE (2 : Int32) wld_1079 (by decide) ?_
  refine wt_o_iadd hE wld_1080 ?_
  refine wt_o_sld hE hX (hi 2 (by decide)) wld_1081 ?_
  refine wt_o_aload_n hE wld_1082 rfl ?_
  refine wt_o_iload hE wld_1083 rfl ?_
  refine wt_o_iconst hE (3 : Int32) wld_1085 (by decide) ?_
  refine wt_o_iadd hE wld_1086 ?_
  refine wt_o_sld hE hX (hi 3 (by decide)) wld_1087 ?_
  refine wt_o_aload_n hE wld_1088 rfl ?_
  refine wt_o_iload hE wld_1089 rfl ?_
  refine wt_o_iconst hE (4 : Int32) wld_1091 (by decide) ?_
  refine wt_o_iadd hE wld_1092 ?_
  refine wt_o_sld hE hX (hi 4 (by decide)) wld_1093 ?_
  refine wt_o_callVi (dd := 2) hE [.int (xs (i + (1 : Int32)).toNatClampNeg), .int (xs (i + (2 : Int32)).toNatClampNeg), .int (xs (i + (3 : Int32)).toNatClampNeg), .int (xs (i + (4 : Int32)).toNatClampNeg)] wt_lm_lw_188 wt_ya_md_want (wp_md_want_ok hM hr) (by decide) (hM 108 (by decide) (by decide)) wt_L108 rfl rfl rfl (Nat.le_of_ble_eq_true rfl) (by omega) wld_1094 ?_
  refine wt_o_istore hE [some (.ref b), some (.ref (wt_ad (wt_xw X) 0)), some (.ref (wt_ad (wt_xw X) 108)), some (.ref o), some (.int i), some (.int w5), some (.int r.1)] wld_1097 (by decide) rfl ?_
  refine wt_o_goto hE 1427 wld_1099 rfl ?_
  exact wt_o_wk [true, true, true, true, true, false, false] rfl (kn _ hI)
theorem wld_1102 : decode code 1102 = .ok (.aload_n 1, 1) := wt_op43 wb607lawc1_code_c39 5 rfl rfl
theorem wld_1103 : decode code 1103 = .ok (.invokevirtual 189, 3) := wt_op182 wb607lawc1_code_c39 6 rfl rfl rfl
theorem wld_1106 : decode code 1106 = .ok (.pop, 1) := wt_op87 wb607lawc1_code_c39 9 rfl rfl
theorem wld_1107 : decode code 1107 = .ok (.aload_n 2, 1) := wt_op44 wb607lawc1_code_c39 10 rfl rfl
theorem wld_1108 : decode code 1108 = .ok (.invokevirtual 192, 3) := wt_op182 wb607lawc1_code_c39 11 rfl rfl rfl
theorem wld_1111 : decode code 1111 = .ok (.pop, 1) := wt_op87 wb607lawc1_code_c39 14 rfl rfl
theorem wld_1112 : decode code 1112 = .ok (.goto 315, 3) := wt_op167 wb607lawc1_code_c39 15 rfl rfl rfl
set_option maxRecDepth 100000 in
set_option maxHeartbeats 4000000 in
theorem wl_forget {X : wt_X} {o b L : Nat} {xs : Nat → Int32} {n K : Nat} {Inv : wt_St → Prop} {i : Int32} (hE : wt_OkO X o code 7 "WornTypeLaw" 400 100000) (hdm : ∀ i, wt_dom (wt_xw X) i ↔ i < 321) (hSN : wt_SN (wt_Ao (wt_xw X) o (wt_xs X).heap.size) (wt_xs X) (wt_xs X).heap) (htr : (wt_xl X).stackTraces = false) (hX : wt_scr X o b L xs) (hi : ∀ c : Int32, c = 1 ∨ c = 2 ∨ c = 3 ∨ c = 4 ∨ c = 5 → vp_in (i + c) L) (hK : K + 8 ≤ 100000) (hP : wt_P_forget n Inv) {σ : wt_St} (hσ : Inv σ) (kn : ∀ τ : wt_St, Inv τ → wt_O X o (K + 8) τ 1427 [some (.ref b), some (.ref (wt_ad (wt_xw X) 0)), some (.ref (wt_ad (wt_xw X) 108)), some (.ref o), some (.int i), none, none] []) : wt_O X o K σ 1102 [some (.ref b), some (.ref (wt_ad (wt_xw X) 0)), some (.ref (wt_ad (wt_xw X) 108)), some (.ref o), some (.int i), none, none] [] := by
  have hD : ∀ i, i < 108 → wt_dom (wt_xw X) i := fun i hi => (hdm i).mpr (by omega)
  have hM : ∀ i, 108 ≤ i → i < 321 → wt_dom (wt_xw X) i := fun i _ hi => (hdm i).mpr hi
  obtain ⟨q, hq, r, hr, hI⟩ := hP _  hσ
  refine wt_o_aload_n hE wld_1102 rfl ?_
  refine wt_o_callVi (dd := 0) hE [] wt_lm_lw_189 wt_ya_ap_forget (wp_ap_forget_ok hD hq) (by decide) (hD 0 (by decide)) wt_L0 rfl rfl rfl (Nat.le_of_ble_eq_true rfl) (by omega) wld_1103 ?_
  refine wt_o_pop hE wld_1106 rfl ?_
  refine wt_o_aload_n hE wld_1107 rfl ?_
  refine wt_o_callVi (dd := 0) hE [] wt_lm_lw_192 wt_ya_md_forget (wp_md_forget_ok hM hr) (by decide) (hM 108 (by decide) (by decide)) wt_L108 rfl rfl rfl (Nat.le_of_ble_eq_true rfl) (by omega) wld_1108 ?_
  refine wt_o_pop hE wld_1111 rfl ?_
  refine wt_o_goto hE 1427 wld_1112 rfl ?_
  refine wt_o_kup (K' := K + 8) (by omega) ?_
  exact wt_o_wk [true, true, true, true, true, false, false] rfl (kn _ hI)
theorem wld_1115 : decode code 1115 = .ok (.aload_n 1, 1) := wt_op43 wb607lawc1_code_c39 18 rfl rfl
theorem wld_1116 : decode code 1116 = .ok (.aload_n 0, 1) := wt_op42 wb607lawc1_code_c39 19 rfl rfl
theorem wld_1117 : decode code 1117 = .ok (.iload 4, 2) := wt_op21 wb607lawc1_code_c39 20 rfl rfl
theorem wld_1119 : decode code 1119 = .ok (.iconst 1, 1) := wt_op4 wb607lawc1_code_c39 22 rfl rfl
theorem wld_1120 : decode code 1120 = .ok (.iadd, 1) := wt_op96 wb607lawc1_code_c39 23 rfl rfl
theorem wld_1121 : decode code 1121 = .ok (.iaload, 1) := wt_op46 wb607lawc1_code_c39 24 rfl rfl
theorem wld_1122 : decode code 1122 = .ok (.aload_n 3, 1) := wt_op45 wb607lawc1_code_c39 25 rfl rfl
theorem wld_1123 : decode code 1123 = .ok (.invokestatic 193, 3) := wt_op184 wb607lawc1_code_c39 26 rfl rfl rfl
theorem wld_1126 : decode code 1126 = .ok (.istore 5, 2) := wt_op54 wb607lawc1_code_c40 0 rfl rfl
theorem wld_1128 : decode code 1128 = .ok (.aload_n 2, 1) := wt_op44 wb607lawc1_code_c40 2 rfl rfl
theorem wld_1129 : decode code 1129 = .ok (.aload_n 0, 1) := wt_op42 wb607lawc1_code_c40 3 rfl rfl
theorem wld_1130 : decode code 1130 = .ok (.iload 4, 2) := wt_op21 wb607lawc1_code_c40 4 rfl rfl
theorem wld_1132 : decode code 1132 = .ok (.iconst 1, 1) := wt_op4 wb607lawc1_code_c40 6 rfl rfl
theorem wld_1133 : decode code 1133 = .ok (.iadd, 1) := wt_op96 wb607lawc1_code_c40 7 rfl rfl
theorem wld_1134 : decode code 1134 = .ok (.iaload, 1) := wt_op46 wb607lawc1_code_c40 8 rfl rfl
theorem wld_1135 : decode code 1135 = .ok (.invokevirtual 195, 3) := wt_op182 wb607lawc1_code_c40 9 rfl rfl rfl
theorem wld_1138 : decode code 1138 = .ok (.istore 6, 2) := wt_op54 wb607lawc1_code_c40 12 rfl rfl
theorem wld_1140 : decode code 1140 = .ok (.goto 287, 3) := wt_op167 wb607lawc1_code_c40 14 rfl rfl rfl
set_option maxRecDepth 100000 in
set_option maxHeartbeats 4000000 in
theorem wl_most {X : wt_X} {o b L : Nat} {xs : Nat → Int32} {n K : Nat} {Inv : wt_St → Prop} {i : Int32} (hE : wt_OkO X o code 7 "WornTypeLaw" 400 100000) (hdm : ∀ i, wt_dom (wt_xw X) i ↔ i < 321) (hSN : wt_SN (wt_Ao (wt_xw X) o (wt_xs X).heap.size) (wt_xs X) (wt_xs X).heap) (htr : (wt_xl X).stackTraces = false) (hX : wt_scr X o b L xs) (hi : ∀ c : Int32, c = 1 ∨ c = 2 ∨ c = 3 ∨ c = 4 ∨ c = 5 → vp_in (i + c) L) (hK : K + 8 ≤ 100000) (hP : wt_P_most n Inv) {σ : wt_St} (hσ : Inv σ) (kn : ∀ τ : wt_St, Inv τ → wt_O X o (K + 8) τ 1427 [some (.ref b), some (.ref (wt_ad (wt_xw X) 0)), some (.ref (wt_ad (wt_xw X) 108)), some (.ref o), some (.int i), none, none] []) : wt_O X o K σ 1115 [some (.ref b), some (.ref (wt_ad (wt_xw X) 0)), some (.ref (wt_ad (wt_xw X) 108)), some (.ref o), some (.int i), none, none] [] := by
  have hD : ∀ i, i < 108 → wt_dom (wt_xw X) i := fun i hi => (hdm i).mpr (by omega)
  have hM : ∀ i, 108 ≤ i → i < 321 → wt_dom (wt_xw X) i := fun i _ hi => (hdm i).mpr hi
  obtain ⟨q, hq, hx, r, hr, hI⟩ := hP _ (xs (i + (1 : Int32)).toNatClampNeg) hσ
  refine wt_o_aload_n hE wld_1115 rfl ?_
  refine wt_o_aload_n hE wld_1116 rfl ?_
  refine wt_o_iload hE wld_1117 rfl ?_
  refine wt_o_iconst hE (1 : Int32) wld_1119 (by decide) ?_
  refine wt_o_iadd hE wld_1120 ?_
  refine wt_o_sld hE hX (hi 1 (by decide)) wld_1121 ?_
  refine wt_o_aload_n hE wld_1122 rfl ?_
  refine wt_o_callW hE hSN (k := 3) (dd := 24) (mc := 8) [.ref (wt_ad (wt_xw X) 0), .int (xs (i + (1 : Int32)).toNatClampNeg), .ref o] (wt_g6 30 rfl rfl) (wt_g6 31 rfl rfl) (wt_g1 0 rfl rfl) wt_cm_most ⟨by decide, by decide, by decide +kernel⟩ (by decide) (ww_most_ok htr hE.2.2 hD hq hx) (by decide) rfl rfl (Nat.le_of_ble_eq_true rfl) (by omega) wld_1123 (fun w5 => ?_)
  refine wt_o_istore hE [some (.ref b), some (.ref (wt_ad (wt_xw X) 0)), some (.ref (wt_ad (wt_xw X) 108)), some (.ref o), some (.int i), some (.int w5), none] wld_1126 (by decide) rfl ?_
  refine wt_o_aload_n hE wld_1128 rfl ?_
  refine wt_o_aload_n hE wld_1129 rfl ?_
  refine wt_o_iload hE wld_1130 rfl ?_
  refine wt_o_iconst hE (1 : Int32) wld_1132 (by decide) ?_
  refine wt_o_iadd hE wld_1133 ?_
  refine wt_o_sld hE hX (hi 1 (by decide)) wld_1134 ?_
  refine wt_o_callVi (dd := 6) hE [.int (xs (i + (1 : Int32)).toNatClampNeg)] wt_lm_lw_195 wt_ya_md_most (wp_md_most_ok hM hr) (by decide) (hM 108 (by decide) (by decide)) wt_L108 rfl rfl rfl (Nat.le_of_ble_eq_true rfl) (by omega) wld_1135 ?_
  refine wt_o_istore hE [some (.ref b), some (.ref (wt_ad (wt_xw X) 0)), some (.ref (wt_ad (wt_xw X) 108)), some (.ref o), some (.int i), some (.int w5), some (.int r.1)] wld_1138 (by decide) rfl ?_
  refine wt_o_goto hE 1427 wld_1140 rfl ?_
  exact wt_o_wk [true, true, true, true, true, false, false] rfl (kn _ hI)
theorem wld_1143 : decode code 1143 = .ok (.aload_n 1, 1) := wt_op43 wb607lawc1_code_c40 17 rfl rfl
theorem wld_1144 : decode code 1144 = .ok (.aload_n 0, 1) := wt_op42 wb607lawc1_code_c40 18 rfl rfl
theorem wld_1145 : decode code 1145 = .ok (.iload 4, 2) := wt_op21 wb607lawc1_code_c40 19 rfl rfl
theorem wld_1147 : decode code 1147 = .ok (.iconst 1, 1) := wt_op4 wb607lawc1_code_c40 21 rfl rfl
theorem wld_1148 : decode code 1148 = .ok (.iadd, 1) := wt_op96 wb607lawc1_code_c40 22 rfl rfl
theorem wld_1149 : decode code 1149 = .ok (.iaload, 1) := wt_op46 wb607lawc1_code_c40 23 rfl rfl
theorem wld_1150 : decode code 1150 = .ok (.aload_n 3, 1) := wt_op45 wb607lawc1_code_c40 24 rfl rfl
theorem wld_1151 : decode code 1151 = .ok (.invokestatic 196, 3) := wt_op184 wb607lawc1_code_c40 25 rfl rfl rfl
theorem wld_1154 : decode code 1154 = .ok (.istore 5, 2) := wt_op54 wb607lawc1_code_c41 0 rfl rfl
theorem wld_1156 : decode code 1156 = .ok (.aload_n 2, 1) := wt_op44 wb607lawc1_code_c41 2 rfl rfl
theorem wld_1157 : decode code 1157 = .ok (.aload_n 0, 1) := wt_op42 wb607lawc1_code_c41 3 rfl rfl
theorem wld_1158 : decode code 1158 = .ok (.iload 4, 2) := wt_op21 wb607lawc1_code_c41 4 rfl rfl
theorem wld_1160 : decode code 1160 = .ok (.iconst 1, 1) := wt_op4 wb607lawc1_code_c41 6 rfl rfl
theorem wld_1161 : decode code 1161 = .ok (.iadd, 1) := wt_op96 wb607lawc1_code_c41 7 rfl rfl
theorem wld_1162 : decode code 1162 = .ok (.iaload, 1) := wt_op46 wb607lawc1_code_c41 8 rfl rfl
theorem wld_1163 : decode code 1163 = .ok (.invokevirtual 198, 3) := wt_op182 wb607lawc1_code_c41 9 rfl rfl rfl
theorem wld_1166 : decode code 1166 = .ok (.istore 6, 2) := wt_op54 wb607lawc1_code_c41 12 rfl rfl
theorem wld_1168 : decode code 1168 = .ok (.goto 259, 3) := wt_op167 wb607lawc1_code_c41 14 rfl rfl rfl
set_option maxRecDepth 100000 in
set_option maxHeartbeats 4000000 in
theorem wl_greedy {X : wt_X} {o b L : Nat} {xs : Nat → Int32} {n K : Nat} {Inv : wt_St → Prop} {i : Int32} (hE : wt_OkO X o code 7 "WornTypeLaw" 400 100000) (hdm : ∀ i, wt_dom (wt_xw X) i ↔ i < 321) (hSN : wt_SN (wt_Ao (wt_xw X) o (wt_xs X).heap.size) (wt_xs X) (wt_xs X).heap) (htr : (wt_xl X).stackTraces = false) (hX : wt_scr X o b L xs) (hi : ∀ c : Int32, c = 1 ∨ c = 2 ∨ c = 3 ∨ c = 4 ∨ c = 5 → vp_in (i + c) L) (hK : K + 8 ≤ 100000) (hP : wt_P_greedy n Inv) {σ : wt_St} (hσ : Inv σ) (kn : ∀ τ : wt_St, Inv τ → wt_O X o (K + 8) τ 1427 [some (.ref b), some (.ref (wt_ad (wt_xw X) 0)), some (.ref (wt_ad (wt_xw X) 108)), some (.ref o), some (.int i), none, none] []) : wt_O X o K σ 1143 [some (.ref b), some (.ref (wt_ad (wt_xw X) 0)), some (.ref (wt_ad (wt_xw X) 108)), some (.ref o), some (.int i), none, none] [] := by
  have hD : ∀ i, i < 108 → wt_dom (wt_xw X) i := fun i hi => (hdm i).mpr (by omega)
  have hM : ∀ i, 108 ≤ i → i < 321 → wt_dom (wt_xw X) i := fun i _ hi => (hdm i).mpr hi
  obtain ⟨q, hq, hx, r, hr, hI⟩ := hP _ (xs (i + (1 : Int32)).toNatClampNeg) hσ
  refine wt_o_aload_n hE wld_1143 rfl ?_
  refine wt_o_aload_n hE wld_1144 rfl ?_
  refine wt_o_iload hE wld_1145 rfl ?_
  refine wt_o_iconst hE (1 : Int32) wld_1147 (by decide) ?_
  refine wt_o_iadd hE wld_1148 ?_
  refine wt_o_sld hE hX (hi 1 (by decide)) wld_1149 ?_
  refine wt_o_aload_n hE wld_1150 rfl ?_
  refine wt_o_callW hE hSN (k := 3) (dd := 8) (mc := 8) [.ref (wt_ad (wt_xw X) 0), .int (xs (i + (1 : Int32)).toNatClampNeg), .ref o] (wt_g6 66 rfl rfl) (wt_g6 67 rfl rfl) (wt_g1 0 rfl rfl) wt_cm_greedy ⟨by decide, by decide, by decide +kernel⟩ (by decide) (ww_greedy_ok htr hE.2.2 hD hq hx) (by decide) rfl rfl (Nat.le_of_ble_eq_true rfl) (by omega) wld_1151 (fun w5 => ?_)
  refine wt_o_istore hE [some (.ref b), some (.ref (wt_ad (wt_xw X) 0)), some (.ref (wt_ad (wt_xw X) 108)), some (.ref o), some (.int i), some (.int w5), none] wld_1154 (by decide) rfl ?_
  refine wt_o_aload_n hE wld_1156 rfl ?_
  refine wt_o_aload_n hE wld_1157 rfl ?_
  refine wt_o_iload hE wld_1158 rfl ?_
  refine wt_o_iconst hE (1 : Int32) wld_1160 (by decide) ?_
  refine wt_o_iadd hE wld_1161 ?_
  refine wt_o_sld hE hX (hi 1 (by decide)) wld_1162 ?_
  refine wt_o_callVi (dd := 7) hE [.int (xs (i + (1 : Int32)).toNatClampNeg)] wt_lm_lw_198 wt_ya_md_greedy (wp_md_greedy_ok hM hr) (by decide) (hM 108 (by decide) (by decide)) wt_L108 rfl rfl rfl (Nat.le_of_ble_eq_true rfl) (by omega) wld_1163 ?_
  refine wt_o_istore hE [some (.ref b), some (.ref (wt_ad (wt_xw X) 0)), some (.ref (wt_ad (wt_xw X) 108)), some (.ref o), some (.int i), some (.int w5), some (.int r.1)] wld_1166 (by decide) rfl ?_
  refine wt_o_goto hE 1427 wld_1168 rfl ?_
  exact wt_o_wk [true, true, true, true, true, false, false] rfl (kn _ hI)
theorem wld_1171 : decode code 1171 = .ok (.aload_n 1, 1) := wt_op43 wb607lawc1_code_c41 17 rfl rfl
theorem wld_1172 : decode code 1172 = .ok (.invokevirtual 199, 3) := wt_op182 wb607lawc1_code_c41 18 rfl rfl rfl
theorem wld_1175 : decode code 1175 = .ok (.pop, 1) := wt_op87 wb607lawc1_code_c41 21 rfl rfl
theorem wld_1176 : decode code 1176 = .ok (.aload_n 2, 1) := wt_op44 wb607lawc1_code_c41 22 rfl rfl
theorem wld_1177 : decode code 1177 = .ok (.invokevirtual 202, 3) := wt_op182 wb607lawc1_code_c41 23 rfl rfl rfl
theorem wld_1180 : decode code 1180 = .ok (.pop, 1) := wt_op87 wb607lawc1_code_c41 26 rfl rfl
theorem wld_1181 : decode code 1181 = .ok (.goto 246, 3) := wt_op167 wb607lawc1_code_c41 27 rfl rfl rfl
set_option maxRecDepth 100000 in
set_option maxHeartbeats 4000000 in
theorem wl_bound {X : wt_X} {o b L : Nat} {xs : Nat → Int32} {n K : Nat} {Inv : wt_St → Prop} {i : Int32} (hE : wt_OkO X o code 7 "WornTypeLaw" 400 100000) (hdm : ∀ i, wt_dom (wt_xw X) i ↔ i < 321) (hSN : wt_SN (wt_Ao (wt_xw X) o (wt_xs X).heap.size) (wt_xs X) (wt_xs X).heap) (htr : (wt_xl X).stackTraces = false) (hX : wt_scr X o b L xs) (hi : ∀ c : Int32, c = 1 ∨ c = 2 ∨ c = 3 ∨ c = 4 ∨ c = 5 → vp_in (i + c) L) (hK : K + 8 ≤ 100000) (hP : wt_P_bound n Inv) {σ : wt_St} (hσ : Inv σ) (kn : ∀ τ : wt_St, Inv τ → wt_O X o (K + 8) τ 1427 [some (.ref b), some (.ref (wt_ad (wt_xw X) 0)), some (.ref (wt_ad (wt_xw X) 108)), some (.ref o), some (.int i), none, none] []) : wt_O X o K σ 1171 [some (.ref b), some (.ref (wt_ad (wt_xw X) 0)), some (.ref (wt_ad (wt_xw X) 108)), some (.ref o), some (.int i), none, none] [] := by
  have hD : ∀ i, i < 108 → wt_dom (wt_xw X) i := fun i hi => (hdm i).mpr (by omega)
  have hM : ∀ i, 108 ≤ i → i < 321 → wt_dom (wt_xw X) i := fun i _ hi => (hdm i).mpr hi
  obtain ⟨q, hq, r, hr, hI⟩ := hP _  hσ
  refine wt_o_aload_n hE wld_1171 rfl ?_
  refine wt_o_callVi (dd := 6) hE [] wt_lm_lw_199 wt_ya_ap_bound (wp_ap_bound_ok hD hq) (by decide) (hD 0 (by decide)) wt_L0 rfl rfl rfl (Nat.le_of_ble_eq_true rfl) (by omega) wld_1172 ?_
  refine wt_o_pop hE wld_1175 rfl ?_
  refine wt_o_aload_n hE wld_1176 rfl ?_
  refine wt_o_callVi (dd := 3) hE [] wt_lm_lw_202 wt_ya_md_bound (wp_md_bound_ok hM hr) (by decide) (hM 108 (by decide) (by decide)) wt_L108 rfl rfl rfl (Nat.le_of_ble_eq_true rfl) (by omega) wld_1177 ?_
  refine wt_o_pop hE wld_1180 rfl ?_
  refine wt_o_goto hE 1427 wld_1181 rfl ?_
  refine wt_o_kup (K' := K + 8) (by omega) ?_
  exact wt_o_wk [true, true, true, true, true, false, false] rfl (kn _ hI)
theorem wld_1184 : decode code 1184 = .ok (.aload_n 1, 1) := wt_op43 wb607lawc1_code_c42 0 rfl rfl
theorem wld_1185 : decode code 1185 = .ok (.aload_n 0, 1) := wt_op42 wb607lawc1_code_c42 1 rfl rfl
theorem wld_1186 : decode code 1186 = .ok (.iload 4, 2) := wt_op21 wb607lawc1_code_c42 2 rfl rfl
theorem wld_1188 : decode code 1188 = .ok (.iconst 1, 1) := wt_op4 wb607lawc1_code_c42 4 rfl rfl
theorem wld_1189 : decode code 1189 = .ok (.iadd, 1) := wt_op96 wb607lawc1_code_c42 5 rfl rfl
theorem wld_1190 : decode code 1190 = .ok (.iaload, 1) := wt_op46 wb607lawc1_code_c42 6 rfl rfl
theorem wld_1191 : decode code 1191 = .ok (.aload_n 0, 1) := wt_op42 wb607lawc1_code_c42 7 rfl rfl
theorem wld_1192 : decode code 1192 = .ok (.iload 4, 2) := wt_op21 wb607lawc1_code_c42 8 rfl rfl
theorem wld_1194 : decode code 1194 = .ok (.iconst 2, 1) := wt_op5 wb607lawc1_code_c42 10 rfl rfl
theorem wld_1195 : decode code 1195 = .ok (.iadd, 1) := wt_op96 wb607lawc1_code_c42 11 rfl rfl
theorem wld_1196 : decode code 1196 = .ok (.iaload, 1) := wt_op46 wb607lawc1_code_c42 12 rfl rfl
theorem wld_1197 : decode code 1197 = .ok (.aload_n 3, 1) := wt_op45 wb607lawc1_code_c42 13 rfl rfl
theorem wld_1198 : decode code 1198 = .ok (.invokestatic 203, 3) := wt_op184 wb607lawc1_code_c42 14 rfl rfl rfl
theorem wld_1201 : decode code 1201 = .ok (.istore 5, 2) := wt_op54 wb607lawc1_code_c42 17 rfl rfl
theorem wld_1203 : decode code 1203 = .ok (.aload_n 2, 1) := wt_op44 wb607lawc1_code_c42 19 rfl rfl
theorem wld_1204 : decode code 1204 = .ok (.aload_n 0, 1) := wt_op42 wb607lawc1_code_c42 20 rfl rfl
theorem wld_1205 : decode code 1205 = .ok (.iload 4, 2) := wt_op21 wb607lawc1_code_c42 21 rfl rfl
theorem wld_1207 : decode code 1207 = .ok (.iconst 1, 1) := wt_op4 wb607lawc1_code_c42 23 rfl rfl
theorem wld_1208 : decode code 1208 = .ok (.iadd, 1) := wt_op96 wb607lawc1_code_c42 24 rfl rfl
theorem wld_1209 : decode code 1209 = .ok (.iaload, 1) := wt_op46 wb607lawc1_code_c42 25 rfl rfl
theorem wld_1210 : decode code 1210 = .ok (.aload_n 0, 1) := wt_op42 wb607lawc1_code_c42 26 rfl rfl
theorem wld_1211 : decode code 1211 = .ok (.iload 4, 2) := wt_op21 wb607lawc1_code_c42 27 rfl rfl
theorem wld_1213 : decode code 1213 = .ok (.iconst 2, 1) := wt_op5 wb607lawc1_code_c43 0 rfl rfl
theorem wld_1214 : decode code 1214 = .ok (.iadd, 1) := wt_op96 wb607lawc1_code_c43 1 rfl rfl
theorem wld_1215 : decode code 1215 = .ok (.iaload, 1) := wt_op46 wb607lawc1_code_c43 2 rfl rfl
theorem wld_1216 : decode code 1216 = .ok (.invokevirtual 205, 3) := wt_op182 wb607lawc1_code_c43 3 rfl rfl rfl
theorem wld_1219 : decode code 1219 = .ok (.istore 6, 2) := wt_op54 wb607lawc1_code_c43 6 rfl rfl
theorem wld_1221 : decode code 1221 = .ok (.goto 206, 3) := wt_op167 wb607lawc1_code_c43 8 rfl rfl rfl
set_option maxRecDepth 100000 in
set_option maxHeartbeats 4000000 in
theorem wl_said {X : wt_X} {o b L : Nat} {xs : Nat → Int32} {n K : Nat} {Inv : wt_St → Prop} {i : Int32} (hE : wt_OkO X o code 7 "WornTypeLaw" 400 100000) (hdm : ∀ i, wt_dom (wt_xw X) i ↔ i < 321) (hSN : wt_SN (wt_Ao (wt_xw X) o (wt_xs X).heap.size) (wt_xs X) (wt_xs X).heap) (htr : (wt_xl X).stackTraces = false) (hX : wt_scr X o b L xs) (hi : ∀ c : Int32, c = 1 ∨ c = 2 ∨ c = 3 ∨ c = 4 ∨ c = 5 → vp_in (i + c) L) (hK : K + 8 ≤ 100000) (hP : wt_P_said n Inv) {σ : wt_St} (hσ : Inv σ) (kn : ∀ τ : wt_St, Inv τ → wt_O X o (K + 8) τ 1427 [some (.ref b), some (.ref (wt_ad (wt_xw X) 0)), some (.ref (wt_ad (wt_xw X) 108)), some (.ref o), some (.int i), none, none] []) : wt_O X o K σ 1184 [some (.ref b), some (.ref (wt_ad (wt_xw X) 0)), some (.ref (wt_ad (wt_xw X) 108)), some (.ref o), some (.int i), none, none] [] := by
  have hD : ∀ i, i < 108 → wt_dom (wt_xw X) i := fun i hi => (hdm i).mpr (by omega)
  have hM : ∀ i, 108 ≤ i → i < 321 → wt_dom (wt_xw X) i := fun i _ hi => (hdm i).mpr hi
  obtain ⟨q, hq, hx, r, hr, hI⟩ := hP _ (xs (i + (1 : Int32)).toNatClampNeg) (xs (i + (2 : Int32)).toNatClampNeg) hσ
  refine wt_o_aload_n hE wld_1184 rfl ?_
  refine wt_o_aload_n hE wld_1185 rfl ?_
  refine wt_o_iload hE wld_1186 rfl ?_
  refine wt_o_iconst hE (1 : Int32) wld_1188 (by decide) ?_
  refine wt_o_iadd hE wld_1189 ?_
  refine wt_o_sld hE hX (hi 1 (by decide)) wld_1190 ?_
  refine wt_o_aload_n hE wld_1191 rfl ?_
  refine wt_o_iload hE wld_1192 rfl ?_
  refine wt_o_iconst hE (2 : Int32) wld_1194 (by decide) ?_
  refine wt_o_iadd hE wld_1195 ?_
  refine wt_o_sld hE hX (hi 2 (by decide)) wld_1196 ?_
  refine wt_o_aload_n hE wld_1197 rfl ?_
  refine wt_o_callW hE hSN (k := 4) (dd := 8) (mc := 8) [.ref (wt_ad (wt_xw X) 0), .int (xs (i + (1 : Int32)).toNatClampNeg), .int (xs (i + (2 : Int32)).toNatClampNeg), .ref o] (wt_g6 85 rfl rfl) (wt_g6 86 rfl rfl) (wt_g1 0 rfl rfl) wt_cm_said ⟨by decide, by decide, by decide +kernel⟩ (by decide) (ww_said_ok htr hE.2.2 hD hq hx) (by decide) rfl rfl (Nat.le_of_ble_eq_true rfl) (by omega) wld_1198 (fun w5 => ?_)
  refine wt_o_istore hE [some (.ref b), some (.ref (wt_ad (wt_xw X) 0)), some (.ref (wt_ad (wt_xw X) 108)), some (.ref o), some (.int i), some (.int w5), none] wld_1201 (by decide) rfl ?_
  refine wt_o_aload_n hE wld_1203 rfl ?_
  refine wt_o_aload_n hE wld_1204 rfl ?_
  refine wt_o_iload hE wld_1205 rfl ?_
  refine wt_o_iconst hE (1 : Int32) wld_1207 (by decide) ?_
  refine wt_o_iadd hE wld_1208 ?_
  refine wt_o_sld hE hX (hi 1 (by decide)) wld_1209 ?_
  refine wt_o_aload_n hE wld_1210 rfl ?_
  refine wt_o_iload hE wld_1211 rfl ?_
  refine wt_o_iconst hE (2 : Int32) wld_1213 (by decide) ?_
  refine wt_o_iadd hE wld_1214 ?_
  refine wt_o_sld hE hX (hi 2 (by decide)) wld_1215 ?_
  refine wt_o_callVi (dd := 7) hE [.int (xs (i + (1 : Int32)).toNatClampNeg), .int (xs (i + (2 : Int32)).toNatClampNeg)] wt_lm_lw_205 wt_ya_md_said (wp_md_said_ok hM hr) (by decide) (hM 108 (by decide) (by decide)) wt_L108 rfl rfl rfl (Nat.le_of_ble_eq_true rfl) (by omega) wld_1216 ?_
  refine wt_o_istore hE [some (.ref b), some (.ref (wt_ad (wt_xw X) 0)), some (.ref (wt_ad (wt_xw X) 108)), some (.ref o), some (.int i), some (.int w5), some (.int r.1)] wld_1219 (by decide) rfl ?_
  refine wt_o_goto hE 1427 wld_1221 rfl ?_
  exact wt_o_wk [true, true, true, true, true, false, false] rfl (kn _ hI)
theorem wld_1224 : decode code 1224 = .ok (.aload_n 1, 1) := wt_op43 wb607lawc1_code_c43 11 rfl rfl
theorem wld_1225 : decode code 1225 = .ok (.aload_n 0, 1) := wt_op42 wb607lawc1_code_c43 12 rfl rfl
theorem wld_1226 : decode code 1226 = .ok (.iload 4, 2) := wt_op21 wb607lawc1_code_c43 13 rfl rfl
theorem wld_1228 : decode code 1228 = .ok (.iconst 1, 1) := wt_op4 wb607lawc1_code_c43 15 rfl rfl
theorem wld_1229 : decode code 1229 = .ok (.iadd, 1) := wt_op96 wb607lawc1_code_c43 16 rfl rfl
theorem wld_1230 : decode code 1230 = .ok (.iaload, 1) := wt_op46 wb607lawc1_code_c43 17 rfl rfl
theorem wld_1231 : decode code 1231 = .ok (.aload_n 3, 1) := wt_op45 wb607lawc1_code_c43 18 rfl rfl
theorem wld_1232 : decode code 1232 = .ok (.invokestatic 206, 3) := wt_op184 wb607lawc1_code_c43 19 rfl rfl rfl
theorem wld_1235 : decode code 1235 = .ok (.istore 5, 2) := wt_op54 wb607lawc1_code_c43 22 rfl rfl
theorem wld_1237 : decode code 1237 = .ok (.aload_n 2, 1) := wt_op44 wb607lawc1_code_c43 24 rfl rfl
theorem wld_1238 : decode code 1238 = .ok (.aload_n 0, 1) := wt_op42 wb607lawc1_code_c43 25 rfl rfl
theorem wld_1239 : decode code 1239 = .ok (.iload 4, 2) := wt_op21 wb607lawc1_code_c43 26 rfl rfl
theorem wld_1241 : decode code 1241 = .ok (.iconst 1, 1) := wt_op4 wb607lawc1_code_c44 0 rfl rfl
theorem wld_1242 : decode code 1242 = .ok (.iadd, 1) := wt_op96 wb607lawc1_code_c44 1 rfl rfl
theorem wld_1243 : decode code 1243 = .ok (.iaload, 1) := wt_op46 wb607lawc1_code_c44 2 rfl rfl
theorem wld_1244 : decode code 1244 = .ok (.invokevirtual 208, 3) := wt_op182 wb607lawc1_code_c44 3 rfl rfl rfl
theorem wld_1247 : decode code 1247 = .ok (.istore 6, 2) := wt_op54 wb607lawc1_code_c44 6 rfl rfl
theorem wld_1249 : decode code 1249 = .ok (.goto 178, 3) := wt_op167 wb607lawc1_code_c44 8 rfl rfl rfl
set_option maxRecDepth 100000 in
set_option maxHeartbeats 4000000 in
theorem wl_lost {X : wt_X} {o b L : Nat} {xs : Nat → Int32} {n K : Nat} {Inv : wt_St → Prop} {i : Int32} (hE : wt_OkO X o code 7 "WornTypeLaw" 400 100000) (hdm : ∀ i, wt_dom (wt_xw X) i ↔ i < 321) (hSN : wt_SN (wt_Ao (wt_xw X) o (wt_xs X).heap.size) (wt_xs X) (wt_xs X).heap) (htr : (wt_xl X).stackTraces = false) (hX : wt_scr X o b L xs) (hi : ∀ c : Int32, c = 1 ∨ c = 2 ∨ c = 3 ∨ c = 4 ∨ c = 5 → vp_in (i + c) L) (hK : K + 8 ≤ 100000) (hP : wt_P_lost n Inv) {σ : wt_St} (hσ : Inv σ) (kn : ∀ τ : wt_St, Inv τ → wt_O X o (K + 8) τ 1427 [some (.ref b), some (.ref (wt_ad (wt_xw X) 0)), some (.ref (wt_ad (wt_xw X) 108)), some (.ref o), some (.int i), none, none] []) : wt_O X o K σ 1224 [some (.ref b), some (.ref (wt_ad (wt_xw X) 0)), some (.ref (wt_ad (wt_xw X) 108)), some (.ref o), some (.int i), none, none] [] := by
  have hD : ∀ i, i < 108 → wt_dom (wt_xw X) i := fun i hi => (hdm i).mpr (by omega)
  have hM : ∀ i, 108 ≤ i → i < 321 → wt_dom (wt_xw X) i := fun i _ hi => (hdm i).mpr hi
  obtain ⟨q, hq, hx, r, hr, hI⟩ := hP _ (xs (i + (1 : Int32)).toNatClampNeg) hσ
  refine wt_o_aload_n hE wld_1224 rfl ?_
  refine wt_o_aload_n hE wld_1225 rfl ?_
  refine wt_o_iload hE wld_1226 rfl ?_
  refine wt_o_iconst hE (1 : Int32) wld_1228 (by decide) ?_
  refine wt_o_iadd hE wld_1229 ?_
  refine wt_o_sld hE hX (hi 1 (by decide)) wld_1230 ?_
  refine wt_o_aload_n hE wld_1231 rfl ?_
  refine wt_o_callW hE hSN (k := 3) (dd := 8) (mc := 8) [.ref (wt_ad (wt_xw X) 0), .int (xs (i + (1 : Int32)).toNatClampNeg), .ref o] (wt_g6 98 rfl rfl) (wt_g6 99 rfl rfl) (wt_g1 0 rfl rfl) wt_cm_lost ⟨by decide, by decide, by decide +kernel⟩ (by decide) (ww_lost_ok htr hE.2.2 hD hq hx) (by decide) rfl rfl (Nat.le_of_ble_eq_true rfl) (by omega) wld_1232 (fun w5 => ?_)
  refine wt_o_istore hE [some (.ref b), some (.ref (wt_ad (wt_xw X) 0)), some (.ref (wt_ad (wt_xw X) 108)), some (.ref o), some (.int i), some (.int w5), none] wld_1235 (by decide) rfl ?_
  refine wt_o_aload_n hE wld_1237 rfl ?_
  refine wt_o_aload_n hE wld_1238 rfl ?_
  refine wt_o_iload hE wld_1239 rfl ?_
  refine wt_o_iconst hE (1 : Int32) wld_1241 (by decide) ?_
  refine wt_o_iadd hE wld_1242 ?_
  refine wt_o_sld hE hX (hi 1 (by decide)) wld_1243 ?_
  refine wt_o_callVi (dd := 7) hE [.int (xs (i + (1 : Int32)).toNatClampNeg)] wt_lm_lw_208 wt_ya_md_lost (wp_md_lost_ok hM hr) (by decide) (hM 108 (by decide) (by decide)) wt_L108 rfl rfl rfl (Nat.le_of_ble_eq_true rfl) (by omega) wld_1244 ?_
  refine wt_o_istore hE [some (.ref b), some (.ref (wt_ad (wt_xw X) 0)), some (.ref (wt_ad (wt_xw X) 108)), some (.ref o), some (.int i), some (.int w5), some (.int r.1)] wld_1247 (by decide) rfl ?_
  refine wt_o_goto hE 1427 wld_1249 rfl ?_
  exact wt_o_wk [true, true, true, true, true, false, false] rfl (kn _ hI)
theorem wld_1252 : decode code 1252 = .ok (.aload_n 1, 1) := wt_op43 wb607lawc1_code_c44 11 rfl rfl
theorem wld_1253 : decode code 1253 = .ok (.aload_n 0, 1) := wt_op42 wb607lawc1_code_c44 12 rfl rfl
theorem wld_1254 : decode code 1254 = .ok (.iload 4, 2) := wt_op21 wb607lawc1_code_c44 13 rfl rfl
theorem wld_1256 : decode code 1256 = .ok (.iconst 1, 1) := wt_op4 wb607lawc1_code_c44 15 rfl rfl
theorem wld_1257 : decode code 1257 = .ok (.iadd, 1) := wt_op96 wb607lawc1_code_c44 16 rfl rfl
theorem wld_1258 : decode code 1258 = .ok (.iaload, 1) := wt_op46 wb607lawc1_code_c44 17 rfl rfl
theorem wld_1259 : decode code 1259 = .ok (.aload_n 3, 1) := wt_op45 wb607lawc1_code_c44 18 rfl rfl
theorem wld_1260 : decode code 1260 = .ok (.invokestatic 209, 3) := wt_op184 wb607lawc1_code_c44 19 rfl rfl rfl
theorem wld_1263 : decode code 1263 = .ok (.istore 5, 2) := wt_op54 wb607lawc1_code_c44 22 rfl rfl
theorem wld_1265 : decode code 1265 = .ok (.aload_n 2, 1) := wt_op44 wb607lawc1_code_c44 24 rfl rfl
theorem wld_1266 : decode code 1266 = .ok (.aload_n 0, 1) := wt_op42 wb607lawc1_code_c44 25 rfl rfl
theorem wld_1267 : decode code 1267 = .ok (.iload 4, 2) := wt_op21 wb607lawc1_code_c44 26 rfl rfl
theorem wld_1269 : decode code 1269 = .ok (.iconst 1, 1) := wt_op4 wb607lawc1_code_c45 0 rfl rfl
theorem wld_1270 : decode code 1270 = .ok (.iadd, 1) := wt_op96 wb607lawc1_code_c45 1 rfl rfl
theorem wld_1271 : decode code 1271 = .ok (.iaload, 1) := wt_op46 wb607lawc1_code_c45 2 rfl rfl
theorem wld_1272 : decode code 1272 = .ok (.invokevirtual 211, 3) := wt_op182 wb607lawc1_code_c45 3 rfl rfl rfl
theorem wld_1275 : decode code 1275 = .ok (.istore 6, 2) := wt_op54 wb607lawc1_code_c45 6 rfl rfl
theorem wld_1277 : decode code 1277 = .ok (.goto 150, 3) := wt_op167 wb607lawc1_code_c45 8 rfl rfl rfl
set_option maxRecDepth 100000 in
set_option maxHeartbeats 4000000 in
theorem wl_ends {X : wt_X} {o b L : Nat} {xs : Nat → Int32} {n K : Nat} {Inv : wt_St → Prop} {i : Int32} (hE : wt_OkO X o code 7 "WornTypeLaw" 400 100000) (hdm : ∀ i, wt_dom (wt_xw X) i ↔ i < 321) (hSN : wt_SN (wt_Ao (wt_xw X) o (wt_xs X).heap.size) (wt_xs X) (wt_xs X).heap) (htr : (wt_xl X).stackTraces = false) (hX : wt_scr X o b L xs) (hi : ∀ c : Int32, c = 1 ∨ c = 2 ∨ c = 3 ∨ c = 4 ∨ c = 5 → vp_in (i + c) L) (hK : K + 8 ≤ 100000) (hP : wt_P_ends n Inv) {σ : wt_St} (hσ : Inv σ) (kn : ∀ τ : wt_St, Inv τ → wt_O X o (K + 8) τ 1427 [some (.ref b), some (.ref (wt_ad (wt_xw X) 0)), some (.ref (wt_ad (wt_xw X) 108)), some (.ref o), some (.int i), none, none] []) : wt_O X o K σ 1252 [some (.ref b), some (.ref (wt_ad (wt_xw X) 0)), some (.ref (wt_ad (wt_xw X) 108)), some (.ref o), some (.int i), none, none] [] := by
  have hD : ∀ i, i < 108 → wt_dom (wt_xw X) i := fun i hi => (hdm i).mpr (by omega)
  have hM : ∀ i, 108 ≤ i → i < 321 → wt_dom (wt_xw X) i := fun i _ hi => (hdm i).mpr hi
  obtain ⟨q, hq, hx, r, hr, hI⟩ := hP _ (xs (i + (1 : Int32)).toNatClampNeg) hσ
  refine wt_o_aload_n hE wld_1252 rfl ?_
  refine wt_o_aload_n hE wld_1253 rfl ?_
  refine wt_o_iload hE wld_1254 rfl ?_
  refine wt_o_iconst hE (1 : Int32) wld_1256 (by decide) ?_
  refine wt_o_iadd hE wld_1257 ?_
  refine wt_o_sld hE hX (hi 1 (by decide)) wld_1258 ?_
  refine wt_o_aload_n hE wld_1259 rfl ?_
  refine wt_o_callW hE hSN (k := 3) (dd := 8) (mc := 8) [.ref (wt_ad (wt_xw X) 0), .int (xs (i + (1 : Int32)).toNatClampNeg), .ref o] (wt_g6 110 rfl rfl) (wt_g6 111 rfl rfl) (wt_g1 0 rfl rfl) wt_cm_ends ⟨by decide, by decide, by decide +kernel⟩ (by decide) (ww_ends_ok htr hE.2.2 hD hq hx) (by decide) rfl rfl (Nat.le_of_ble_eq_true rfl) (by omega) wld_1260 (fun w5 => ?_)
  refine wt_o_istore hE [some (.ref b), some (.ref (wt_ad (wt_xw X) 0)), some (.ref (wt_ad (wt_xw X) 108)), some (.ref o), some (.int i), some (.int w5), none] wld_1263 (by decide) rfl ?_
  refine wt_o_aload_n hE wld_1265 rfl ?_
  refine wt_o_aload_n hE wld_1266 rfl ?_
  refine wt_o_iload hE wld_1267 rfl ?_
  refine wt_o_iconst hE (1 : Int32) wld_1269 (by decide) ?_
  refine wt_o_iadd hE wld_1270 ?_
  refine wt_o_sld hE hX (hi 1 (by decide)) wld_1271 ?_
  refine wt_o_callVi (dd := 7) hE [.int (xs (i + (1 : Int32)).toNatClampNeg)] wt_lm_lw_211 wt_ya_md_ends (wp_md_ends_ok hM hr) (by decide) (hM 108 (by decide) (by decide)) wt_L108 rfl rfl rfl (Nat.le_of_ble_eq_true rfl) (by omega) wld_1272 ?_
  refine wt_o_istore hE [some (.ref b), some (.ref (wt_ad (wt_xw X) 0)), some (.ref (wt_ad (wt_xw X) 108)), some (.ref o), some (.int i), some (.int w5), some (.int r.1)] wld_1275 (by decide) rfl ?_
  refine wt_o_goto hE 1427 wld_1277 rfl ?_
  exact wt_o_wk [true, true, true, true, true, false, false] rfl (kn _ hI)
theorem wld_1280 : decode code 1280 = .ok (.aload_n 1, 1) := wt_op43 wb607lawc1_code_c45 11 rfl rfl
theorem wld_1281 : decode code 1281 = .ok (.aload_n 0, 1) := wt_op42 wb607lawc1_code_c45 12 rfl rfl
theorem wld_1282 : decode code 1282 = .ok (.iload 4, 2) := wt_op21 wb607lawc1_code_c45 13 rfl rfl
theorem wld_1284 : decode code 1284 = .ok (.iconst 1, 1) := wt_op4 wb607lawc1_code_c45 15 rfl rfl
theorem wld_1285 : decode code 1285 = .ok (.iadd, 1) := wt_op96 wb607lawc1_code_c45 16 rfl rfl
theorem wld_1286 : decode code 1286 = .ok (.iaload, 1) := wt_op46 wb607lawc1_code_c45 17 rfl rfl
theorem wld_1287 : decode code 1287 = .ok (.aload_n 3, 1) := wt_op45 wb607lawc1_code_c45 18 rfl rfl
theorem wld_1288 : decode code 1288 = .ok (.invokestatic 212, 3) := wt_op184 wb607lawc1_code_c45 19 rfl rfl rfl
theorem wld_1291 : decode code 1291 = .ok (.istore 5, 2) := wt_op54 wb607lawc1_code_c45 22 rfl rfl
theorem wld_1293 : decode code 1293 = .ok (.aload_n 2, 1) := wt_op44 wb607lawc1_code_c45 24 rfl rfl
theorem wld_1294 : decode code 1294 = .ok (.aload_n 0, 1) := wt_op42 wb607lawc1_code_c45 25 rfl rfl
theorem wld_1295 : decode code 1295 = .ok (.iload 4, 2) := wt_op21 wb607lawc1_code_c45 26 rfl rfl
theorem wld_1297 : decode code 1297 = .ok (.iconst 1, 1) := wt_op4 wb607lawc1_code_c46 0 rfl rfl
theorem wld_1298 : decode code 1298 = .ok (.iadd, 1) := wt_op96 wb607lawc1_code_c46 1 rfl rfl
theorem wld_1299 : decode code 1299 = .ok (.iaload, 1) := wt_op46 wb607lawc1_code_c46 2 rfl rfl
theorem wld_1300 : decode code 1300 = .ok (.invokevirtual 214, 3) := wt_op182 wb607lawc1_code_c46 3 rfl rfl rfl
theorem wld_1303 : decode code 1303 = .ok (.istore 6, 2) := wt_op54 wb607lawc1_code_c46 6 rfl rfl
theorem wld_1305 : decode code 1305 = .ok (.goto 122, 3) := wt_op167 wb607lawc1_code_c46 8 rfl rfl rfl
set_option maxRecDepth 100000 in
set_option maxHeartbeats 4000000 in
theorem wl_exchange {X : wt_X} {o b L : Nat} {xs : Nat → Int32} {n K : Nat} {Inv : wt_St → Prop} {i : Int32} (hE : wt_OkO X o code 7 "WornTypeLaw" 400 100000) (hdm : ∀ i, wt_dom (wt_xw X) i ↔ i < 321) (hSN : wt_SN (wt_Ao (wt_xw X) o (wt_xs X).heap.size) (wt_xs X) (wt_xs X).heap) (htr : (wt_xl X).stackTraces = false) (hX : wt_scr X o b L xs) (hi : ∀ c : Int32, c = 1 ∨ c = 2 ∨ c = 3 ∨ c = 4 ∨ c = 5 → vp_in (i + c) L) (hK : K + 8 ≤ 100000) (hP : wt_P_exchange n Inv) {σ : wt_St} (hσ : Inv σ) (kn : ∀ τ : wt_St, Inv τ → wt_O X o (K + 8) τ 1427 [some (.ref b), some (.ref (wt_ad (wt_xw X) 0)), some (.ref (wt_ad (wt_xw X) 108)), some (.ref o), some (.int i), none, none] []) : wt_O X o K σ 1280 [some (.ref b), some (.ref (wt_ad (wt_xw X) 0)), some (.ref (wt_ad (wt_xw X) 108)), some (.ref o), some (.int i), none, none] [] := by
  have hD : ∀ i, i < 108 → wt_dom (wt_xw X) i := fun i hi => (hdm i).mpr (by omega)
  have hM : ∀ i, 108 ≤ i → i < 321 → wt_dom (wt_xw X) i := fun i _ hi => (hdm i).mpr hi
  obtain ⟨q, hq, hx, r, hr, hI⟩ := hP _ (xs (i + (1 : Int32)).toNatClampNeg) hσ
  refine wt_o_aload_n hE wld_1280 rfl ?_
  refine wt_o_aload_n hE wld_1281 rfl ?_
  refine wt_o_iload hE wld_1282 rfl ?_
  refine wt_o_iconst hE (1 : Int32) wld_1284 (by decide) ?_
  refine wt_o_iadd hE wld_1285 ?_
  refine wt_o_sld hE hX (hi 1 (by decide)) wld_1286 ?_
  refine wt_o_aload_n hE wld_1287 rfl ?_
  refine wt_o_callW hE hSN (k := 3) (dd := 8) (mc := 8) [.ref (wt_ad (wt_xw X) 0), .int (xs (i + (1 : Int32)).toNatClampNeg), .ref o] (wt_g6 121 rfl rfl) (wt_g6 122 rfl rfl) (wt_g1 0 rfl rfl) wt_cm_exchange ⟨by decide, by decide, by decide +kernel⟩ (by decide) (ww_exchange_ok htr hE.2.2 hD hq hx) (by decide) rfl rfl (Nat.le_of_ble_eq_true rfl) (by omega) wld_1288 (fun w5 => ?_)
  refine wt_o_istore hE [some (.ref b), some (.ref (wt_ad (wt_xw X) 0)), some (.ref (wt_ad (wt_xw X) 108)), some (.ref o), some (.int i), some (.int w5), none] wld_1291 (by decide) rfl ?_
  refine wt_o_aload_n hE wld_1293 rfl ?_
  refine wt_o_aload_n hE wld_1294 rfl ?_
  refine wt_o_iload hE wld_1295 rfl ?_
  refine wt_o_iconst hE (1 : Int32) wld_1297 (by decide) ?_
  refine wt_o_iadd hE wld_1298 ?_
  refine wt_o_sld hE hX (hi 1 (by decide)) wld_1299 ?_
  refine wt_o_callVi (dd := 5) hE [.int (xs (i + (1 : Int32)).toNatClampNeg)] wt_lm_lw_214 wt_ya_md_exchange (wp_md_exchange_ok hM hr) (by decide) (hM 108 (by decide) (by decide)) wt_L108 rfl rfl rfl (Nat.le_of_ble_eq_true rfl) (by omega) wld_1300 ?_
  refine wt_o_istore hE [some (.ref b), some (.ref (wt_ad (wt_xw X) 0)), some (.ref (wt_ad (wt_xw X) 108)), some (.ref o), some (.int i), some (.int w5), some (.int r.1)] wld_1303 (by decide) rfl ?_
  refine wt_o_goto hE 1427 wld_1305 rfl ?_
  exact wt_o_wk [true, true, true, true, true, false, false] rfl (kn _ hI)
theorem wld_1308 : decode code 1308 = .ok (.aload_n 1, 1) := wt_op43 wb607lawc1_code_c46 11 rfl rfl
theorem wld_1309 : decode code 1309 = .ok (.aload_n 0, 1) := wt_op42 wb607lawc1_code_c46 12 rfl rfl
theorem wld_1310 : decode code 1310 = .ok (.iload 4, 2) := wt_op21 wb607lawc1_code_c46 13 rfl rfl
theorem wld_1312 : decode code 1312 = .ok (.iconst 1, 1) := wt_op4 wb607lawc1_code_c46 15 rfl rfl
theorem wld_1313 : decode code 1313 = .ok (.iadd, 1) := wt_op96 wb607lawc1_code_c46 16 rfl rfl
theorem wld_1314 : decode code 1314 = .ok (.iaload, 1) := wt_op46 wb607lawc1_code_c46 17 rfl rfl
theorem wld_1315 : decode code 1315 = .ok (.aload_n 0, 1) := wt_op42 wb607lawc1_code_c46 18 rfl rfl
theorem wld_1316 : decode code 1316 = .ok (.iload 4, 2) := wt_op21 wb607lawc1_code_c46 19 rfl rfl
theorem wld_1318 : decode code 1318 = .ok (.iconst 2, 1) := wt_op5 wb607lawc1_code_c46 21 rfl rfl
theorem wld_1319 : decode code 1319 = .ok (.iadd, 1) := wt_op96 wb607lawc1_code_c46 22 rfl rfl
theorem wld_1320 : decode code 1320 = .ok (.iaload, 1) := wt_op46 wb607lawc1_code_c46 23 rfl rfl
theorem wld_1321 : decode code 1321 = .ok (.aload_n 3, 1) := wt_op45 wb607lawc1_code_c46 24 rfl rfl
theorem wld_1322 : decode code 1322 = .ok (.invokestatic 215, 3) := wt_op184 wb607lawc1_code_c46 25 rfl rfl rfl
theorem wld_1325 : decode code 1325 = .ok (.istore 5, 2) := wt_op54 wb607lawc1_code_c47 0 rfl rfl
theorem wld_1327 : decode code 1327 = .ok (.aload_n 2, 1) := wt_op44 wb607lawc1_code_c47 2 rfl rfl
theorem wld_1328 : decode code 1328 = .ok (.aload_n 0, 1) := wt_op42 wb607lawc1_code_c47 3 rfl rfl
theorem wld_1329 : decode code 1329 = .ok (.iload 4, 2) := wt_op21 wb607lawc1_code_c47 4 rfl rfl
theorem wld_1331 : decode code 1331 = .ok (.iconst 1, 1) := wt_op4 wb607lawc1_code_c47 6 rfl rfl
theorem wld_1332 : decode code 1332 = .ok (.iadd, 1) := wt_op96 wb607lawc1_code_c47 7 rfl rfl
theorem wld_1333 : decode code 1333 = .ok (.iaload, 1) := wt_op46 wb607lawc1_code_c47 8 rfl rfl
theorem wld_1334 : decode code 1334 = .ok (.aload_n 0, 1) := wt_op42 wb607lawc1_code_c47 9 rfl rfl
theorem wld_1335 : decode code 1335 = .ok (.iload 4, 2) := wt_op21 wb607lawc1_code_c47 10 rfl rfl
theorem wld_1337 : decode code 1337 = .ok (.iconst 2, 1) := wt_op5 wb607lawc1_code_c47 12 rfl rfl
theorem wld_1338 : decode code 1338 = .ok (.iadd, 1) := wt_op96 wb607lawc1_code_c47 13 rfl rfl
theorem wld_1339 : decode code 1339 = .ok (.iaload, 1) := wt_op46 wb607lawc1_code_c47 14 rfl rfl
theorem wld_1340 : decode code 1340 = .ok (.invokevirtual 217, 3) := wt_op182 wb607lawc1_code_c47 15 rfl rfl rfl
theorem wld_1343 : decode code 1343 = .ok (.istore 6, 2) := wt_op54 wb607lawc1_code_c47 18 rfl rfl
theorem wld_1345 : decode code 1345 = .ok (.goto 82, 3) := wt_op167 wb607lawc1_code_c47 20 rfl rfl rfl
set_option maxRecDepth 100000 in
set_option maxHeartbeats 4000000 in
theorem wl_cast {X : wt_X} {o b L : Nat} {xs : Nat → Int32} {n K : Nat} {Inv : wt_St → Prop} {i : Int32} (hE : wt_OkO X o code 7 "WornTypeLaw" 400 100000) (hdm : ∀ i, wt_dom (wt_xw X) i ↔ i < 321) (hSN : wt_SN (wt_Ao (wt_xw X) o (wt_xs X).heap.size) (wt_xs X) (wt_xs X).heap) (htr : (wt_xl X).stackTraces = false) (hX : wt_scr X o b L xs) (hi : ∀ c : Int32, c = 1 ∨ c = 2 ∨ c = 3 ∨ c = 4 ∨ c = 5 → vp_in (i + c) L) (hK : K + 8 ≤ 100000) (hP : wt_P_cast n Inv) {σ : wt_St} (hσ : Inv σ) (kn : ∀ τ : wt_St, Inv τ → wt_O X o (K + 8) τ 1427 [some (.ref b), some (.ref (wt_ad (wt_xw X) 0)), some (.ref (wt_ad (wt_xw X) 108)), some (.ref o), some (.int i), none, none] []) : wt_O X o K σ 1308 [some (.ref b), some (.ref (wt_ad (wt_xw X) 0)), some (.ref (wt_ad (wt_xw X) 108)), some (.ref o), some (.int i), none, none] [] := by
  have hD : ∀ i, i < 108 → wt_dom (wt_xw X) i := fun i hi => (hdm i).mpr (by omega)
  have hM : ∀ i, 108 ≤ i → i < 321 → wt_dom (wt_xw X) i := fun i _ hi => (hdm i).mpr hi
  obtain ⟨q, hq, hx, r, hr, hI⟩ := hP _ (xs (i + (1 : Int32)).toNatClampNeg) (xs (i + (2 : Int32)).toNatClampNeg) hσ
  refine wt_o_aload_n hE wld_1308 rfl ?_
  refine wt_o_aload_n hE wld_1309 rfl ?_
  refine wt_o_iload hE wld_1310 rfl ?_
  refine wt_o_iconst hE (1 : Int32) wld_1312 (by decide) ?_
  refine wt_o_iadd hE wld_1313 ?_
  refine wt_o_sld hE hX (hi 1 (by decide)) wld_1314 ?_
  refine wt_o_aload_n hE wld_1315 rfl ?_
  refine wt_o_iload hE wld_1316 rfl ?_
  refine wt_o_iconst hE (2 : Int32) wld_1318 (by decide) ?_
  refine wt_o_iadd hE wld_1319 ?_
  refine wt_o_sld hE hX (hi 2 (by decide)) wld_1320 ?_
  refine wt_o_aload_n hE wld_1321 rfl ?_
  refine wt_o_callW hE hSN (k := 4) (dd := 9) (mc := 8) [.ref (wt_ad (wt_xw X) 0), .int (xs (i + (1 : Int32)).toNatClampNeg), .int (xs (i + (2 : Int32)).toNatClampNeg), .ref o] (wt_g6 160 rfl rfl) (wt_g6 161 rfl rfl) (wt_g1 0 rfl rfl) wt_cm_cast ⟨by decide, by decide, by decide +kernel⟩ (by decide) (ww_cast_ok htr hE.2.2 hD hq hx) (by decide) rfl rfl (Nat.le_of_ble_eq_true rfl) (by omega) wld_1322 (fun w5 => ?_)
  refine wt_o_istore hE [some (.ref b), some (.ref (wt_ad (wt_xw X) 0)), some (.ref (wt_ad (wt_xw X) 108)), some (.ref o), some (.int i), some (.int w5), none] wld_1325 (by decide) rfl ?_
  refine wt_o_aload_n hE wld_1327 rfl ?_
  refine wt_o_aload_n hE wld_1328 rfl ?_
  refine wt_o_iload hE wld_1329 rfl ?_
  refine wt_o_iconst hE (1 : Int32) wld_1331 (by decide) ?_
  refine wt_o_iadd hE wld_1332 ?_
  refine wt_o_sld hE hX (hi 1 (by decide)) wld_1333 ?_
  refine wt_o_aload_n hE wld_1334 rfl ?_
  refine wt_o_iload hE wld_1335 rfl ?_
  refine wt_o_iconst hE (2 : Int32) wld_1337 (by decide) ?_
  refine wt_o_iadd hE wld_1338 ?_
  refine wt_o_sld hE hX (hi 2 (by decide)) wld_1339 ?_
  refine wt_o_callVi (dd := 5) hE [.int (xs (i + (1 : Int32)).toNatClampNeg), .int (xs (i + (2 : Int32)).toNatClampNeg)] wt_lm_lw_217 wt_ya_md_cast (wp_md_cast_ok hM hr) (by decide) (hM 108 (by decide) (by decide)) wt_L108 rfl rfl rfl (Nat.le_of_ble_eq_true rfl) (by omega) wld_1340 ?_
  refine wt_o_istore hE [some (.ref b), some (.ref (wt_ad (wt_xw X) 0)), some (.ref (wt_ad (wt_xw X) 108)), some (.ref o), some (.int i), some (.int w5), some (.int r.1)] wld_1343 (by decide) rfl ?_
  refine wt_o_goto hE 1427 wld_1345 rfl ?_
  exact wt_o_wk [true, true, true, true, true, false, false] rfl (kn _ hI)
theorem wld_1348 : decode code 1348 = .ok (.aload_n 1, 1) := wt_op43 wb607lawc1_code_c47 23 rfl rfl
theorem wld_1349 : decode code 1349 = .ok (.aload_n 0, 1) := wt_op42 wb607lawc1_code_c47 24 rfl rfl
theorem wld_1350 : decode code 1350 = .ok (.iload 4, 2) := wt_op21 wb607lawc1_code_c47 25 rfl rfl
theorem wld_1352 : decode code 1352 = .ok (.iconst 1, 1) := wt_op4 wb607lawc1_code_c47 27 rfl rfl
theorem wld_1353 : decode code 1353 = .ok (.iadd, 1) := wt_op96 wb607lawc1_code_c48 0 rfl rfl
theorem wld_1354 : decode code 1354 = .ok (.iaload, 1) := wt_op46 wb607lawc1_code_c48 1 rfl rfl
theorem wld_1355 : decode code 1355 = .ok (.aload_n 3, 1) := wt_op45 wb607lawc1_code_c48 2 rfl rfl
theorem wld_1356 : decode code 1356 = .ok (.invokestatic 218, 3) := wt_op184 wb607lawc1_code_c48 3 rfl rfl rfl
theorem wld_1359 : decode code 1359 = .ok (.istore 5, 2) := wt_op54 wb607lawc1_code_c48 6 rfl rfl
theorem wld_1361 : decode code 1361 = .ok (.aload_n 2, 1) := wt_op44 wb607lawc1_code_c48 8 rfl rfl
theorem wld_1362 : decode code 1362 = .ok (.aload_n 0, 1) := wt_op42 wb607lawc1_code_c48 9 rfl rfl
theorem wld_1363 : decode code 1363 = .ok (.iload 4, 2) := wt_op21 wb607lawc1_code_c48 10 rfl rfl
theorem wld_1365 : decode code 1365 = .ok (.iconst 1, 1) := wt_op4 wb607lawc1_code_c48 12 rfl rfl
theorem wld_1366 : decode code 1366 = .ok (.iadd, 1) := wt_op96 wb607lawc1_code_c48 13 rfl rfl
theorem wld_1367 : decode code 1367 = .ok (.iaload, 1) := wt_op46 wb607lawc1_code_c48 14 rfl rfl
theorem wld_1368 : decode code 1368 = .ok (.invokevirtual 220, 3) := wt_op182 wb607lawc1_code_c48 15 rfl rfl rfl
theorem wld_1371 : decode code 1371 = .ok (.istore 6, 2) := wt_op54 wb607lawc1_code_c48 18 rfl rfl
theorem wld_1373 : decode code 1373 = .ok (.goto 54, 3) := wt_op167 wb607lawc1_code_c48 20 rfl rfl rfl
set_option maxRecDepth 100000 in
set_option maxHeartbeats 4000000 in
theorem wl_together {X : wt_X} {o b L : Nat} {xs : Nat → Int32} {n K : Nat} {Inv : wt_St → Prop} {i : Int32} (hE : wt_OkO X o code 7 "WornTypeLaw" 400 100000) (hdm : ∀ i, wt_dom (wt_xw X) i ↔ i < 321) (hSN : wt_SN (wt_Ao (wt_xw X) o (wt_xs X).heap.size) (wt_xs X) (wt_xs X).heap) (htr : (wt_xl X).stackTraces = false) (hX : wt_scr X o b L xs) (hi : ∀ c : Int32, c = 1 ∨ c = 2 ∨ c = 3 ∨ c = 4 ∨ c = 5 → vp_in (i + c) L) (hK : K + 8 ≤ 100000) (hP : wt_P_together n Inv) {σ : wt_St} (hσ : Inv σ) (kn : ∀ τ : wt_St, Inv τ → wt_O X o (K + 8) τ 1427 [some (.ref b), some (.ref (wt_ad (wt_xw X) 0)), some (.ref (wt_ad (wt_xw X) 108)), some (.ref o), some (.int i), none, none] []) : wt_O X o K σ 1348 [some (.ref b), some (.ref (wt_ad (wt_xw X) 0)), some (.ref (wt_ad (wt_xw X) 108)), some (.ref o), some (.int i), none, none] [] := by
  have hD : ∀ i, i < 108 → wt_dom (wt_xw X) i := fun i hi => (hdm i).mpr (by omega)
  have hM : ∀ i, 108 ≤ i → i < 321 → wt_dom (wt_xw X) i := fun i _ hi => (hdm i).mpr hi
  obtain ⟨q, hq, hx, r, hr, hI⟩ := hP _ (xs (i + (1 : Int32)).toNatClampNeg) hσ
  refine wt_o_aload_n hE wld_1348 rfl ?_
  refine wt_o_aload_n hE wld_1349 rfl ?_
  refine wt_o_iload hE wld_1350 rfl ?_
  refine wt_o_iconst hE (1 : Int32) wld_1352 (by decide) ?_
  refine wt_o_iadd hE wld_1353 ?_
  refine wt_o_sld hE hX (hi 1 (by decide)) wld_1354 ?_
  refine wt_o_aload_n hE wld_1355 rfl ?_
  refine wt_o_callW hE hSN (k := 3) (dd := 9) (mc := 8) [.ref (wt_ad (wt_xw X) 0), .int (xs (i + (1 : Int32)).toNatClampNeg), .ref o] (wt_g6 171 rfl rfl) (wt_g6 172 rfl rfl) (wt_g1 0 rfl rfl) wt_cm_together ⟨by decide, by decide, by decide +kernel⟩ (by decide) (ww_together_ok htr hE.2.2 hD hq hx) (by decide) rfl rfl (Nat.le_of_ble_eq_true rfl) (by omega) wld_1356 (fun w5 => ?_)
  refine wt_o_istore hE [some (.ref b), some (.ref (wt_ad (wt_xw X) 0)), some (.ref (wt_ad (wt_xw X) 108)), some (.ref o), some (.int i), some (.int w5), none] wld_1359 (by decide) rfl ?_
  refine wt_o_aload_n hE wld_1361 rfl ?_
  refine wt_o_aload_n hE wld_1362 rfl ?_
  refine wt_o_iload hE wld_1363 rfl ?_
  refine wt_o_iconst hE (1 : Int32) wld_1365 (by decide) ?_
  refine wt_o_iadd hE wld_1366 ?_
  refine wt_o_sld hE hX (hi 1 (by decide)) wld_1367 ?_
  refine wt_o_callVi (dd := 4) hE [.int (xs (i + (1 : Int32)).toNatClampNeg)] wt_lm_lw_220 wt_ya_md_together (wp_md_together_ok hM hr) (by decide) (hM 108 (by decide) (by decide)) wt_L108 rfl rfl rfl (Nat.le_of_ble_eq_true rfl) (by omega) wld_1368 ?_
  refine wt_o_istore hE [some (.ref b), some (.ref (wt_ad (wt_xw X) 0)), some (.ref (wt_ad (wt_xw X) 108)), some (.ref o), some (.int i), some (.int w5), some (.int r.1)] wld_1371 (by decide) rfl ?_
  refine wt_o_goto hE 1427 wld_1373 rfl ?_
  exact wt_o_wk [true, true, true, true, true, false, false] rfl (kn _ hI)
theorem wld_1376 : decode code 1376 = .ok (.aload_n 1, 1) := wt_op43 wb607lawc1_code_c48 23 rfl rfl
theorem wld_1377 : decode code 1377 = .ok (.invokevirtual 221, 3) := wt_op182 wb607lawc1_code_c48 24 rfl rfl rfl
theorem wld_1380 : decode code 1380 = .ok (.pop, 1) := wt_op87 wb607lawc1_code_c48 27 rfl rfl
theorem wld_1381 : decode code 1381 = .ok (.aload_n 2, 1) := wt_op44 wb607lawc1_code_c49 0 rfl rfl
theorem wld_1382 : decode code 1382 = .ok (.invokevirtual 224, 3) := wt_op182 wb607lawc1_code_c49 1 rfl rfl rfl
theorem wld_1385 : decode code 1385 = .ok (.pop, 1) := wt_op87 wb607lawc1_code_c49 4 rfl rfl
theorem wld_1386 : decode code 1386 = .ok (.goto 41, 3) := wt_op167 wb607lawc1_code_c49 5 rfl rfl rfl
set_option maxRecDepth 100000 in
set_option maxHeartbeats 4000000 in
theorem wl_image {X : wt_X} {o b L : Nat} {xs : Nat → Int32} {n K : Nat} {Inv : wt_St → Prop} {i : Int32} (hE : wt_OkO X o code 7 "WornTypeLaw" 400 100000) (hdm : ∀ i, wt_dom (wt_xw X) i ↔ i < 321) (hSN : wt_SN (wt_Ao (wt_xw X) o (wt_xs X).heap.size) (wt_xs X) (wt_xs X).heap) (htr : (wt_xl X).stackTraces = false) (hX : wt_scr X o b L xs) (hi : ∀ c : Int32, c = 1 ∨ c = 2 ∨ c = 3 ∨ c = 4 ∨ c = 5 → vp_in (i + c) L) (hK : K + 8 ≤ 100000) (hP : wt_P_image n Inv) {σ : wt_St} (hσ : Inv σ) (kn : ∀ τ : wt_St, Inv τ → wt_O X o (K + 8) τ 1427 [some (.ref b), some (.ref (wt_ad (wt_xw X) 0)), some (.ref (wt_ad (wt_xw X) 108)), some (.ref o), some (.int i), none, none] []) : wt_O X o K σ 1376 [some (.ref b), some (.ref (wt_ad (wt_xw X) 0)), some (.ref (wt_ad (wt_xw X) 108)), some (.ref o), some (.int i), none, none] [] := by
  have hD : ∀ i, i < 108 → wt_dom (wt_xw X) i := fun i hi => (hdm i).mpr (by omega)
  have hM : ∀ i, 108 ≤ i → i < 321 → wt_dom (wt_xw X) i := fun i _ hi => (hdm i).mpr hi
  obtain ⟨q, hq, r, hr, hI⟩ := hP _  hσ
  refine wt_o_aload_n hE wld_1376 rfl ?_
  refine wt_o_callVi (dd := 2) hE [] wt_lm_lw_221 wt_ya_ap_image (wp_ap_image_ok hD hq) (by decide) (hD 0 (by decide)) wt_L0 rfl rfl rfl (Nat.le_of_ble_eq_true rfl) (by omega) wld_1377 ?_
  refine wt_o_pop hE wld_1380 rfl ?_
  refine wt_o_aload_n hE wld_1381 rfl ?_
  refine wt_o_callVi (dd := 2) hE [] wt_lm_lw_224 wt_ya_md_image (wp_md_image_ok hM hr) (by decide) (hM 108 (by decide) (by decide)) wt_L108 rfl rfl rfl (Nat.le_of_ble_eq_true rfl) (by omega) wld_1382 ?_
  refine wt_o_pop hE wld_1385 rfl ?_
  refine wt_o_goto hE 1427 wld_1386 rfl ?_
  refine wt_o_kup (K' := K + 8) (by omega) ?_
  exact wt_o_wk [true, true, true, true, true, false, false] rfl (kn _ hI)
theorem wld_1389 : decode code 1389 = .ok (.aload_n 1, 1) := wt_op43 wb607lawc1_code_c49 8 rfl rfl
theorem wld_1390 : decode code 1390 = .ok (.invokevirtual 225, 3) := wt_op182 wb607lawc1_code_c49 9 rfl rfl rfl
theorem wld_1393 : decode code 1393 = .ok (.pop, 1) := wt_op87 wb607lawc1_code_c49 12 rfl rfl
theorem wld_1394 : decode code 1394 = .ok (.aload_n 2, 1) := wt_op44 wb607lawc1_code_c49 13 rfl rfl
theorem wld_1395 : decode code 1395 = .ok (.invokevirtual 228, 3) := wt_op182 wb607lawc1_code_c49 14 rfl rfl rfl
theorem wld_1398 : decode code 1398 = .ok (.pop, 1) := wt_op87 wb607lawc1_code_c49 17 rfl rfl
theorem wld_1399 : decode code 1399 = .ok (.goto 28, 3) := wt_op167 wb607lawc1_code_c49 18 rfl rfl rfl
set_option maxRecDepth 100000 in
set_option maxHeartbeats 4000000 in
theorem wl_restore {X : wt_X} {o b L : Nat} {xs : Nat → Int32} {n K : Nat} {Inv : wt_St → Prop} {i : Int32} (hE : wt_OkO X o code 7 "WornTypeLaw" 400 100000) (hdm : ∀ i, wt_dom (wt_xw X) i ↔ i < 321) (hSN : wt_SN (wt_Ao (wt_xw X) o (wt_xs X).heap.size) (wt_xs X) (wt_xs X).heap) (htr : (wt_xl X).stackTraces = false) (hX : wt_scr X o b L xs) (hi : ∀ c : Int32, c = 1 ∨ c = 2 ∨ c = 3 ∨ c = 4 ∨ c = 5 → vp_in (i + c) L) (hK : K + 8 ≤ 100000) (hP : wt_P_restore n Inv) {σ : wt_St} (hσ : Inv σ) (kn : ∀ τ : wt_St, Inv τ → wt_O X o (K + 8) τ 1427 [some (.ref b), some (.ref (wt_ad (wt_xw X) 0)), some (.ref (wt_ad (wt_xw X) 108)), some (.ref o), some (.int i), none, none] []) : wt_O X o K σ 1389 [some (.ref b), some (.ref (wt_ad (wt_xw X) 0)), some (.ref (wt_ad (wt_xw X) 108)), some (.ref o), some (.int i), none, none] [] := by
  have hD : ∀ i, i < 108 → wt_dom (wt_xw X) i := fun i hi => (hdm i).mpr (by omega)
  have hM : ∀ i, 108 ≤ i → i < 321 → wt_dom (wt_xw X) i := fun i _ hi => (hdm i).mpr hi
  obtain ⟨q, hq, r, hr, hI⟩ := hP _  hσ
  refine wt_o_aload_n hE wld_1389 rfl ?_
  refine wt_o_callVi (dd := 2) hE [] wt_lm_lw_225 wt_ya_ap_restore (wp_ap_restore_ok hD hq) (by decide) (hD 0 (by decide)) wt_L0 rfl rfl rfl (Nat.le_of_ble_eq_true rfl) (by omega) wld_1390 ?_
  refine wt_o_pop hE wld_1393 rfl ?_
  refine wt_o_aload_n hE wld_1394 rfl ?_
  refine wt_o_callVi (dd := 2) hE [] wt_lm_lw_228 wt_ya_md_restore (wp_md_restore_ok hM hr) (by decide) (hM 108 (by decide) (by decide)) wt_L108 rfl rfl rfl (Nat.le_of_ble_eq_true rfl) (by omega) wld_1395 ?_
  refine wt_o_pop hE wld_1398 rfl ?_
  refine wt_o_goto hE 1427 wld_1399 rfl ?_
  refine wt_o_kup (K' := K + 8) (by omega) ?_
  exact wt_o_wk [true, true, true, true, true, false, false] rfl (kn _ hI)
theorem wld_1402 : decode code 1402 = .ok (.aload_n 1, 1) := wt_op43 wb607lawc1_code_c49 21 rfl rfl
theorem wld_1403 : decode code 1403 = .ok (.aload_n 0, 1) := wt_op42 wb607lawc1_code_c49 22 rfl rfl
theorem wld_1404 : decode code 1404 = .ok (.iload 4, 2) := wt_op21 wb607lawc1_code_c49 23 rfl rfl
theorem wld_1406 : decode code 1406 = .ok (.iconst 1, 1) := wt_op4 wb607lawc1_code_c49 25 rfl rfl
theorem wld_1407 : decode code 1407 = .ok (.iadd, 1) := wt_op96 wb607lawc1_code_c49 26 rfl rfl
theorem wld_1408 : decode code 1408 = .ok (.iaload, 1) := wt_op46 wb607lawc1_code_c49 27 rfl rfl
theorem wld_1409 : decode code 1409 = .ok (.invokevirtual 229, 3) := wt_op182 wb607lawc1_code_c50 0 rfl rfl rfl
theorem wld_1412 : decode code 1412 = .ok (.aload_n 2, 1) := wt_op44 wb607lawc1_code_c50 3 rfl rfl
theorem wld_1413 : decode code 1413 = .ok (.aload_n 0, 1) := wt_op42 wb607lawc1_code_c50 4 rfl rfl
theorem wld_1414 : decode code 1414 = .ok (.iload 4, 2) := wt_op21 wb607lawc1_code_c50 5 rfl rfl
theorem wld_1416 : decode code 1416 = .ok (.iconst 1, 1) := wt_op4 wb607lawc1_code_c50 7 rfl rfl
theorem wld_1417 : decode code 1417 = .ok (.iadd, 1) := wt_op96 wb607lawc1_code_c50 8 rfl rfl
theorem wld_1418 : decode code 1418 = .ok (.iaload, 1) := wt_op46 wb607lawc1_code_c50 9 rfl rfl
theorem wld_1419 : decode code 1419 = .ok (.invokevirtual 232, 3) := wt_op182 wb607lawc1_code_c50 10 rfl rfl rfl
theorem wld_1422 : decode code 1422 = .ok (.if_icmp .eq 5, 3) := wt_op159 wb607lawc1_code_c50 13 rfl rfl rfl
theorem wld_1425 : decode code 1425 = .ok (.iconst 0, 1) := wt_op3 wb607lawc1_code_c50 16 rfl rfl
theorem wld_1426 : decode code 1426 = .ok (.ireturn, 1) := wt_op172 wb607lawc1_code_c50 17 rfl rfl
set_option maxRecDepth 100000 in
set_option maxHeartbeats 4000000 in
theorem wl_count {X : wt_X} {o b L : Nat} {xs : Nat → Int32} {n K : Nat} {Inv : wt_St → Prop} {i : Int32} (hE : wt_OkO X o code 7 "WornTypeLaw" 400 100000) (hdm : ∀ i, wt_dom (wt_xw X) i ↔ i < 321) (hSN : wt_SN (wt_Ao (wt_xw X) o (wt_xs X).heap.size) (wt_xs X) (wt_xs X).heap) (htr : (wt_xl X).stackTraces = false) (hX : wt_scr X o b L xs) (hi : ∀ c : Int32, c = 1 ∨ c = 2 ∨ c = 3 ∨ c = 4 ∨ c = 5 → vp_in (i + c) L) (hK : K + 8 ≤ 100000) (hP : wt_P_count n Inv) {σ : wt_St} (hσ : Inv σ) (kn : ∀ τ : wt_St, Inv τ → wt_O X o (K + 8) τ 1427 [some (.ref b), some (.ref (wt_ad (wt_xw X) 0)), some (.ref (wt_ad (wt_xw X) 108)), some (.ref o), some (.int i), none, none] []) : wt_O X o K σ 1402 [some (.ref b), some (.ref (wt_ad (wt_xw X) 0)), some (.ref (wt_ad (wt_xw X) 108)), some (.ref o), some (.int i), none, none] [] := by
  have hD : ∀ i, i < 108 → wt_dom (wt_xw X) i := fun i hi => (hdm i).mpr (by omega)
  have hM : ∀ i, 108 ≤ i → i < 321 → wt_dom (wt_xw X) i := fun i _ hi => (hdm i).mpr hi
  obtain ⟨q, hq, r, hr, he, hI⟩ := hP _ (xs (i + (1 : Int32)).toNatClampNeg) hσ
  refine wt_o_aload_n hE wld_1402 rfl ?_
  refine wt_o_aload_n hE wld_1403 rfl ?_
  refine wt_o_iload hE wld_1404 rfl ?_
  refine wt_o_iconst hE (1 : Int32) wld_1406 (by decide) ?_
  refine wt_o_iadd hE wld_1407 ?_
  refine wt_o_sld hE hX (hi 1 (by decide)) wld_1408 ?_
  refine wt_o_callVi (dd := 0) hE [.int (xs (i + (1 : Int32)).toNatClampNeg)] wt_lm_lw_229 wt_ya_ap_count (wp_ap_count_ok hD hq) (by decide) (hD 0 (by decide)) wt_L0 rfl rfl rfl (Nat.le_of_ble_eq_true rfl) (by omega) wld_1409 ?_
  refine wt_o_aload_n hE wld_1412 rfl ?_
  refine wt_o_aload_n hE wld_1413 rfl ?_
  refine wt_o_iload hE wld_1414 rfl ?_
  refine wt_o_iconst hE (1 : Int32) wld_1416 (by decide) ?_
  refine wt_o_iadd hE wld_1417 ?_
  refine wt_o_sld hE hX (hi 1 (by decide)) wld_1418 ?_
  refine wt_o_callVi (dd := 0) hE [.int (xs (i + (1 : Int32)).toNatClampNeg)] wt_lm_lw_232 wt_ya_md_count (wp_md_count_ok hM hr) (by decide) (hM 108 (by decide) (by decide)) wt_L108 rfl rfl rfl (Nat.le_of_ble_eq_true rfl) (by omega) wld_1419 ?_
  refine wt_o_icmp_eqT hE 1427 wld_1422 rfl he ?_
  refine wt_o_kup (K' := K + 8) (by omega) ?_
  exact wt_o_wk [true, true, true, true, true, false, false] rfl (kn _ hI)
end WLC
end WTQ0
-- 60.8lawl.lean.txt
section WTQ1
def R_law : String := "WornTypeLaw"
def lw_P (b : Addr) (xs : List Int32) (args : Array Value) (s : State) : Prop := args = #[.ref b] ∧ s.IntsAt b xs ∧ xs.length ≤ 3072 ∧ (Jvm.Cond.and given_1 narrow_1).before args s = true
def lw_Q (_ : Array Value) (s : State) (o : Outcome) (t : State) : Prop := o = .returned (some (.int 1)) ∧ Framed s o t [] 601024 7293034
def lw_Z (below : List Frame) (a : Array Value) (s : State) : State → Prop := fun t => ∃ o, t.status = .running ∧ Ended t below o ∧ lw_Q a s o t
/-- the law's own end, with 1 on the stack, nothing written that was there before, its room as the claim has it -/
theorem lw_ret {p : Program} {l : Launch} {e : Env} {s : State} {m : MethodId} {below : List Frame} {meth : Method} {c : Code} {b : Nat} (hx : p.tables.exec = Jvm.exec) (hb : c.code = code) (hr : meth.sig.returnType = ret) (hlocks : meth.locks = false) {pc : Nat} {H : Heap} {ls : Array Slot} (hdg : decode code pc = .ok (.ireturn, 1)) : W p l e room_1 s m #[Value.ref b] below meth c H [] 601024 7293034 (lw_Z below #[Value.ref b] s) (F0 m pc ls [.int 1]) := by
  intro T hT X
  obtain ⟨fs, hret, hrun, hended, hW, hframe⟩ := X.leave (v := some (.int 1)) (hlocks := hlocks) (fun h => by rw [hr] at h; cases h)
  have hmeth' : T.vm.method? m = some meth := X.method'
  refine ⟨T.setFrames fs, ?_, .returned (some (.int 1)), hrun, hended, rfl, ⟨_, rfl⟩, hW, hframe⟩
  jvm_step X.here [X.here.top, hx, hb, hdg, hmeth', hr, ret, narrow_b1]
  (try refine ⟨rfl, ?_⟩); (try refine ⟨rfl, ?_⟩)
  first | (intro acts; rw [hret _ acts rfl rfl rfl]) | rw [hret _ _ rfl rfl rfl]
  exact Steps.refl _
/-- what holds at the law's entry: the machine, the code, the tables' words (any of lw_tbl by 'hts w (by decide +kernel)'), the script of L ints xs at the cell b, what the Statement gives of the start (any of its parts by flat_of_before) -/
def lw_At (p : Program) (s : State) (m : MethodId) (meth : Method) (c : Code) (b L : Nat) (xs : Nat → Int32) : Prop :=
  p.tables.exec = Jvm.exec ∧ c.code = code ∧ meth.sig.returnType = ret ∧ c.maxLocals = 7 ∧ s.vm.findClass R_law = some m.cls ∧ (∀ w ∈ lw_tbl, w.before #[Value.ref b] s = true) ∧ va_X b L xs s s.heap ∧ b < s.heap.size ∧ meth.locks = false ∧ (Jvm.Cond.and given_1 narrow_1).before #[Value.ref b] s = true
def wb608lawl_code_r46 : List (List Nat) := [4, 172] :: []
def wb608lawl_code_r45 : List (List Nat) := [21, 4, 4, 96, 46, 182, 0, 229, 44, 42, 21, 4, 4, 96, 46, 182, 0, 232, 159, 0, 5, 3, 172, 132, 4, 6, 167, 250, 129] :: wb608lawl_code_r46
def wb608lawl_code_r44 : List (List Nat) := [43, 182, 0, 221, 87, 44, 182, 0, 224, 87, 167, 0, 41, 43, 182, 0, 225, 87, 44, 182, 0, 228, 87, 167, 0, 28, 43, 42] :: wb608lawl_code_r45
def wb608lawl_code_r43 : List (List Nat) := [43, 42, 21, 4, 4, 96, 46, 45, 184, 0, 218, 54, 5, 44, 42, 21, 4, 4, 96, 46, 182, 0, 220, 54, 6, 167, 0, 54] :: wb608lawl_code_r44
def wb608lawl_code_r42 : List (List Nat) := [46, 45, 184, 0, 215, 54, 5, 44, 42, 21, 4, 4, 96, 46, 42, 21, 4, 5, 96, 46, 182, 0, 217, 54, 6, 167, 0, 82] :: wb608lawl_code_r43
def wb608lawl_code_r41 : List (List Nat) := [5, 44, 42, 21, 4, 4, 96, 46, 182, 0, 214, 54, 6, 167, 0, 122, 43, 42, 21, 4, 4, 96, 46, 42, 21, 4, 5, 96] :: wb608lawl_code_r42
def wb608lawl_code_r40 : List (List Nat) := [5, 44, 42, 21, 4, 4, 96, 46, 182, 0, 211, 54, 6, 167, 0, 150, 43, 42, 21, 4, 4, 96, 46, 45, 184, 0, 212, 54] :: wb608lawl_code_r41
def wb608lawl_code_r39 : List (List Nat) := [5, 44, 42, 21, 4, 4, 96, 46, 182, 0, 208, 54, 6, 167, 0, 178, 43, 42, 21, 4, 4, 96, 46, 45, 184, 0, 209, 54] :: wb608lawl_code_r40
def wb608lawl_code_r38 : List (List Nat) := [96, 46, 42, 21, 4, 5, 96, 46, 182, 0, 205, 54, 6, 167, 0, 206, 43, 42, 21, 4, 4, 96, 46, 45, 184, 0, 206, 54] :: wb608lawl_code_r39
def wb608lawl_code_r37 : List (List Nat) := [87, 167, 0, 246, 43, 42, 21, 4, 4, 96, 46, 42, 21, 4, 5, 96, 46, 45, 184, 0, 203, 54, 5, 44, 42, 21, 4, 4] :: wb608lawl_code_r38
def wb608lawl_code_r36 : List (List Nat) := [0, 196, 54, 5, 44, 42, 21, 4, 4, 96, 46, 182, 0, 198, 54, 6, 167, 1, 3, 43, 182, 0, 199, 87, 44, 182, 0, 202] :: wb608lawl_code_r37
def wb608lawl_code_r35 : List (List Nat) := [0, 193, 54, 5, 44, 42, 21, 4, 4, 96, 46, 182, 0, 195, 54, 6, 167, 1, 31, 43, 42, 21, 4, 4, 96, 46, 45, 184] :: wb608lawl_code_r36
def wb608lawl_code_r34 : List (List Nat) := [188, 54, 6, 167, 1, 72, 43, 182, 0, 189, 87, 44, 182, 0, 192, 87, 167, 1, 59, 43, 42, 21, 4, 4, 96, 46, 45, 184] :: wb608lawl_code_r35
def wb608lawl_code_r33 : List (List Nat) := [5, 44, 42, 21, 4, 4, 96, 46, 42, 21, 4, 5, 96, 46, 42, 21, 4, 6, 96, 46, 42, 21, 4, 7, 96, 46, 182, 0] :: wb608lawl_code_r34
def wb608lawl_code_r32 : List (List Nat) := [21, 4, 4, 96, 46, 42, 21, 4, 5, 96, 46, 42, 21, 4, 6, 96, 46, 42, 21, 4, 7, 96, 46, 45, 184, 0, 186, 54] :: wb608lawl_code_r33
def wb608lawl_code_r31 : List (List Nat) := [21, 4, 4, 96, 46, 45, 184, 0, 183, 54, 5, 44, 42, 21, 4, 4, 96, 46, 182, 0, 185, 54, 6, 167, 1, 136, 43, 42] :: wb608lawl_code_r32
def wb608lawl_code_r30 : List (List Nat) := [42, 21, 4, 5, 96, 46, 42, 21, 4, 6, 96, 46, 42, 21, 4, 7, 96, 46, 182, 0, 182, 54, 6, 167, 1, 164, 43, 42] :: wb608lawl_code_r31
def wb608lawl_code_r29 : List (List Nat) := [5, 96, 46, 42, 21, 4, 6, 96, 46, 42, 21, 4, 7, 96, 46, 45, 184, 0, 179, 54, 5, 44, 42, 21, 4, 4, 96, 46] :: wb608lawl_code_r30
def wb608lawl_code_r28 : List (List Nat) := [4, 5, 96, 46, 42, 21, 4, 6, 96, 46, 182, 0, 178, 54, 6, 167, 1, 228, 43, 42, 21, 4, 4, 96, 46, 42, 21, 4] :: wb608lawl_code_r29
def wb608lawl_code_r27 : List (List Nat) := [46, 42, 21, 4, 5, 96, 46, 42, 21, 4, 6, 96, 46, 45, 184, 0, 176, 54, 5, 44, 42, 21, 4, 4, 96, 46, 42, 21] :: wb608lawl_code_r28
def wb608lawl_code_r26 : List (List Nat) := [5, 44, 42, 21, 4, 4, 96, 46, 42, 21, 4, 5, 96, 46, 182, 0, 175, 54, 6, 167, 2, 24, 43, 42, 21, 4, 4, 96] :: wb608lawl_code_r27
def wb608lawl_code_r25 : List (List Nat) := [96, 46, 182, 0, 172, 54, 6, 167, 2, 64, 43, 42, 21, 4, 4, 96, 46, 42, 21, 4, 5, 96, 46, 45, 184, 0, 173, 54] :: wb608lawl_code_r26
def wb608lawl_code_r24 : List (List Nat) := [21, 4, 4, 96, 46, 42, 21, 4, 5, 96, 46, 45, 184, 0, 170, 54, 5, 44, 42, 21, 4, 4, 96, 46, 42, 21, 4, 5] :: wb608lawl_code_r25
def wb608lawl_code_r23 : List (List Nat) := [21, 4, 4, 96, 46, 45, 184, 0, 167, 54, 5, 44, 42, 21, 4, 4, 96, 46, 182, 0, 169, 54, 6, 167, 2, 104, 43, 42] :: wb608lawl_code_r24
def wb608lawl_code_r22 : List (List Nat) := [184, 0, 164, 54, 5, 44, 42, 21, 4, 4, 96, 46, 42, 21, 4, 5, 96, 46, 182, 0, 166, 54, 6, 167, 2, 132, 43, 42] :: wb608lawl_code_r23
def wb608lawl_code_r21 : List (List Nat) := [42, 21, 4, 5, 96, 46, 182, 0, 163, 54, 6, 167, 2, 172, 43, 42, 21, 4, 4, 96, 46, 42, 21, 4, 5, 96, 46, 45] :: wb608lawl_code_r22
def wb608lawl_code_r20 : List (List Nat) := [2, 212, 43, 42, 21, 4, 4, 96, 46, 42, 21, 4, 5, 96, 46, 45, 184, 0, 161, 54, 5, 44, 42, 21, 4, 4, 96, 46] :: wb608lawl_code_r21
def wb608lawl_code_r19 : List (List Nat) := [5, 96, 46, 45, 184, 0, 158, 54, 5, 44, 42, 21, 4, 4, 96, 46, 42, 21, 4, 5, 96, 46, 182, 0, 160, 54, 6, 167] :: wb608lawl_code_r20
def wb608lawl_code_r18 : List (List Nat) := [155, 54, 5, 44, 42, 21, 4, 4, 96, 46, 182, 0, 157, 54, 6, 167, 2, 252, 43, 42, 21, 4, 4, 96, 46, 42, 21, 4] :: wb608lawl_code_r19
def wb608lawl_code_r17 : List (List Nat) := [152, 54, 5, 44, 42, 21, 4, 4, 96, 46, 182, 0, 154, 54, 6, 167, 3, 24, 43, 42, 21, 4, 4, 96, 46, 45, 184, 0] :: wb608lawl_code_r18
def wb608lawl_code_r16 : List (List Nat) := [4, 4, 96, 46, 42, 21, 4, 5, 96, 46, 182, 0, 151, 54, 6, 167, 3, 52, 43, 42, 21, 4, 4, 96, 46, 45, 184, 0] :: wb608lawl_code_r17
def wb608lawl_code_r15 : List (List Nat) := [148, 54, 6, 167, 3, 92, 43, 42, 21, 4, 4, 96, 46, 42, 21, 4, 5, 96, 46, 45, 184, 0, 149, 54, 5, 44, 42, 21] :: wb608lawl_code_r16
def wb608lawl_code_r14 : List (List Nat) := [46, 42, 21, 4, 5, 96, 46, 45, 184, 0, 146, 54, 5, 44, 42, 21, 4, 4, 96, 46, 42, 21, 4, 5, 96, 46, 182, 0] :: wb608lawl_code_r15
def wb608lawl_code_r13 : List (List Nat) := [5, 44, 42, 21, 4, 4, 96, 46, 42, 21, 4, 5, 96, 46, 182, 0, 145, 54, 6, 167, 3, 132, 43, 42, 21, 4, 4, 96] :: wb608lawl_code_r14
def wb608lawl_code_r12 : List (List Nat) := [96, 46, 182, 0, 142, 54, 6, 167, 3, 172, 43, 42, 21, 4, 4, 96, 46, 42, 21, 4, 5, 96, 46, 45, 184, 0, 143, 54] :: wb608lawl_code_r13
def wb608lawl_code_r11 : List (List Nat) := [21, 4, 6, 96, 46, 45, 184, 0, 139, 54, 5, 44, 42, 21, 4, 4, 96, 46, 42, 21, 4, 5, 96, 46, 42, 21, 4, 6] :: wb608lawl_code_r12
def wb608lawl_code_r10 : List (List Nat) := [42, 21, 4, 5, 96, 46, 182, 0, 138, 54, 6, 167, 3, 224, 43, 42, 21, 4, 4, 96, 46, 42, 21, 4, 5, 96, 46, 42] :: wb608lawl_code_r11
def wb608lawl_code_r9 : List (List Nat) := [4, 8, 43, 42, 21, 4, 4, 96, 46, 42, 21, 4, 5, 96, 46, 45, 184, 0, 135, 54, 5, 44, 42, 21, 4, 4, 96, 46] :: wb608lawl_code_r10
def wb608lawl_code_r8 : List (List Nat) := [4, 36, 43, 42, 21, 4, 4, 96, 46, 45, 184, 0, 132, 54, 5, 44, 42, 21, 4, 4, 96, 46, 182, 0, 134, 54, 6, 167] :: wb608lawl_code_r9
def wb608lawl_code_r7 : List (List Nat) := [54, 5, 44, 42, 21, 4, 4, 96, 46, 182, 0, 126, 54, 6, 167, 4, 49, 43, 182, 0, 127, 87, 44, 182, 0, 131, 87, 167] :: wb608lawl_code_r8
def wb608lawl_code_r6 : List (List Nat) := [54, 5, 44, 42, 21, 4, 4, 96, 46, 182, 0, 123, 54, 6, 167, 4, 77, 43, 42, 21, 4, 4, 96, 46, 45, 184, 0, 124] :: wb608lawl_code_r7
def wb608lawl_code_r5 : List (List Nat) := [54, 5, 44, 42, 21, 4, 4, 96, 46, 182, 0, 120, 54, 6, 167, 4, 105, 43, 42, 21, 4, 4, 96, 46, 45, 184, 0, 121] :: wb608lawl_code_r6
def wb608lawl_code_r4 : List (List Nat) := [4, 7, 96, 46, 42, 21, 4, 8, 96, 46, 182, 0, 114, 87, 167, 4, 133, 43, 42, 21, 4, 4, 96, 46, 45, 184, 0, 115] :: wb608lawl_code_r5
def wb608lawl_code_r3 : List (List Nat) := [8, 96, 46, 182, 0, 110, 87, 44, 42, 21, 4, 4, 96, 46, 42, 21, 4, 5, 96, 46, 42, 21, 4, 6, 96, 46, 42, 21] :: wb608lawl_code_r4
def wb608lawl_code_r2 : List (List Nat) := [43, 42, 21, 4, 4, 96, 46, 42, 21, 4, 5, 96, 46, 42, 21, 4, 6, 96, 46, 42, 21, 4, 7, 96, 46, 42, 21, 4] :: wb608lawl_code_r3
def wb608lawl_code_r1 : List (List Nat) := [100, 163, 5, 123, 42, 21, 4, 46, 16, 63, 126, 170, 0, 0, 0, 0, 0, 5, 107, 0, 0, 0, 0, 0, 0, 0, 35, 0, 0, 0, 160, 0, 0, 0, 233, 0, 0, 1, 5, 0, 0, 1, 33, 0, 0, 1, 61, 0, 0, 1, 74, 0, 0, 1, 102, 0, 0, 1, 142, 0, 0, 1, 194, 0, 0, 1, 234, 0, 0, 2, 18, 0, 0, 2, 58, 0, 0, 2, 86, 0, 0, 2, 114, 0, 0, 2, 154, 0, 0, 2, 194, 0, 0, 2, 234, 0, 0, 3, 6, 0, 0, 3, 46, 0, 0, 3, 86, 0, 0, 3, 138, 0, 0, 3, 202, 0, 0, 3, 230, 0, 0, 4, 38, 0, 0, 4, 51, 0, 0, 4, 79, 0, 0, 4, 107, 0, 0, 4, 120, 0, 0, 4, 160, 0, 0, 4, 188, 0, 0, 4, 216, 0, 0, 4, 244, 0, 0, 5, 28, 0, 0, 5, 56, 0, 0, 5, 69, 0, 0, 5, 82] :: wb608lawl_code_r2
def wb608lawl_code_r0 : List (List Nat) := [187, 0, 8, 89, 183, 0, 106, 76, 187, 0, 107, 89, 183, 0, 109, 77, 4, 188, 11, 78, 3, 54, 4, 21, 4, 42, 190, 16, 6] :: wb608lawl_code_r1
set_option maxRecDepth 100000 in
theorem wb608lawl_code_c0 : wt_cs code 0 wb608lawl_code_r0 := wt_cs_of (by decide +kernel)
theorem wb608lawl_code_c1 : wt_cs code 29 wb608lawl_code_r1 := wt_cs_tl (m := 29) wb608lawl_code_c0 rfl rfl
theorem wb608lawl_code_c2 : wt_cs code 200 wb608lawl_code_r2 := wt_cs_tl (m := 171) wb608lawl_code_c1 rfl rfl
theorem wb608lawl_code_c3 : wt_cs code 228 wb608lawl_code_r3 := wt_cs_tl (m := 28) wb608lawl_code_c2 rfl rfl
theorem wb608lawl_code_c4 : wt_cs code 256 wb608lawl_code_r4 := wt_cs_tl (m := 28) wb608lawl_code_c3 rfl rfl
theorem wb608lawl_code_c5 : wt_cs code 284 wb608lawl_code_r5 := wt_cs_tl (m := 28) wb608lawl_code_c4 rfl rfl
theorem wb608lawl_code_c6 : wt_cs code 312 wb608lawl_code_r6 := wt_cs_tl (m := 28) wb608lawl_code_c5 rfl rfl
theorem wb608lawl_code_c7 : wt_cs code 340 wb608lawl_code_r7 := wt_cs_tl (m := 28) wb608lawl_code_c6 rfl rfl
theorem wb608lawl_code_c8 : wt_cs code 368 wb608lawl_code_r8 := wt_cs_tl (m := 28) wb608lawl_code_c7 rfl rfl
theorem wb608lawl_code_c9 : wt_cs code 396 wb608lawl_code_r9 := wt_cs_tl (m := 28) wb608lawl_code_c8 rfl rfl
theorem wb608lawl_code_c10 : wt_cs code 424 wb608lawl_code_r10 := wt_cs_tl (m := 28) wb608lawl_code_c9 rfl rfl
theorem wb608lawl_code_c11 : wt_cs code 452 wb608lawl_code_r11 := wt_cs_tl (m := 28) wb608lawl_code_c10 rfl rfl
theorem wb608lawl_code_c12 : wt_cs code 480 wb608lawl_code_r12 := wt_cs_tl (m := 28) wb608lawl_code_c11 rfl rfl
theorem wb608lawl_code_c13 : wt_cs code 508 wb608lawl_code_r13 := wt_cs_tl (m := 28) wb608lawl_code_c12 rfl rfl
theorem wb608lawl_code_c14 : wt_cs code 536 wb608lawl_code_r14 := wt_cs_tl (m := 28) wb608lawl_code_c13 rfl rfl
theorem wb608lawl_code_c15 : wt_cs code 564 wb608lawl_code_r15 := wt_cs_tl (m := 28) wb608lawl_code_c14 rfl rfl
theorem wb608lawl_code_c16 : wt_cs code 592 wb608lawl_code_r16 := wt_cs_tl (m := 28) wb608lawl_code_c15 rfl rfl
theorem wb608lawl_code_c17 : wt_cs code 620 wb608lawl_code_r17 := wt_cs_tl (m := 28) wb608lawl_code_c16 rfl rfl
theorem wb608lawl_code_c18 : wt_cs code 648 wb608lawl_code_r18 := wt_cs_tl (m := 28) wb608lawl_code_c17 rfl rfl
theorem wb608lawl_code_c19 : wt_cs code 676 wb608lawl_code_r19 := wt_cs_tl (m := 28) wb608lawl_code_c18 rfl rfl
theorem wb608lawl_code_c20 : wt_cs code 704 wb608lawl_code_r20 := wt_cs_tl (m := 28) wb608lawl_code_c19 rfl rfl
theorem wb608lawl_code_c21 : wt_cs code 732 wb608lawl_code_r21 := wt_cs_tl (m := 28) wb608lawl_code_c20 rfl rfl
theorem wb608lawl_code_c22 : wt_cs code 760 wb608lawl_code_r22 := wt_cs_tl (m := 28) wb608lawl_code_c21 rfl rfl
theorem wb608lawl_code_c23 : wt_cs code 788 wb608lawl_code_r23 := wt_cs_tl (m := 28) wb608lawl_code_c22 rfl rfl
theorem wb608lawl_code_c24 : wt_cs code 816 wb608lawl_code_r24 := wt_cs_tl (m := 28) wb608lawl_code_c23 rfl rfl
theorem wb608lawl_code_c25 : wt_cs code 844 wb608lawl_code_r25 := wt_cs_tl (m := 28) wb608lawl_code_c24 rfl rfl
theorem wb608lawl_code_c26 : wt_cs code 872 wb608lawl_code_r26 := wt_cs_tl (m := 28) wb608lawl_code_c25 rfl rfl
theorem wb608lawl_code_c27 : wt_cs code 900 wb608lawl_code_r27 := wt_cs_tl (m := 28) wb608lawl_code_c26 rfl rfl
theorem wb608lawl_code_c28 : wt_cs code 928 wb608lawl_code_r28 := wt_cs_tl (m := 28) wb608lawl_code_c27 rfl rfl
theorem wb608lawl_code_c29 : wt_cs code 956 wb608lawl_code_r29 := wt_cs_tl (m := 28) wb608lawl_code_c28 rfl rfl
theorem wb608lawl_code_c30 : wt_cs code 984 wb608lawl_code_r30 := wt_cs_tl (m := 28) wb608lawl_code_c29 rfl rfl
theorem wb608lawl_code_c31 : wt_cs code 1012 wb608lawl_code_r31 := wt_cs_tl (m := 28) wb608lawl_code_c30 rfl rfl
theorem wb608lawl_code_c32 : wt_cs code 1040 wb608lawl_code_r32 := wt_cs_tl (m := 28) wb608lawl_code_c31 rfl rfl
theorem wb608lawl_code_c33 : wt_cs code 1068 wb608lawl_code_r33 := wt_cs_tl (m := 28) wb608lawl_code_c32 rfl rfl
theorem wb608lawl_code_c34 : wt_cs code 1096 wb608lawl_code_r34 := wt_cs_tl (m := 28) wb608lawl_code_c33 rfl rfl
theorem wb608lawl_code_c35 : wt_cs code 1124 wb608lawl_code_r35 := wt_cs_tl (m := 28) wb608lawl_code_c34 rfl rfl
theorem wb608lawl_code_c36 : wt_cs code 1152 wb608lawl_code_r36 := wt_cs_tl (m := 28) wb608lawl_code_c35 rfl rfl
theorem wb608lawl_code_c37 : wt_cs code 1180 wb608lawl_code_r37 := wt_cs_tl (m := 28) wb608lawl_code_c36 rfl rfl
theorem wb608lawl_code_c38 : wt_cs code 1208 wb608lawl_code_r38 := wt_cs_tl (m := 28) wb608lawl_code_c37 rfl rfl
theorem wb608lawl_code_c39 : wt_cs code 1236 wb608lawl_code_r39 := wt_cs_tl (m := 28) wb608lawl_code_c38 rfl rfl
theorem wb608lawl_code_c40 : wt_cs code 1264 wb608lawl_code_r40 := wt_cs_tl (m := 28) wb608lawl_code_c39 rfl rfl
theorem wb608lawl_code_c41 : wt_cs code 1292 wb608lawl_code_r41 := wt_cs_tl (m := 28) wb608lawl_code_c40 rfl rfl
theorem wb608lawl_code_c42 : wt_cs code 1320 wb608lawl_code_r42 := wt_cs_tl (m := 28) wb608lawl_code_c41 rfl rfl
theorem wb608lawl_code_c43 : wt_cs code 1348 wb608lawl_code_r43 := wt_cs_tl (m := 28) wb608lawl_code_c42 rfl rfl
theorem wb608lawl_code_c44 : wt_cs code 1376 wb608lawl_code_r44 := wt_cs_tl (m := 28) wb608lawl_code_c43 rfl rfl
theorem wb608lawl_code_c45 : wt_cs code 1404 wb608lawl_code_r45 := wt_cs_tl (m := 28) wb608lawl_code_c44 rfl rfl
theorem wb608lawl_code_c46 : wt_cs code 1433 wb608lawl_code_r46 := wt_cs_tl (m := 29) wb608lawl_code_c45 rfl rfl
theorem wld_23 : decode code 23 = .ok (.iload 4, 2) := wt_op21 wb608lawl_code_c0 23 rfl rfl
theorem wld_25 : decode code 25 = .ok (.aload_n 0, 1) := wt_op42 wb608lawl_code_c0 25 rfl rfl
theorem wld_26 : decode code 26 = .ok (.arraylength, 1) := wt_op190 wb608lawl_code_c0 26 rfl rfl
theorem wld_27 : decode code 27 = .ok (.bipush 6, 2) := wt_op16 wb608lawl_code_c0 27 rfl rfl rfl
theorem wld_29 : decode code 29 = .ok (.isub, 1) := wt_op100 wb608lawl_code_c1 0 rfl rfl
theorem wld_30 : decode code 30 = .ok (.if_icmp .gt 1403, 3) := wt_op163 wb608lawl_code_c1 1 rfl rfl rfl
theorem wld_33 : decode code 33 = .ok (.aload_n 0, 1) := wt_op42 wb608lawl_code_c1 4 rfl rfl
theorem wld_34 : decode code 34 = .ok (.iload 4, 2) := wt_op21 wb608lawl_code_c1 5 rfl rfl
theorem wld_36 : decode code 36 = .ok (.iaload, 1) := wt_op46 wb608lawl_code_c1 7 rfl rfl
theorem wld_37 : decode code 37 = .ok (.bipush 63, 2) := wt_op16 wb608lawl_code_c1 8 rfl rfl rfl
theorem wld_39 : decode code 39 = .ok (.iand, 1) := wt_op126 wb608lawl_code_c1 10 rfl rfl
theorem wld_40 : decode code 40 = .ok (.tableswitch 1387 0 35 #[160, 233, 261, 289, 317, 330, 358, 398, 450, 490, 530, 570, 598, 626, 666, 706, 746, 774, 814, 854, 906, 970, 998, 1062, 1075, 1103, 1131, 1144, 1184, 1212, 1240, 1268, 1308, 1336, 1349, 1362], 160) := by decide +kernel
theorem wld_1430 : decode code 1430 = .ok (.goto (-1407), 3) := wt_op167 wb608lawl_code_c45 26 rfl rfl rfl
theorem wld_1433 : decode code 1433 = .ok (.iconst 1, 1) := wt_op4 wb608lawl_code_c46 0 rfl rfl
theorem wld_1434 : decode code 1434 = .ok (.ireturn, 1) := wt_op172 wb608lawl_code_c46 1 rfl rfl
theorem wld_1427 : decode code 1427 = .ok (.iinc 4 6, 3) := wt_op132 wb608lawl_code_c45 23 rfl rfl rfl
theorem wt_o_end {X : wt_X} {o b K pc : Nat} {σ : wt_St} {lv : List (Option Value)} {nL d Km : Nat} {own : String} (hE : wt_OkO X o code nL own d Km) (hsz : ∀ q, wt_Ao (wt_xw X) o (wt_xs X).heap.size q → (wt_xs X).heap.size ≤ q) (hQ : wt_xQ X = lw_Z (wt_xb X) #[Value.ref b] (wt_xs X)) (ha : wt_xa X = #[Value.ref b]) (hR : wt_xR X = room_1) (hret : (wt_xM X).sig.returnType = ret) (hK : K ≤ 400000) (hd : decode code pc = .ok (.ireturn, 1)) : wt_O X o K σ pc lv [.int 1] := by
  intro H locs ls ce sl h1 h2 hw ho hS hl
  obtain ⟨⟨p, l, e, R, s, m, args, below, meth, c⟩, w, n, Q⟩ := X
  have hQ : Q = lw_Z below #[Value.ref b] s := hQ
  have ha : args = #[Value.ref b] := ha
  have hR : R = room_1 := hR
  subst hQ
  subst ha
  subst hR
  show W p l e room_1 s m #[Value.ref b] below meth c H locs ce sl (lw_Z below #[Value.ref b] s) (F0 m pc ls [.int 1])
  refine va_forget (fun q hq => hsz _ (hS.2.2 q hq)) ?_
  refine W.widen (k := 601024) (n := 7293034) (by omega) (by omega) ?_
  exact lw_ret hE.1.1 hE.1.2.1 hret hE.1.2.2.2.2.2.2.2.2.2.2.2.2.1 hd
theorem wt_vin {L k : Nat} (hL : L ≤ 3072) {c : Int32} {j : Nat} (hc : c = nI j) (hj : k + j < L) : vp_in (nI k + c) L := by
  rw [hc, nI_add]
  exact nI_in hj (by omega)
set_option maxRecDepth 100000 in
set_option maxHeartbeats 4000000 in
theorem wt_law_case {X : wt_X} {o b L : Nat} {xs : Nat → Int32} {n K : Nat} {Inv : wt_St → Prop} {i x : Int32} (hE : wt_OkO X o code 7 "WornTypeLaw" 400 100000) (hdm : ∀ i, wt_dom (wt_xw X) i ↔ i < 321) (hSN : wt_SN (wt_Ao (wt_xw X) o (wt_xs X).heap.size) (wt_xs X) (wt_xs X).heap) (htr : (wt_xl X).stackTraces = false) (hX : wt_scr X o b L xs) (hi : ∀ c : Int32, c = 1 ∨ c = 2 ∨ c = 3 ∨ c = 4 ∨ c = 5 → vp_in (i + c) L) (hK : K + 8 ≤ 100000) (hP : wt_P n Inv) {σ : wt_St} (hσ : Inv σ) (kn : ∀ τ : wt_St, Inv τ → wt_O X o (K + 8) τ 1427 [some (.ref b), some (.ref (wt_ad (wt_xw X) 0)), some (.ref (wt_ad (wt_xw X) 108)), some (.ref o), some (.int i), none, none] []) : wt_O X o K σ 40 [some (.ref b), some (.ref (wt_ad (wt_xw X) 0)), some (.ref (wt_ad (wt_xw X) 108)), some (.ref o), some (.int i), none, none] [.int x] := by
  obtain ⟨hP_feed, hP_kase, hP_tongue, hP_text, hP_fault, hP_told, hP_letter, hP_piece, hP_word, hP_at, hP_needs, hP_habit, hP_can, hP_lacks, hP_set, hP_print, hP_apart, hP_page, hP_read, hP_least, hP_fitting, hP_wordings, hP_want, hP_forget, hP_most, hP_greedy, hP_bound, hP_said, hP_lost, hP_ends, hP_exchange, hP_cast, hP_together, hP_image, hP_restore, hP_count⟩ := hP
  by_cases c0 : x = (0 : Int32)
  · refine wt_o_tsIn hE (off := 160) 200 c0 wld_40 (by decide) (by decide) (by decide) rfl ?_
    exact wl_feed hE hdm hSN htr hX hi hK hP_feed hσ kn
  by_cases c1 : x = (1 : Int32)
  · refine wt_o_tsIn hE (off := 233) 273 c1 wld_40 (by decide) (by decide) (by decide) rfl ?_
    exact wl_kase hE hdm hSN htr hX hi hK hP_kase hσ kn
  by_cases c2 : x = (2 : Int32)
  · refine wt_o_tsIn hE (off := 261) 301 c2 wld_40 (by decide) (by decide) (by decide) rfl ?_
    exact wl_tongue hE hdm hSN htr hX hi hK hP_tongue hσ kn
  by_cases c3 : x = (3 : Int32)
  · refine wt_o_tsIn hE (off := 289) 329 c3 wld_40 (by decide) (by decide) (by decide) rfl ?_
    exact wl_text hE hdm hSN htr hX hi hK hP_text hσ kn
  by_cases c4 : x = (4 : Int32)
  · refine wt_o_tsIn hE (off := 317) 357 c4 wld_40 (by decide) (by decide) (by decide) rfl ?_
    exact wl_fault hE hdm hSN htr hX hi hK hP_fault hσ kn
  by_cases c5 : x = (5 : Int32)
  · refine wt_o_tsIn hE (off := 330) 370 c5 wld_40 (by decide) (by decide) (by decide) rfl ?_
    exact wl_told hE hdm hSN htr hX hi hK hP_told hσ kn
  by_cases c6 : x = (6 : Int32)
  · refine wt_o_tsIn hE (off := 358) 398 c6 wld_40 (by decide) (by decide) (by decide) rfl ?_
    exact wl_letter hE hdm hSN htr hX hi hK hP_letter hσ kn
  by_cases c7 : x = (7 : Int32)
  · refine wt_o_tsIn hE (off := 398) 438 c7 wld_40 (by decide) (by decide) (by decide) rfl ?_
    exact wl_piece hE hdm hSN htr hX hi hK hP_piece hσ kn
  by_cases c8 : x = (8 : Int32)
  · refine wt_o_tsIn hE (off := 450) 490 c8 wld_40 (by decide) (by decide) (by decide) rfl ?_
    exact wl_word hE hdm hSN htr hX hi hK hP_word hσ kn
  by_cases c9 : x = (9 : Int32)
  · refine wt_o_tsIn hE (off := 490) 530 c9 wld_40 (by decide) (by decide) (by decide) rfl ?_
    exact wl_at hE hdm hSN htr hX hi hK hP_at hσ kn
  by_cases c10 : x = (10 : Int32)
  · refine wt_o_tsIn hE (off := 530) 570 c10 wld_40 (by decide) (by decide) (by decide) rfl ?_
    exact wl_needs hE hdm hSN htr hX hi hK hP_needs hσ kn
  by_cases c11 : x = (11 : Int32)
  · refine wt_o_tsIn hE (off := 570) 610 c11 wld_40 (by decide) (by decide) (by decide) rfl ?_
    exact wl_habit hE hdm hSN htr hX hi hK hP_habit hσ kn
  by_cases c12 : x = (12 : Int32)
  · refine wt_o_tsIn hE (off := 598) 638 c12 wld_40 (by decide) (by decide) (by decide) rfl ?_
    exact wl_can hE hdm hSN htr hX hi hK hP_can hσ kn
  by_cases c13 : x = (13 : Int32)
  · refine wt_o_tsIn hE (off := 626) 666 c13 wld_40 (by decide) (by decide) (by decide) rfl ?_
    exact wl_lacks hE hdm hSN htr hX hi hK hP_lacks hσ kn
  by_cases c14 : x = (14 : Int32)
  · refine wt_o_tsIn hE (off := 666) 706 c14 wld_40 (by decide) (by decide) (by decide) rfl ?_
    exact wl_set hE hdm hSN htr hX hi hK hP_set hσ kn
  by_cases c15 : x = (15 : Int32)
  · refine wt_o_tsIn hE (off := 706) 746 c15 wld_40 (by decide) (by decide) (by decide) rfl ?_
    exact wl_print hE hdm hSN htr hX hi hK hP_print hσ kn
  by_cases c16 : x = (16 : Int32)
  · refine wt_o_tsIn hE (off := 746) 786 c16 wld_40 (by decide) (by decide) (by decide) rfl ?_
    exact wl_apart hE hdm hSN htr hX hi hK hP_apart hσ kn
  by_cases c17 : x = (17 : Int32)
  · refine wt_o_tsIn hE (off := 774) 814 c17 wld_40 (by decide) (by decide) (by decide) rfl ?_
    exact wl_page hE hdm hSN htr hX hi hK hP_page hσ kn
  by_cases c18 : x = (18 : Int32)
  · refine wt_o_tsIn hE (off := 814) 854 c18 wld_40 (by decide) (by decide) (by decide) rfl ?_
    exact wl_read hE hdm hSN htr hX hi hK hP_read hσ kn
  by_cases c19 : x = (19 : Int32)
  · refine wt_o_tsIn hE (off := 854) 894 c19 wld_40 (by decide) (by decide) (by decide) rfl ?_
    exact wl_least hE hdm hSN htr hX hi hK hP_least hσ kn
  by_cases c20 : x = (20 : Int32)
  · refine wt_o_tsIn hE (off := 906) 946 c20 wld_40 (by decide) (by decide) (by decide) rfl ?_
    exact wl_fitting hE hdm hSN htr hX hi hK hP_fitting hσ kn
  by_cases c21 : x = (21 : Int32)
  · refine wt_o_tsIn hE (off := 970) 1010 c21 wld_40 (by decide) (by decide) (by decide) rfl ?_
    exact wl_wordings hE hdm hSN htr hX hi hK hP_wordings hσ kn
  by_cases c22 : x = (22 : Int32)
  · refine wt_o_tsIn hE (off := 998) 1038 c22 wld_40 (by decide) (by decide) (by decide) rfl ?_
    exact wl_want hE hdm hSN htr hX hi hK hP_want hσ kn
  by_cases c23 : x = (23 : Int32)
  · refine wt_o_tsIn hE (off := 1062) 1102 c23 wld_40 (by decide) (by decide) (by decide) rfl ?_
    exact wl_forget hE hdm hSN htr hX hi hK hP_forget hσ kn
  by_cases c24 : x = (24 : Int32)
  · refine wt_o_tsIn hE (off := 1075) 1115 c24 wld_40 (by decide) (by decide) (by decide) rfl ?_
    exact wl_most hE hdm hSN htr hX hi hK hP_most hσ kn
  by_cases c25 : x = (25 : Int32)
  · refine wt_o_tsIn hE (off := 1103) 1143 c25 wld_40 (by decide) (by decide) (by decide) rfl ?_
    exact wl_greedy hE hdm hSN htr hX hi hK hP_greedy hσ kn
  by_cases c26 : x = (26 : Int32)
  · refine wt_o_tsIn hE (off := 1131) 1171 c26 wld_40 (by decide) (by decide) (by decide) rfl ?_
    exact wl_bound hE hdm hSN htr hX hi hK hP_bound hσ kn
  by_cases c27 : x = (27 : Int32)
  · refine wt_o_tsIn hE (off := 1144) 1184 c27 wld_40 (by decide) (by decide) (by decide) rfl ?_
    exact wl_said hE hdm hSN htr hX hi hK hP_said hσ kn
  by_cases c28 : x = (28 : Int32)
  · refine wt_o_tsIn hE (off := 1184) 1224 c28 wld_40 (by decide) (by decide) (by decide) rfl ?_
    exact wl_lost hE hdm hSN htr hX hi hK hP_lost hσ kn
  by_cases c29 : x = (29 : Int32)
  · refine wt_o_tsIn hE (off := 1212) 1252 c29 wld_40 (by decide) (by decide) (by decide) rfl ?_
    exact wl_ends hE hdm hSN htr hX hi hK hP_ends hσ kn
  by_cases c30 : x = (30 : Int32)
  · refine wt_o_tsIn hE (off := 1240) 1280 c30 wld_40 (by decide) (by decide) (by decide) rfl ?_
    exact wl_exchange hE hdm hSN htr hX hi hK hP_exchange hσ kn
  by_cases c31 : x = (31 : Int32)
  · refine wt_o_tsIn hE (off := 1268) 1308 c31 wld_40 (by decide) (by decide) (by decide) rfl ?_
    exact wl_cast hE hdm hSN htr hX hi hK hP_cast hσ kn
  by_cases c32 : x = (32 : Int32)
  · refine wt_o_tsIn hE (off := 1308) 1348 c32 wld_40 (by decide) (by decide) (by decide) rfl ?_
    exact wl_together hE hdm hSN htr hX hi hK hP_together hσ kn
  by_cases c33 : x = (33 : Int32)
  · refine wt_o_tsIn hE (off := 1336) 1376 c33 wld_40 (by decide) (by decide) (by decide) rfl ?_
    exact wl_image hE hdm hSN htr hX hi hK hP_image hσ kn
  by_cases c34 : x = (34 : Int32)
  · refine wt_o_tsIn hE (off := 1349) 1389 c34 wld_40 (by decide) (by decide) (by decide) rfl ?_
    exact wl_restore hE hdm hSN htr hX hi hK hP_restore hσ kn
  by_cases c35 : x = (35 : Int32)
  · refine wt_o_tsIn hE (off := 1362) 1402 c35 wld_40 (by decide) (by decide) (by decide) rfl ?_
    exact wl_count hE hdm hSN htr hX hi hK hP_count hσ kn
  refine wt_o_tsOut hE 36 1427 rfl (by decide) (fun j hj => ?_) wld_40 rfl ?_
  · rcases (show j = 0 ∨ j = 1 ∨ j = 2 ∨ j = 3 ∨ j = 4 ∨ j = 5 ∨ j = 6 ∨ j = 7 ∨ j = 8 ∨ j = 9 ∨ j = 10 ∨ j = 11 ∨ j = 12 ∨ j = 13 ∨ j = 14 ∨ j = 15 ∨ j = 16 ∨ j = 17 ∨ j = 18 ∨ j = 19 ∨ j = 20 ∨ j = 21 ∨ j = 22 ∨ j = 23 ∨ j = 24 ∨ j = 25 ∨ j = 26 ∨ j = 27 ∨ j = 28 ∨ j = 29 ∨ j = 30 ∨ j = 31 ∨ j = 32 ∨ j = 33 ∨ j = 34 ∨ j = 35 by omega) with rfl | rfl | rfl | rfl | rfl | rfl | rfl | rfl | rfl | rfl | rfl | rfl | rfl | rfl | rfl | rfl | rfl | rfl | rfl | rfl | rfl | rfl | rfl | rfl | rfl | rfl | rfl | rfl | rfl | rfl | rfl | rfl | rfl | rfl | rfl | rfl
    · exact c0
    · exact c1
    · exact c2
    · exact c3
    · exact c4
    · exact c5
    · exact c6
    · exact c7
    · exact c8
    · exact c9
    · exact c10
    · exact c11
    · exact c12
    · exact c13
    · exact c14
    · exact c15
    · exact c16
    · exact c17
    · exact c18
    · exact c19
    · exact c20
    · exact c21
    · exact c22
    · exact c23
    · exact c24
    · exact c25
    · exact c26
    · exact c27
    · exact c28
    · exact c29
    · exact c30
    · exact c31
    · exact c32
    · exact c33
    · exact c34
    · exact c35
  exact wt_o_kup (K' := K + 8) (by omega) (kn _ hσ)
set_option maxRecDepth 100000 in
set_option maxHeartbeats 4000000 in
theorem wt_law_loop {X : wt_X} {o b L : Nat} {xs : Nat → Int32} {n : Nat} {Inv : wt_St → Prop} (hE : wt_OkO X o code 7 "WornTypeLaw" 400 100000) (hdm : ∀ i, wt_dom (wt_xw X) i ↔ i < 321) (hSN : wt_SN (wt_Ao (wt_xw X) o (wt_xs X).heap.size) (wt_xs X) (wt_xs X).heap) (htr : (wt_xl X).stackTraces = false) (hX : wt_scr X o b L xs) (hsz : ∀ q, wt_Ao (wt_xw X) o (wt_xs X).heap.size q → (wt_xs X).heap.size ≤ q) (hQ : wt_xQ X = lw_Z (wt_xb X) #[Value.ref b] (wt_xs X)) (ha : wt_xa X = #[Value.ref b]) (hR : wt_xR X = room_1) (hret : (wt_xM X).sig.returnType = ret) (hL : L ≤ 3072) (hP : wt_P n Inv) : ∀ (f k K : Nat) (σ : wt_St), L + 1 ≤ k + f → k ≤ 4000 → K + 8 * f ≤ 100000 → Inv σ → wt_O X o K σ 23 [some (.ref b), some (.ref (wt_ad (wt_xw X) 0)), some (.ref (wt_ad (wt_xw X) 108)), some (.ref o), some (.int (nI k)), none, none] [] := by
  intro f
  induction f with
  | zero =>
    intro k K σ hf hk hKf hσ
    refine wt_o_iload hE wld_23 rfl ?_
    refine wt_o_aload_n hE wld_25 rfl ?_
    refine wt_o_slen hE hX wld_26 ?_
    refine wt_o_bipush hE (6 : Int32) wld_27 (by decide) ?_
    refine wt_o_isub hE wld_29 ?_
    have e1 : (Int32.ofNat L - 6).toInt = (L : Int) - 6 := by
      have := nI_toInt (n := L) (by omega)
      have e6 : (6 : Int32).toInt = 6 := by decide
      unfold nI at this
      rw [Jvm.Kit.i32_sub (by rw [this, e6]; omega) (by rw [this, e6]; omega), this, e6]
    refine wt_o_icmp_gt hE 1433 wld_30 rfl (fun c => ?_) (fun c => ?_)
    · refine wt_o_iconst hE (1 : Int32) wld_1433 (by decide) ?_
      exact wt_o_end hE hsz hQ ha hR hret (by omega) wld_1434
    · rw [Int32.lt_iff_toInt_lt, e1, nI_toInt (by omega)] at c
      omega
  | succ f ih =>
    intro k K σ hf hk hKf hσ
    refine wt_o_iload hE wld_23 rfl ?_
    refine wt_o_aload_n hE wld_25 rfl ?_
    refine wt_o_slen hE hX wld_26 ?_
    refine wt_o_bipush hE (6 : Int32) wld_27 (by decide) ?_
    refine wt_o_isub hE wld_29 ?_
    have e1 : (Int32.ofNat L - 6).toInt = (L : Int) - 6 := by
      have := nI_toInt (n := L) (by omega)
      have e6 : (6 : Int32).toInt = 6 := by decide
      unfold nI at this
      rw [Jvm.Kit.i32_sub (by rw [this, e6]; omega) (by rw [this, e6]; omega), this, e6]
    refine wt_o_icmp_gt hE 1433 wld_30 rfl (fun c => ?_) (fun c => ?_)
    · refine wt_o_iconst hE (1 : Int32) wld_1433 (by decide) ?_
      exact wt_o_end hE hsz hQ ha hR hret (by omega) wld_1434
    · rw [Int32.lt_iff_toInt_lt, e1, nI_toInt (by omega)] at c
      refine wt_o_aload_n hE wld_33 rfl ?_
      refine wt_o_iload hE wld_34 rfl ?_
      refine wt_o_sld hE hX (nI_in (by omega) (by omega)) wld_36 ?_
      refine wt_o_bipush hE (63 : Int32) wld_37 (by decide) ?_
      refine wt_o_iand hE wld_39 ?_
      refine wt_law_case hE hdm hSN htr hX (fun c5 hc => ?_) (by omega) hP hσ (fun τ hτ => ?_)
      · rcases hc with rfl | rfl | rfl | rfl | rfl
        · exact wt_vin hL (j := 1) rfl (by omega)
        · exact wt_vin hL (j := 2) rfl (by omega)
        · exact wt_vin hL (j := 3) rfl (by omega)
        · exact wt_vin hL (j := 4) rfl (by omega)
        · exact wt_vin hL (j := 5) rfl (by omega)
      · refine wt_o_iinc hE (nI (k + 6)) [some (.ref b), some (.ref (wt_ad (wt_xw X) 0)), some (.ref (wt_ad (wt_xw X) 108)), some (.ref o), some (.int (nI (k + 6))), none, none] wld_1427 (by decide) rfl (nI_add k 6) rfl ?_
        refine wt_o_goto hE 23 wld_1430 rfl ?_
        exact ih (k + 6) (K + 8) τ (by omega) (by omega) (by omega) hτ
set_option maxRecDepth 100000 in
set_option maxHeartbeats 4000000 in
/-- the law from its entry, out of what the programs do -/
theorem wt_whole_start {n : Nat} {σ : wt_St} {Inv : wt_St → Prop} (hm : wt_made n σ) (hI : Inv σ) (hP : wt_P n Inv) {p : Program} {e : Env} {s : State} {m : MethodId} {below : List Frame} {meth : Method} {c : Code} (l : Launch) (hflags : l.flags = flags0) {b L : Nat} {xs : Nat → Int32} (hL : L ≤ 3072) (C0 : lw_At p s m meth c b L xs) : W p l e room_1 s m #[Value.ref b] below meth c s.heap [] 0 0 (lw_Z below #[Value.ref b] s) (entryFrame m ([Value.ref b] : List Value).toArray 7) := by
  obtain ⟨hx, hb, hr, hml, hown, hts, hX, hbl, hlocks, hgv⟩ := C0
  have htr : l.stackTraces = false := by
    unfold Launch.stackTraces
    rw [hflags]
    decide +kernel
  obtain ⟨D, cI, cJ, cS, hK⟩ := wt_start_K hts
  let w0 : wt_E := (D, cI, cJ, cS, fun _ => 0, fun _ => False)
  let X : wt_X := ((p, l, e, room_1, s, m, #[Value.ref b], below, meth, c), w0, 7, lw_Z below #[Value.ref b] s)
  have hA : ∀ a : Nat, a < s.heap.size → ¬ wt_A w0 s.heap.size a := fun a ha hz => by
    rcases hz with ⟨i, hi, -⟩ | hz
    · exact hi
    · omega
  have hE : wt_Ok X code 7 "WornTypeLaw" 400 100000 := ⟨hx, hb, hml, rfl, hown, wt_start_GT hts, hK, wt_start_NW hts, by show _ ≤ 2048; omega, by show _ ≤ 84000; omega, by show _ ≤ 601024; omega, by show _ ≤ 7293034; omega, hlocks, wt_start_FX hts hgv hA⟩
  have hgo : wt_BV X (.ref b) 0 0 0 [] wt_z 0 [none, none, none, none, none, none] [] := by
    refine wt_law_start hm hE (wt_start_SA hts) ?_
    refine wt_law_conv hE (fun i hi => hi) (wt_g9 42 rfl rfl) hX hbl (by omega) (fun X1 o hX1 hX2 hdm hE1 hsc hA1 => ?_)
    obtain ⟨X10, w1, n1, Q1⟩ := X1
    have hX1 : X10 = X.1 := hX1
    subst hX1
    have hX2 : (n1, Q1) = X.2.2 := hX2
    have hn1 : n1 = 7 := congrArg Prod.fst hX2
    have hQ1 : Q1 = lw_Z below #[Value.ref b] s := congrArg Prod.snd hX2
    subst hn1
    subst hQ1
    exact wt_law_loop hE1 hdm (wt_start_SN hts hgv) htr hsc hA1 rfl rfl rfl hr hL hP (L + 1) 0 3001 σ (by omega) (by omega) (by omega) hI
  have hlo := wt_args_lo (av := [.ref b]) (n := 7) rfl (Nat.le_of_ble_eq_true rfl)
  rw [lg_entry_eq]
  exact hgo (fun _ => 0) s.heap [] _ 0 0 (Nat.le_refl _) (Nat.le_refl _) ⟨fun i hi => hi.elim, fun k q h => by simp [wt_bw] at h, ⟨fun i j p q h => by simp [wt_bw] at h, fun k q h => by simp [wt_bw] at h⟩, wt_z_zero⟩ va_S.rf hlo
end WTQ1
-- 70.tc.lean.txt
section WTQ2
/-! total correctness of the pure programs -/
def wt_T {α : Type} (p : Option α) (Q : α → Prop) : Prop := ∃ a, p = some a ∧ Q a
section WTT
variable {α β ρ : Type}
theorem wt_T_some {a : α} {Q : α → Prop} (h : Q a) : wt_T (some a) Q := ⟨a, rfl, h⟩
theorem wt_T_gd {c : Prop} [Decidable c] {A : Option α} {Q : α → Prop} (hc : ¬ c) (h : wt_T A Q) : wt_T (if c then none else A) Q := by rw [if_neg hc]; exact h
theorem wt_T_gp {c : Prop} [Decidable c] {A : Option α} {Q : α → Prop} (hc : c) (h : wt_T A Q) : wt_T (if c then A else none) Q := by rw [if_pos hc]; exact h
theorem wt_T_if {c : Prop} [Decidable c] {A B : Option α} {Q : α → Prop} (h1 : c → wt_T A Q) (h2 : ¬ c → wt_T B Q) : wt_T (if c then A else B) Q := by
  by_cases hc : c
  · rw [if_pos hc]; exact h1 hc
  · rw [if_neg hc]; exact h2 hc
theorem wt_T_bi {x : Option α} {f : α → Option β} {P : α → Prop} {Q : β → Prop} (h : wt_T x P) (k : ∀ a, P a → wt_T (f a) Q) : wt_T (x.bind f) Q := by
  obtain ⟨a, rfl, hp⟩ := h
  exact k a hp
theorem wt_T.imp {x : Option α} {P Q : α → Prop} (h : wt_T x P) (k : ∀ a, P a → Q a) : wt_T x Q := by
  obtain ⟨a, e, hp⟩ := h
  exact ⟨a, e, k a hp⟩
theorem wt_T_it {body : (α → Option ρ) → α → Option ρ} {Q : ρ → Prop} (I : α → Prop) (m : α → Nat) (h : ∀ (K : α → Option ρ) (s : α), I s → (∀ s', I s' → m s' < m s → wt_T (K s') Q) → wt_T (body K s) Q) : ∀ (n : Nat) (s : α), I s → m s < n → wt_T (wt_it body n s) Q := by
  intro n
  induction n with
  | zero => intro s _ h1; omega
  | succ n ih => intro s hs h1; exact h _ s hs (fun s' hs' hlt => ih s' hs' (by omega))
end WTT
theorem wt_clt {a b : Int32} (h : a < b) : a.toInt < b.toInt := Int32.lt_iff_toInt_lt.mp h
theorem wt_ncl {a b : Int32} (h : ¬ a < b) : b.toInt ≤ a.toInt := by rw [Int32.lt_iff_toInt_lt] at h; omega
theorem wt_cle {a b : Int32} (h : a ≤ b) : a.toInt ≤ b.toInt := Int32.le_iff_toInt_le.mp h
theorem wt_ncle {a b : Int32} (h : ¬ a ≤ b) : b.toInt < a.toInt := by rw [Int32.le_iff_toInt_le] at h; omega
theorem wt_ceq {a b : Int32} (h : a = b) : a.toInt = b.toInt := congrArg _ h
theorem wt_nceq {a b : Int32} (h : ¬ a = b) : a.toInt ≠ b.toInt := fun e => h (Int32.toInt_inj.mp e)
theorem wt_eqI {a b : Int32} (h : a.toInt = b.toInt) : a = b := Int32.toInt_inj.mp h
theorem wt_bd (x : Int32) : -2147483648 ≤ x.toInt ∧ x.toInt < 2147483648 := ⟨Int32.le_toInt x, Int32.toInt_lt x⟩
theorem wt_bm (z : Int) : ∃ k : Int, z.bmod (2 ^ 32) = z + 4294967296 * k := by
  refine ⟨(z.bmod (2 ^ 32) - z) / 4294967296, ?_⟩
  rw [Int.bmod_def]
  split <;> omega
theorem wt_addI (x y : Int32) : ∃ k : Int, (x + y).toInt = x.toInt + y.toInt + 4294967296 * k ∧ -2147483648 ≤ (x + y).toInt ∧ (x + y).toInt < 2147483648 := by
  obtain ⟨k, hk⟩ := wt_bm (x.toInt + y.toInt)
  exact ⟨k, by rw [Int32.toInt_add]; exact hk, wt_bd _⟩
theorem wt_subI (x y : Int32) : ∃ k : Int, (x - y).toInt = x.toInt - y.toInt + 4294967296 * k ∧ -2147483648 ≤ (x - y).toInt ∧ (x - y).toInt < 2147483648 := by
  obtain ⟨k, hk⟩ := wt_bm (x.toInt - y.toInt)
  exact ⟨k, by rw [Int32.toInt_sub]; exact hk, wt_bd _⟩
theorem wt_mulI (x y : Int32) : ∃ k : Int, (x * y).toInt = x.toInt * y.toInt + 4294967296 * k ∧ -2147483648 ≤ (x * y).toInt ∧ (x * y).toInt < 2147483648 := by
  obtain ⟨k, hk⟩ := wt_bm (x.toInt * y.toInt)
  exact ⟨k, by rw [Int32.toInt_mul]; exact hk, wt_bd _⟩
theorem wt_ix {x : Int32} {N : Nat} (h0 : 0 ≤ x.toInt) (h1 : x.toInt < (N : Int)) : ¬ (x < 0 ∨ N ≤ Int32.toNatClampNeg x) := by
  have e : (Int32.toNatClampNeg x : Int) = x.toInt := by unfold Int32.toNatClampNeg; omega
  rintro (h | h)
  · have := wt_clt h
    rw [show (0 : Int32).toInt = 0 from rfl] at this
    omega
  · omega
theorem wt_tn (x : Int32) : x.toInt < 0 ∨ (Int32.toNatClampNeg x : Int) = x.toInt := by
  unfold Int32.toNatClampNeg
  omega
theorem wt_ln_bd (r : Nat) : wt_ln r ≤ 2000 := by
  unfold wt_ln
  cases h : wt_LAY[r]? with
  | none => exact Nat.zero_le _
  | some q =>
    have hall : wt_LAY.all (fun q => decide (q.2.1 ≤ 2000)) = true := by decide +kernel
    exact of_decide_eq_true (List.all_eq_true.mp hall q (List.mem_of_getElem? h))
theorem wt_lnI (r : Nat) : (nI (wt_ln r)).toInt = (wt_ln r : Int) ∧ wt_ln r ≤ 2000 := ⟨nI_toInt (by have := wt_ln_bd r; omega), wt_ln_bd r⟩
/-! what stays -/
def wt_fr (F : Nat → Nat → Prop) (A : Nat → Prop) (σ σ' : wt_St) : Prop := (∀ i k, ¬ F i k → wt_gf σ' i k = wt_gf σ i k) ∧ ∀ i, ¬ A i → ∀ j, wt_ga σ' i j = wt_ga σ i j
theorem wt_fr.rf {F : Nat → Nat → Prop} {A : Nat → Prop} {σ : wt_St} : wt_fr F A σ σ := ⟨fun _ _ _ => rfl, fun _ _ _ => rfl⟩
theorem wt_fr.tr {F F2 : Nat → Nat → Prop} {A A2 : Nat → Prop} {σ σ1 σ2 : wt_St} (h1 : wt_fr F A σ σ1) (h2 : wt_fr F2 A2 σ1 σ2) (hF : ∀ i k, F2 i k → F i k) (hA : ∀ i, A2 i → A i) : wt_fr F A σ σ2 :=
  ⟨fun i k h => (h2.1 i k (fun z => h (hF i k z))).trans (h1.1 i k h), fun i h j => (h2.2 i (fun z => h (hA i z)) j).trans (h1.2 i h j)⟩
theorem wt_fr_sa {σ σ' : wt_St} {i j : Nat} {v : Int32} (e : σ' = wt_sa σ i j v) : wt_fr (fun _ _ => False) (fun i' => i' = i) σ σ' := by
  subst e
  exact ⟨fun _ _ _ => rfl, fun i' h j' => by rw [wt_ga_sa, if_neg (fun z => h z.1)]⟩
theorem wt_fr_sf {σ σ' : wt_St} {i k : Nat} {v : Int32} (e : σ' = wt_sf σ i k v) : wt_fr (fun i' k' => i' = i ∧ k' = k) (fun _ => False) σ σ' := by
  subst e
  exact ⟨fun i' k' h => by rw [wt_gf_sf, if_neg h], fun _ _ _ => rfl⟩
theorem wt_v_sa {σ σ' : wt_St} {i j : Nat} {v : Int32} (e : σ' = wt_sa σ i j v) : wt_ga σ' i j = v := by
  subst e
  rw [wt_ga_sa, if_pos ⟨rfl, rfl⟩]
theorem wt_w_sa {σ σ' : wt_St} {i j : Nat} {v : Int32} (e : σ' = wt_sa σ i j v) (j' : Nat) (h : j' ≠ j) : wt_ga σ' i j' = wt_ga σ i j' := by
  subst e
  rw [wt_ga_sa, if_neg (fun z => h z.2)]
theorem wt_v_sf {σ σ' : wt_St} {i k : Nat} {v : Int32} (e : σ' = wt_sf σ i k v) : wt_gf σ' i k = v := by
  subst e
  rw [wt_gf_sf, if_pos ⟨rfl, rfl⟩]
/-- what look answers -/
def wt_lk (a : Nat) (x : Int32) (σ : wt_St) : Int32 := if x < 0 then 0 else if nI (wt_ln a) ≤ x then 0 else wt_ga σ a (Int32.toNatClampNeg x)
theorem wt_lk_fr {a : Nat} {x : Int32} {σ σ' : wt_St} (h : ∀ j, wt_ga σ' a j = wt_ga σ a j) : wt_lk a x σ' = wt_lk a x σ := by
  unfold wt_lk
  rw [h]
def wt_lk2 (a b : Nat) (x : Int32) (σ : wt_St) : Int32 := wt_lk a (wt_lk b x σ) σ
theorem wt_lk2_fr {a b : Nat} {x : Int32} {σ σ' : wt_St} (h : ∀ j, wt_ga σ' a j = wt_ga σ a j) (h2 : ∀ j, wt_ga σ' b j = wt_ga σ b j) : wt_lk2 a b x σ' = wt_lk2 a b x σ := by
  unfold wt_lk2
  rw [wt_lk_fr h2, wt_lk_fr h]
theorem wt_lm1 : (-1 : Int32).toInt = -1 := by decide
theorem wt_lm2 : (-2 : Int32).toInt = -2 := by decide
theorem wt_lm8 : (-8 : Int32).toInt = -8 := by decide
theorem wt_i1 {c : Int32} (h : c.toInt < 2147483647) : (c + (1 : Int32)).toInt = c.toInt + 1 := by
  have k : (1 : Int32).toInt = 1 := by decide
  have b := wt_bd c
  rw [Jvm.Kit.i32_add (by omega) (by omega), k]
theorem wt_d1 {c : Int32} (h : -2147483648 < c.toInt) : (c + (-1 : Int32)).toInt = c.toInt - 1 := by
  have b := wt_bd c
  rw [Jvm.Kit.i32_add (by rw [wt_lm1]; omega) (by rw [wt_lm1]; omega), wt_lm1]
  omega
theorem wt_d8 {c : Int32} (h : -2147483640 < c.toInt) : (c + (-8 : Int32)).toInt = c.toInt - 8 := by
  have b := wt_bd c
  rw [Jvm.Kit.i32_add (by rw [wt_lm8]; omega) (by rw [wt_lm8]; omega), wt_lm8]
  omega
theorem wt_mu {B B' c : Int32} (hB : B'.toInt = B.toInt) (hc : c.toInt < B.toInt) : (B'.toInt - (c + (1 : Int32)).toInt + 0).toNat < (B.toInt - c.toInt + 0).toNat := by
  have b := wt_bd B
  rw [wt_i1 (by omega)]
  omega
theorem wt_mu1 {B B' c : Int32} (hB : B'.toInt = B.toInt) (hc : c.toInt ≤ B.toInt) (hb : B.toInt < 2147483647) : (B'.toInt - (c + (1 : Int32)).toInt + 1).toNat < (B.toInt - c.toInt + 1).toNat := by
  have b := wt_bd B
  rw [wt_i1 (by omega)]
  omega
theorem wt_nn {B c : Int32} (h0 : 0 ≤ c.toInt) (hc : c.toInt < B.toInt) : 0 ≤ (c + (1 : Int32)).toInt := by
  have b := wt_bd B
  rw [wt_i1 (by omega)]
  omega
theorem wt_nn1 {B c : Int32} (h0 : 0 ≤ c.toInt) (hc : c.toInt ≤ B.toInt) (hb : B.toInt < 2147483647) : 0 ≤ (c + (1 : Int32)).toInt := by
  rw [wt_i1 (by omega)]
  omega
theorem wt_md0 {c : Int32} (h : 0 < c.toInt) : ((c + (-1 : Int32)).toInt + 0).toNat < (c.toInt + 0).toNat := by
  rw [wt_d1 (by omega)]
  omega
theorem wt_md1 {c : Int32} (h : 0 ≤ c.toInt) : ((c + (-1 : Int32)).toInt + 1).toNat < (c.toInt + 1).toNat := by
  rw [wt_d1 (by omega)]
  omega
theorem wt_md8 {c : Int32} (h : 0 ≤ c.toInt) : ((c + (-8 : Int32)).toInt + 1).toNat < (c.toInt + 1).toNat := by
  rw [wt_d8 (by omega)]
  omega
theorem wt_T_rec {α ρ : Type} {body : (α → Option ρ) → α → Option ρ} (I : α → Prop) (m : α → Nat) (Q : α → ρ → Prop) (h : ∀ (R : α → Option ρ) (s : α), I s → (∀ s', I s' → m s' < m s → wt_T (R s') (Q s')) → wt_T (body R s) (Q s)) : ∀ (n : Nat) (s : α), I s → m s < n → wt_T (wt_it body n s) (Q s) := by
  intro n
  induction n with
  | zero => intro s _ h1; omega
  | succ n ih => intro s hs h1; exact h _ s hs (fun s' hs' hlt => ih s' hs' (by omega))
end WTQ2
