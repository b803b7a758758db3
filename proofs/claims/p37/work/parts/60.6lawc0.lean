section WLC
def wb606lawc0_code_r50 : List (List Nat) := [182, 0, 229, 44, 42, 21, 4, 4, 96, 46, 182, 0, 232, 159, 0, 5, 3, 172, 132, 4, 6, 167, 250, 129, 4, 172] :: []
def wb606lawc0_code_r49 : List (List Nat) := [44, 182, 0, 224, 87, 167, 0, 41, 43, 182, 0, 225, 87, 44, 182, 0, 228, 87, 167, 0, 28, 43, 42, 21, 4, 4, 96, 46] :: wb606lawc0_code_r50
def wb606lawc0_code_r48 : List (List Nat) := [96, 46, 45, 184, 0, 218, 54, 5, 44, 42, 21, 4, 4, 96, 46, 182, 0, 220, 54, 6, 167, 0, 54, 43, 182, 0, 221, 87] :: wb606lawc0_code_r49
def wb606lawc0_code_r47 : List (List Nat) := [54, 5, 44, 42, 21, 4, 4, 96, 46, 42, 21, 4, 5, 96, 46, 182, 0, 217, 54, 6, 167, 0, 82, 43, 42, 21, 4, 4] :: wb606lawc0_code_r48
def wb606lawc0_code_r46 : List (List Nat) := [4, 96, 46, 182, 0, 214, 54, 6, 167, 0, 122, 43, 42, 21, 4, 4, 96, 46, 42, 21, 4, 5, 96, 46, 45, 184, 0, 215] :: wb606lawc0_code_r47
def wb606lawc0_code_r45 : List (List Nat) := [4, 96, 46, 182, 0, 211, 54, 6, 167, 0, 150, 43, 42, 21, 4, 4, 96, 46, 45, 184, 0, 212, 54, 5, 44, 42, 21, 4] :: wb606lawc0_code_r46
def wb606lawc0_code_r44 : List (List Nat) := [4, 96, 46, 182, 0, 208, 54, 6, 167, 0, 178, 43, 42, 21, 4, 4, 96, 46, 45, 184, 0, 209, 54, 5, 44, 42, 21, 4] :: wb606lawc0_code_r45
def wb606lawc0_code_r43 : List (List Nat) := [5, 96, 46, 182, 0, 205, 54, 6, 167, 0, 206, 43, 42, 21, 4, 4, 96, 46, 45, 184, 0, 206, 54, 5, 44, 42, 21, 4] :: wb606lawc0_code_r44
def wb606lawc0_code_r42 : List (List Nat) := [42, 21, 4, 4, 96, 46, 42, 21, 4, 5, 96, 46, 45, 184, 0, 203, 54, 5, 44, 42, 21, 4, 4, 96, 46, 42, 21, 4] :: wb606lawc0_code_r43
def wb606lawc0_code_r41 : List (List Nat) := [42, 21, 4, 4, 96, 46, 182, 0, 198, 54, 6, 167, 1, 3, 43, 182, 0, 199, 87, 44, 182, 0, 202, 87, 167, 0, 246, 43] :: wb606lawc0_code_r42
def wb606lawc0_code_r40 : List (List Nat) := [42, 21, 4, 4, 96, 46, 182, 0, 195, 54, 6, 167, 1, 31, 43, 42, 21, 4, 4, 96, 46, 45, 184, 0, 196, 54, 5, 44] :: wb606lawc0_code_r41
def wb606lawc0_code_r39 : List (List Nat) := [72, 43, 182, 0, 189, 87, 44, 182, 0, 192, 87, 167, 1, 59, 43, 42, 21, 4, 4, 96, 46, 45, 184, 0, 193, 54, 5, 44] :: wb606lawc0_code_r40
def wb606lawc0_code_r38 : List (List Nat) := [4, 96, 46, 42, 21, 4, 5, 96, 46, 42, 21, 4, 6, 96, 46, 42, 21, 4, 7, 96, 46, 182, 0, 188, 54, 6, 167, 1] :: wb606lawc0_code_r39
def wb606lawc0_code_r37 : List (List Nat) := [42, 21, 4, 5, 96, 46, 42, 21, 4, 6, 96, 46, 42, 21, 4, 7, 96, 46, 45, 184, 0, 186, 54, 5, 44, 42, 21, 4] :: wb606lawc0_code_r38
def wb606lawc0_code_r36 : List (List Nat) := [45, 184, 0, 183, 54, 5, 44, 42, 21, 4, 4, 96, 46, 182, 0, 185, 54, 6, 167, 1, 136, 43, 42, 21, 4, 4, 96, 46] :: wb606lawc0_code_r37
def wb606lawc0_code_r35 : List (List Nat) := [46, 42, 21, 4, 6, 96, 46, 42, 21, 4, 7, 96, 46, 182, 0, 182, 54, 6, 167, 1, 164, 43, 42, 21, 4, 4, 96, 46] :: wb606lawc0_code_r36
def wb606lawc0_code_r34 : List (List Nat) := [4, 6, 96, 46, 42, 21, 4, 7, 96, 46, 45, 184, 0, 179, 54, 5, 44, 42, 21, 4, 4, 96, 46, 42, 21, 4, 5, 96] :: wb606lawc0_code_r35
def wb606lawc0_code_r33 : List (List Nat) := [21, 4, 6, 96, 46, 182, 0, 178, 54, 6, 167, 1, 228, 43, 42, 21, 4, 4, 96, 46, 42, 21, 4, 5, 96, 46, 42, 21] :: wb606lawc0_code_r34
def wb606lawc0_code_r32 : List (List Nat) := [96, 46, 42, 21, 4, 6, 96, 46, 45, 184, 0, 176, 54, 5, 44, 42, 21, 4, 4, 96, 46, 42, 21, 4, 5, 96, 46, 42] :: wb606lawc0_code_r33
def wb606lawc0_code_r31 : List (List Nat) := [4, 96, 46, 42, 21, 4, 5, 96, 46, 182, 0, 175, 54, 6, 167, 2, 24, 43, 42, 21, 4, 4, 96, 46, 42, 21, 4, 5] :: wb606lawc0_code_r32
def wb606lawc0_code_r30 : List (List Nat) := [54, 6, 167, 2, 64, 43, 42, 21, 4, 4, 96, 46, 42, 21, 4, 5, 96, 46, 45, 184, 0, 173, 54, 5, 44, 42, 21, 4] :: wb606lawc0_code_r31
def wb606lawc0_code_r29 : List (List Nat) := [96, 46, 42, 21, 4, 5, 96, 46, 45, 184, 0, 170, 54, 5, 44, 42, 21, 4, 4, 96, 46, 42, 21, 4, 5, 96, 46, 182, 0, 172] :: wb606lawc0_code_r30
def wb606lawc0_code_r28 : List (List Nat) := [96, 46, 45, 184, 0, 167, 54, 5, 44, 42, 21, 4, 4, 96, 46, 182, 0, 169, 54, 6, 167, 2, 104, 43, 42, 21, 4, 4] :: wb606lawc0_code_r29
def wb606lawc0_code_r27 : List (List Nat) := [54, 5, 44, 42, 21, 4, 4, 96, 46, 42, 21, 4, 5, 96, 46, 182, 0, 166, 54, 6, 167, 2, 132, 43, 42, 21, 4, 4] :: wb606lawc0_code_r28
def wb606lawc0_code_r26 : List (List Nat) := [5, 96, 46, 182, 0, 163, 54, 6, 167, 2, 172, 43, 42, 21, 4, 4, 96, 46, 42, 21, 4, 5, 96, 46, 45, 184, 0, 164] :: wb606lawc0_code_r27
def wb606lawc0_code_r25 : List (List Nat) := [43, 42, 21, 4, 4, 96, 46, 42, 21, 4, 5, 96, 46, 45, 184, 0, 161, 54, 5, 44, 42, 21, 4, 4, 96, 46, 42, 21, 4] :: wb606lawc0_code_r26
def wb606lawc0_code_r24 : List (List Nat) := [96, 46, 45, 184, 0, 158, 54, 5, 44, 42, 21, 4, 4, 96, 46, 42, 21, 4, 5, 96, 46, 182, 0, 160, 54, 6, 167, 2, 212] :: wb606lawc0_code_r25
def wb606lawc0_code_r23 : List (List Nat) := [54, 5, 44, 42, 21, 4, 4, 96, 46, 182, 0, 157, 54, 6, 167, 2, 252, 43, 42, 21, 4, 4, 96, 46, 42, 21, 4, 5] :: wb606lawc0_code_r24
def wb606lawc0_code_r22 : List (List Nat) := [54, 5, 44, 42, 21, 4, 4, 96, 46, 182, 0, 154, 54, 6, 167, 3, 24, 43, 42, 21, 4, 4, 96, 46, 45, 184, 0, 155] :: wb606lawc0_code_r23
def wb606lawc0_code_r21 : List (List Nat) := [4, 96, 46, 42, 21, 4, 5, 96, 46, 182, 0, 151, 54, 6, 167, 3, 52, 43, 42, 21, 4, 4, 96, 46, 45, 184, 0, 152] :: wb606lawc0_code_r22
def wb606lawc0_code_r20 : List (List Nat) := [54, 6, 167, 3, 92, 43, 42, 21, 4, 4, 96, 46, 42, 21, 4, 5, 96, 46, 45, 184, 0, 149, 54, 5, 44, 42, 21, 4] :: wb606lawc0_code_r21
def wb606lawc0_code_r19 : List (List Nat) := [96, 46, 42, 21, 4, 5, 96, 46, 45, 184, 0, 146, 54, 5, 44, 42, 21, 4, 4, 96, 46, 42, 21, 4, 5, 96, 46, 182, 0, 148] :: wb606lawc0_code_r20
def wb606lawc0_code_r18 : List (List Nat) := [54, 5, 44, 42, 21, 4, 4, 96, 46, 42, 21, 4, 5, 96, 46, 182, 0, 145, 54, 6, 167, 3, 132, 43, 42, 21, 4, 4] :: wb606lawc0_code_r19
def wb606lawc0_code_r17 : List (List Nat) := [6, 96, 46, 182, 0, 142, 54, 6, 167, 3, 172, 43, 42, 21, 4, 4, 96, 46, 42, 21, 4, 5, 96, 46, 45, 184, 0, 143] :: wb606lawc0_code_r18
def wb606lawc0_code_r16 : List (List Nat) := [42, 21, 4, 6, 96, 46, 45, 184, 0, 139, 54, 5, 44, 42, 21, 4, 4, 96, 46, 42, 21, 4, 5, 96, 46, 42, 21, 4] :: wb606lawc0_code_r17
def wb606lawc0_code_r15 : List (List Nat) := [46, 42, 21, 4, 5, 96, 46, 182, 0, 138, 54, 6, 167, 3, 224, 43, 42, 21, 4, 4, 96, 46, 42, 21, 4, 5, 96, 46] :: wb606lawc0_code_r16
def wb606lawc0_code_r14 : List (List Nat) := [167, 4, 8, 43, 42, 21, 4, 4, 96, 46, 42, 21, 4, 5, 96, 46, 45, 184, 0, 135, 54, 5, 44, 42, 21, 4, 4, 96] :: wb606lawc0_code_r15
def wb606lawc0_code_r13 : List (List Nat) := [87, 167, 4, 36, 43, 42, 21, 4, 4, 96, 46, 45, 184, 0, 132, 54, 5, 44, 42, 21, 4, 4, 96, 46, 182, 0, 134, 54, 6] :: wb606lawc0_code_r14
def wb606lawc0_code_r12 : List (List Nat) := [45, 184, 0, 124, 54, 5, 44, 42, 21, 4, 4, 96, 46, 182, 0, 126, 54, 6, 167, 4, 49, 43, 182, 0, 127, 87, 44, 182, 0, 131] :: wb606lawc0_code_r13
def wb606lawc0_code_r11 : List (List Nat) := [45, 184, 0, 121, 54, 5, 44, 42, 21, 4, 4, 96, 46, 182, 0, 123, 54, 6, 167, 4, 77, 43, 42, 21, 4, 4, 96, 46] :: wb606lawc0_code_r12
def wb606lawc0_code_r10 : List (List Nat) := [45, 184, 0, 115, 54, 5, 44, 42, 21, 4, 4, 96, 46, 182, 0, 120, 54, 6, 167, 4, 105, 43, 42, 21, 4, 4, 96, 46] :: wb606lawc0_code_r11
def wb606lawc0_code_r9 : List (List Nat) := [96, 46, 42, 21, 4, 7, 96, 46, 42, 21, 4, 8, 96, 46, 182, 0, 114, 87, 167, 4, 133, 43, 42, 21, 4, 4, 96, 46] :: wb606lawc0_code_r10
def wb606lawc0_code_r8 : List (List Nat) := [46, 42, 21, 4, 8, 96, 46, 182, 0, 110, 87, 44, 42, 21, 4, 4, 96, 46, 42, 21, 4, 5, 96, 46, 42, 21, 4, 6] :: wb606lawc0_code_r9
def wb606lawc0_code_r7 : List (List Nat) := [0, 0, 5, 82, 43, 42, 21, 4, 4, 96, 46, 42, 21, 4, 5, 96, 46, 42, 21, 4, 6, 96, 46, 42, 21, 4, 7, 96] :: wb606lawc0_code_r8
def wb606lawc0_code_r6 : List (List Nat) := [0, 0, 4, 160, 0, 0, 4, 188, 0, 0, 4, 216, 0, 0, 4, 244, 0, 0, 5, 28, 0, 0, 5, 56, 0, 0, 5, 69] :: wb606lawc0_code_r7
def wb606lawc0_code_r5 : List (List Nat) := [0, 0, 3, 202, 0, 0, 3, 230, 0, 0, 4, 38, 0, 0, 4, 51, 0, 0, 4, 79, 0, 0, 4, 107, 0, 0, 4, 120] :: wb606lawc0_code_r6
def wb606lawc0_code_r4 : List (List Nat) := [0, 0, 2, 154, 0, 0, 2, 194, 0, 0, 2, 234, 0, 0, 3, 6, 0, 0, 3, 46, 0, 0, 3, 86, 0, 0, 3, 138] :: wb606lawc0_code_r5
def wb606lawc0_code_r3 : List (List Nat) := [0, 0, 1, 142, 0, 0, 1, 194, 0, 0, 1, 234, 0, 0, 2, 18, 0, 0, 2, 58, 0, 0, 2, 86, 0, 0, 2, 114] :: wb606lawc0_code_r4
def wb606lawc0_code_r2 : List (List Nat) := [0, 0, 0, 160, 0, 0, 0, 233, 0, 0, 1, 5, 0, 0, 1, 33, 0, 0, 1, 61, 0, 0, 1, 74, 0, 0, 1, 102] :: wb606lawc0_code_r3
def wb606lawc0_code_r1 : List (List Nat) := [6, 100, 163, 5, 123, 42, 21, 4, 46, 16, 63, 126, 170, 0, 0, 0, 0, 0, 5, 107, 0, 0, 0, 0, 0, 0, 0, 35] :: wb606lawc0_code_r2
def wb606lawc0_code_r0 : List (List Nat) := [187, 0, 8, 89, 183, 0, 106, 76, 187, 0, 107, 89, 183, 0, 109, 77, 4, 188, 11, 78, 3, 54, 4, 21, 4, 42, 190, 16] :: wb606lawc0_code_r1
set_option maxRecDepth 100000 in
theorem wb606lawc0_code_c0 : wt_cs code 0 wb606lawc0_code_r0 := wt_cs_of (by decide +kernel)
theorem wb606lawc0_code_c1 : wt_cs code 28 wb606lawc0_code_r1 := wt_cs_tl (m := 28) wb606lawc0_code_c0 rfl rfl
theorem wb606lawc0_code_c2 : wt_cs code 56 wb606lawc0_code_r2 := wt_cs_tl (m := 28) wb606lawc0_code_c1 rfl rfl
theorem wb606lawc0_code_c3 : wt_cs code 84 wb606lawc0_code_r3 := wt_cs_tl (m := 28) wb606lawc0_code_c2 rfl rfl
theorem wb606lawc0_code_c4 : wt_cs code 112 wb606lawc0_code_r4 := wt_cs_tl (m := 28) wb606lawc0_code_c3 rfl rfl
theorem wb606lawc0_code_c5 : wt_cs code 140 wb606lawc0_code_r5 := wt_cs_tl (m := 28) wb606lawc0_code_c4 rfl rfl
theorem wb606lawc0_code_c6 : wt_cs code 168 wb606lawc0_code_r6 := wt_cs_tl (m := 28) wb606lawc0_code_c5 rfl rfl
theorem wb606lawc0_code_c7 : wt_cs code 196 wb606lawc0_code_r7 := wt_cs_tl (m := 28) wb606lawc0_code_c6 rfl rfl
theorem wb606lawc0_code_c8 : wt_cs code 224 wb606lawc0_code_r8 := wt_cs_tl (m := 28) wb606lawc0_code_c7 rfl rfl
theorem wb606lawc0_code_c9 : wt_cs code 252 wb606lawc0_code_r9 := wt_cs_tl (m := 28) wb606lawc0_code_c8 rfl rfl
theorem wb606lawc0_code_c10 : wt_cs code 280 wb606lawc0_code_r10 := wt_cs_tl (m := 28) wb606lawc0_code_c9 rfl rfl
theorem wb606lawc0_code_c11 : wt_cs code 308 wb606lawc0_code_r11 := wt_cs_tl (m := 28) wb606lawc0_code_c10 rfl rfl
theorem wb606lawc0_code_c12 : wt_cs code 336 wb606lawc0_code_r12 := wt_cs_tl (m := 28) wb606lawc0_code_c11 rfl rfl
theorem wb606lawc0_code_c13 : wt_cs code 366 wb606lawc0_code_r13 := wt_cs_tl (m := 30) wb606lawc0_code_c12 rfl rfl
theorem wb606lawc0_code_c14 : wt_cs code 395 wb606lawc0_code_r14 := wt_cs_tl (m := 29) wb606lawc0_code_c13 rfl rfl
theorem wb606lawc0_code_c15 : wt_cs code 423 wb606lawc0_code_r15 := wt_cs_tl (m := 28) wb606lawc0_code_c14 rfl rfl
theorem wb606lawc0_code_c16 : wt_cs code 451 wb606lawc0_code_r16 := wt_cs_tl (m := 28) wb606lawc0_code_c15 rfl rfl
theorem wb606lawc0_code_c17 : wt_cs code 479 wb606lawc0_code_r17 := wt_cs_tl (m := 28) wb606lawc0_code_c16 rfl rfl
theorem wb606lawc0_code_c18 : wt_cs code 507 wb606lawc0_code_r18 := wt_cs_tl (m := 28) wb606lawc0_code_c17 rfl rfl
theorem wb606lawc0_code_c19 : wt_cs code 535 wb606lawc0_code_r19 := wt_cs_tl (m := 28) wb606lawc0_code_c18 rfl rfl
theorem wb606lawc0_code_c20 : wt_cs code 565 wb606lawc0_code_r20 := wt_cs_tl (m := 30) wb606lawc0_code_c19 rfl rfl
theorem wb606lawc0_code_c21 : wt_cs code 593 wb606lawc0_code_r21 := wt_cs_tl (m := 28) wb606lawc0_code_c20 rfl rfl
theorem wb606lawc0_code_c22 : wt_cs code 621 wb606lawc0_code_r22 := wt_cs_tl (m := 28) wb606lawc0_code_c21 rfl rfl
theorem wb606lawc0_code_c23 : wt_cs code 649 wb606lawc0_code_r23 := wt_cs_tl (m := 28) wb606lawc0_code_c22 rfl rfl
theorem wb606lawc0_code_c24 : wt_cs code 677 wb606lawc0_code_r24 := wt_cs_tl (m := 28) wb606lawc0_code_c23 rfl rfl
theorem wb606lawc0_code_c25 : wt_cs code 706 wb606lawc0_code_r25 := wt_cs_tl (m := 29) wb606lawc0_code_c24 rfl rfl
theorem wb606lawc0_code_c26 : wt_cs code 735 wb606lawc0_code_r26 := wt_cs_tl (m := 29) wb606lawc0_code_c25 rfl rfl
theorem wb606lawc0_code_c27 : wt_cs code 763 wb606lawc0_code_r27 := wt_cs_tl (m := 28) wb606lawc0_code_c26 rfl rfl
theorem wb606lawc0_code_c28 : wt_cs code 791 wb606lawc0_code_r28 := wt_cs_tl (m := 28) wb606lawc0_code_c27 rfl rfl
theorem wb606lawc0_code_c29 : wt_cs code 819 wb606lawc0_code_r29 := wt_cs_tl (m := 28) wb606lawc0_code_c28 rfl rfl
theorem wb606lawc0_code_c30 : wt_cs code 849 wb606lawc0_code_r30 := wt_cs_tl (m := 30) wb606lawc0_code_c29 rfl rfl
theorem wb606lawc0_code_c31 : wt_cs code 877 wb606lawc0_code_r31 := wt_cs_tl (m := 28) wb606lawc0_code_c30 rfl rfl
theorem wb606lawc0_code_c32 : wt_cs code 905 wb606lawc0_code_r32 := wt_cs_tl (m := 28) wb606lawc0_code_c31 rfl rfl
theorem wb606lawc0_code_c33 : wt_cs code 933 wb606lawc0_code_r33 := wt_cs_tl (m := 28) wb606lawc0_code_c32 rfl rfl
theorem wb606lawc0_code_c34 : wt_cs code 961 wb606lawc0_code_r34 := wt_cs_tl (m := 28) wb606lawc0_code_c33 rfl rfl
theorem wb606lawc0_code_c35 : wt_cs code 989 wb606lawc0_code_r35 := wt_cs_tl (m := 28) wb606lawc0_code_c34 rfl rfl
theorem wb606lawc0_code_c36 : wt_cs code 1017 wb606lawc0_code_r36 := wt_cs_tl (m := 28) wb606lawc0_code_c35 rfl rfl
theorem wb606lawc0_code_c37 : wt_cs code 1045 wb606lawc0_code_r37 := wt_cs_tl (m := 28) wb606lawc0_code_c36 rfl rfl
theorem wb606lawc0_code_c38 : wt_cs code 1073 wb606lawc0_code_r38 := wt_cs_tl (m := 28) wb606lawc0_code_c37 rfl rfl
theorem wb606lawc0_code_c39 : wt_cs code 1101 wb606lawc0_code_r39 := wt_cs_tl (m := 28) wb606lawc0_code_c38 rfl rfl
theorem wb606lawc0_code_c40 : wt_cs code 1129 wb606lawc0_code_r40 := wt_cs_tl (m := 28) wb606lawc0_code_c39 rfl rfl
theorem wb606lawc0_code_c41 : wt_cs code 1157 wb606lawc0_code_r41 := wt_cs_tl (m := 28) wb606lawc0_code_c40 rfl rfl
theorem wb606lawc0_code_c42 : wt_cs code 1185 wb606lawc0_code_r42 := wt_cs_tl (m := 28) wb606lawc0_code_c41 rfl rfl
theorem wb606lawc0_code_c43 : wt_cs code 1213 wb606lawc0_code_r43 := wt_cs_tl (m := 28) wb606lawc0_code_c42 rfl rfl
theorem wb606lawc0_code_c44 : wt_cs code 1241 wb606lawc0_code_r44 := wt_cs_tl (m := 28) wb606lawc0_code_c43 rfl rfl
theorem wb606lawc0_code_c45 : wt_cs code 1269 wb606lawc0_code_r45 := wt_cs_tl (m := 28) wb606lawc0_code_c44 rfl rfl
theorem wb606lawc0_code_c46 : wt_cs code 1297 wb606lawc0_code_r46 := wt_cs_tl (m := 28) wb606lawc0_code_c45 rfl rfl
theorem wb606lawc0_code_c47 : wt_cs code 1325 wb606lawc0_code_r47 := wt_cs_tl (m := 28) wb606lawc0_code_c46 rfl rfl
theorem wb606lawc0_code_c48 : wt_cs code 1353 wb606lawc0_code_r48 := wt_cs_tl (m := 28) wb606lawc0_code_c47 rfl rfl
theorem wb606lawc0_code_c49 : wt_cs code 1381 wb606lawc0_code_r49 := wt_cs_tl (m := 28) wb606lawc0_code_c48 rfl rfl
theorem wb606lawc0_code_c50 : wt_cs code 1409 wb606lawc0_code_r50 := wt_cs_tl (m := 28) wb606lawc0_code_c49 rfl rfl
theorem wld_200 : decode code 200 = .ok (.aload_n 1, 1) := wt_op43 wb606lawc0_code_c7 4 rfl rfl
theorem wld_201 : decode code 201 = .ok (.aload_n 0, 1) := wt_op42 wb606lawc0_code_c7 5 rfl rfl
theorem wld_202 : decode code 202 = .ok (.iload 4, 2) := wt_op21 wb606lawc0_code_c7 6 rfl rfl
theorem wld_204 : decode code 204 = .ok (.iconst 1, 1) := wt_op4 wb606lawc0_code_c7 8 rfl rfl
theorem wld_205 : decode code 205 = .ok (.iadd, 1) := wt_op96 wb606lawc0_code_c7 9 rfl rfl
theorem wld_206 : decode code 206 = .ok (.iaload, 1) := wt_op46 wb606lawc0_code_c7 10 rfl rfl
theorem wld_207 : decode code 207 = .ok (.aload_n 0, 1) := wt_op42 wb606lawc0_code_c7 11 rfl rfl
theorem wld_208 : decode code 208 = .ok (.iload 4, 2) := wt_op21 wb606lawc0_code_c7 12 rfl rfl
theorem wld_210 : decode code 210 = .ok (.iconst 2, 1) := wt_op5 wb606lawc0_code_c7 14 rfl rfl
theorem wld_211 : decode code 211 = .ok (.iadd, 1) := wt_op96 wb606lawc0_code_c7 15 rfl rfl
theorem wld_212 : decode code 212 = .ok (.iaload, 1) := wt_op46 wb606lawc0_code_c7 16 rfl rfl
theorem wld_213 : decode code 213 = .ok (.aload_n 0, 1) := wt_op42 wb606lawc0_code_c7 17 rfl rfl
theorem wld_214 : decode code 214 = .ok (.iload 4, 2) := wt_op21 wb606lawc0_code_c7 18 rfl rfl
theorem wld_216 : decode code 216 = .ok (.iconst 3, 1) := wt_op6 wb606lawc0_code_c7 20 rfl rfl
theorem wld_217 : decode code 217 = .ok (.iadd, 1) := wt_op96 wb606lawc0_code_c7 21 rfl rfl
theorem wld_218 : decode code 218 = .ok (.iaload, 1) := wt_op46 wb606lawc0_code_c7 22 rfl rfl
theorem wld_219 : decode code 219 = .ok (.aload_n 0, 1) := wt_op42 wb606lawc0_code_c7 23 rfl rfl
theorem wld_220 : decode code 220 = .ok (.iload 4, 2) := wt_op21 wb606lawc0_code_c7 24 rfl rfl
theorem wld_222 : decode code 222 = .ok (.iconst 4, 1) := wt_op7 wb606lawc0_code_c7 26 rfl rfl
theorem wld_223 : decode code 223 = .ok (.iadd, 1) := wt_op96 wb606lawc0_code_c7 27 rfl rfl
theorem wld_224 : decode code 224 = .ok (.iaload, 1) := wt_op46 wb606lawc0_code_c8 0 rfl rfl
theorem wld_225 : decode code 225 = .ok (.aload_n 0, 1) := wt_op42 wb606lawc0_code_c8 1 rfl rfl
theorem wld_226 : decode code 226 = .ok (.iload 4, 2) := wt_op21 wb606lawc0_code_c8 2 rfl rfl
theorem wld_228 : decode code 228 = .ok (.iconst 5, 1) := wt_op8 wb606lawc0_code_c8 4 rfl rfl
theorem wld_229 : decode code 229 = .ok (.iadd, 1) := wt_op96 wb606lawc0_code_c8 5 rfl rfl
theorem wld_230 : decode code 230 = .ok (.iaload, 1) := wt_op46 wb606lawc0_code_c8 6 rfl rfl
theorem wld_231 : decode code 231 = .ok (.invokevirtual 110, 3) := wt_op182 wb606lawc0_code_c8 7 rfl rfl rfl
theorem wld_234 : decode code 234 = .ok (.pop, 1) := wt_op87 wb606lawc0_code_c8 10 rfl rfl
theorem wld_235 : decode code 235 = .ok (.aload_n 2, 1) := wt_op44 wb606lawc0_code_c8 11 rfl rfl
theorem wld_236 : decode code 236 = .ok (.aload_n 0, 1) := wt_op42 wb606lawc0_code_c8 12 rfl rfl
theorem wld_237 : decode code 237 = .ok (.iload 4, 2) := wt_op21 wb606lawc0_code_c8 13 rfl rfl
theorem wld_239 : decode code 239 = .ok (.iconst 1, 1) := wt_op4 wb606lawc0_code_c8 15 rfl rfl
theorem wld_240 : decode code 240 = .ok (.iadd, 1) := wt_op96 wb606lawc0_code_c8 16 rfl rfl
theorem wld_241 : decode code 241 = .ok (.iaload, 1) := wt_op46 wb606lawc0_code_c8 17 rfl rfl
theorem wld_242 : decode code 242 = .ok (.aload_n 0, 1) := wt_op42 wb606lawc0_code_c8 18 rfl rfl
theorem wld_243 : decode code 243 = .ok (.iload 4, 2) := wt_op21 wb606lawc0_code_c8 19 rfl rfl
theorem wld_245 : decode code 245 = .ok (.iconst 2, 1) := wt_op5 wb606lawc0_code_c8 21 rfl rfl
theorem wld_246 : decode code 246 = .ok (.iadd, 1) := wt_op96 wb606lawc0_code_c8 22 rfl rfl
theorem wld_247 : decode code 247 = .ok (.iaload, 1) := wt_op46 wb606lawc0_code_c8 23 rfl rfl
theorem wld_248 : decode code 248 = .ok (.aload_n 0, 1) := wt_op42 wb606lawc0_code_c8 24 rfl rfl
theorem wld_249 : decode code 249 = .ok (.iload 4, 2) := wt_op21 wb606lawc0_code_c8 25 rfl rfl
theorem wld_251 : decode code 251 = .ok (.iconst 3, 1) := wt_op6 wb606lawc0_code_c8 27 rfl rfl
theorem wld_252 : decode code 252 = .ok (.iadd, 1) := wt_op96 wb606lawc0_code_c9 0 rfl rfl
theorem wld_253 : decode code 253 = .ok (.iaload, 1) := wt_op46 wb606lawc0_code_c9 1 rfl rfl
theorem wld_254 : decode code 254 = .ok (.aload_n 0, 1) := wt_op42 wb606lawc0_code_c9 2 rfl rfl
theorem wld_255 : decode code 255 = .ok (.iload 4, 2) := wt_op21 wb606lawc0_code_c9 3 rfl rfl
theorem wld_257 : decode code 257 = .ok (.iconst 4, 1) := wt_op7 wb606lawc0_code_c9 5 rfl rfl
theorem wld_258 : decode code 258 = .ok (.iadd, 1) := wt_op96 wb606lawc0_code_c9 6 rfl rfl
theorem wld_259 : decode code 259 = .ok (.iaload, 1) := wt_op46 wb606lawc0_code_c9 7 rfl rfl
theorem wld_260 : decode code 260 = .ok (.aload_n 0, 1) := wt_op42 wb606lawc0_code_c9 8 rfl rfl
theorem wld_261 : decode code 261 = .ok (.iload 4, 2) := wt_op21 wb606lawc0_code_c9 9 rfl rfl
theorem wld_263 : decode code 263 = .ok (.iconst 5, 1) := wt_op8 wb606lawc0_code_c9 11 rfl rfl
theorem wld_264 : decode code 264 = .ok (.iadd, 1) := wt_op96 wb606lawc0_code_c9 12 rfl rfl
theorem wld_265 : decode code 265 = .ok (.iaload, 1) := wt_op46 wb606lawc0_code_c9 13 rfl rfl
theorem wld_266 : decode code 266 = .ok (.invokevirtual 114, 3) := wt_op182 wb606lawc0_code_c9 14 rfl rfl rfl
theorem wld_269 : decode code 269 = .ok (.pop, 1) := wt_op87 wb606lawc0_code_c9 17 rfl rfl
theorem wld_270 : decode code 270 = .ok (.goto 1157, 3) := wt_op167 wb606lawc0_code_c9 18 rfl rfl rfl
set_option maxRecDepth 100000 in
set_option maxHeartbeats 4000000 in
theorem wl_feed {X : wt_X} {o b L : Nat} {xs : Nat → Int32} {n K : Nat} {Inv : wt_St → Prop} {i : Int32} (hE : wt_OkO X o code 7 "WornTypeLaw" 400 100000) (hdm : ∀ i, wt_dom (wt_xw X) i ↔ i < 321) (hSN : wt_SN (wt_Ao (wt_xw X) o (wt_xs X).heap.size) (wt_xs X) (wt_xs X).heap) (htr : (wt_xl X).stackTraces = false) (hX : wt_scr X o b L xs) (hi : ∀ c : Int32, c = 1 ∨ c = 2 ∨ c = 3 ∨ c = 4 ∨ c = 5 → vp_in (i + c) L) (hK : K + 8 ≤ 100000) (hP : wt_P_feed n Inv) {σ : wt_St} (hσ : Inv σ) (kn : ∀ τ : wt_St, Inv τ → wt_O X o (K + 8) τ 1427 [some (.ref b), some (.ref (wt_ad (wt_xw X) 0)), some (.ref (wt_ad (wt_xw X) 108)), some (.ref o), some (.int i), none, none] []) : wt_O X o K σ 200 [some (.ref b), some (.ref (wt_ad (wt_xw X) 0)), some (.ref (wt_ad (wt_xw X) 108)), some (.ref o), some (.int i), none, none] [] := by
  have hD : ∀ i, i < 108 → wt_dom (wt_xw X) i := fun i hi => (hdm i).mpr (by omega)
  have hM : ∀ i, 108 ≤ i → i < 321 → wt_dom (wt_xw X) i := fun i _ hi => (hdm i).mpr hi
  obtain ⟨q, hq, r, hr, hI⟩ := hP _ (xs (i + (1 : Int32)).toNatClampNeg) (xs (i + (2 : Int32)).toNatClampNeg) (xs (i + (3 : Int32)).toNatClampNeg) (xs (i + (4 : Int32)).toNatClampNeg) (xs (i + (5 : Int32)).toNatClampNeg) hσ
  refine wt_o_aload_n hE wld_200 rfl ?_
  refine wt_o_aload_n hE wld_201 rfl ?_
  refine wt_o_iload hE wld_202 rfl ?_
  refine wt_o_iconst hE (1 : Int32) wld_204 (by decide) ?_
  refine wt_o_iadd hE wld_205 ?_
  refine wt_o_sld hE hX (hi 1 (by decide)) wld_206 ?_
  refine wt_o_aload_n hE wld_207 rfl ?_
  refine wt_o_iload hE wld_208 rfl ?_
  refine wt_o_iconst hE (2 : Int32) wld_210 (by decide) ?_
  refine wt_o_iadd hE wld_211 ?_
  refine wt_o_sld hE hX (hi 2 (by decide)) wld_212 ?_
  refine wt_o_aload_n hE wld_213 rfl ?_
  refine wt_o_iload hE wld_214 rfl ?_
  refine wt_o_iconst hE (3 : Int32) wld_216 (by decide) ?_
  refine wt_o_iadd hE wld_217 ?_
  refine wt_o_sld hE hX (hi 3 (by decide)) wld_218 ?_
  refine wt_o_aload_n hE wld_219 rfl ?_
  refine wt_o_iload hE wld_220 rfl ?_
  refine wt_o_iconst hE (4 : Int32) wld_222 (by decide) ?_
  refine wt_o_iadd hE wld_223 ?_
  refine wt_o_sld hE hX (hi 4 (by decide)) wld_224 ?_
  refine wt_o_aload_n hE wld_225 rfl ?_
  refine wt_o_iload hE wld_226 rfl ?_
  refine wt_o_iconst hE (5 : Int32) wld_228 (by decide) ?_
  refine wt_o_iadd hE wld_229 ?_
  refine wt_o_sld hE hX (hi 5 (by decide)) wld_230 ?_
  refine wt_o_callVi (dd := 2) hE [.int (xs (i + (1 : Int32)).toNatClampNeg), .int (xs (i + (2 : Int32)).toNatClampNeg), .int (xs (i + (3 : Int32)).toNatClampNeg), .int (xs (i + (4 : Int32)).toNatClampNeg), .int (xs (i + (5 : Int32)).toNatClampNeg)] wt_lm_lw_110 wt_ya_ap_feed (wp_ap_feed_ok hD hq) (by decide) (hD 0 (by decide)) wt_L0 rfl rfl rfl (Nat.le_of_ble_eq_true rfl) (by omega) wld_231 ?_
  refine wt_o_pop hE wld_234 rfl ?_
  refine wt_o_aload_n hE wld_235 rfl ?_
  refine wt_o_aload_n hE wld_236 rfl ?_
  refine wt_o_iload hE wld_237 rfl ?_
  refine wt_o_iconst hE (1 : Int32) wld_239 (by decide) ?_
  refine wt_o_iadd hE wld_240 ?_
  refine wt_o_sld hE hX (hi 1 (by decide)) wld_241 ?_
  refine wt_o_aload_n hE wld_242 rfl ?_
  refine wt_o_iload hE wld_243 rfl ?_
  refine wt_o_iconst hE (2 : Int32) wld_245 (by decide) ?_
  refine wt_o_iadd hE wld_246 ?_
  refine wt_o_sld hE hX (hi 2 (by decide)) wld_247 ?_
  refine wt_o_aload_n hE wld_248 rfl ?_
  refine wt_o_iload hE wld_249 rfl ?_
  refine wt_o_iconst hE (3 : Int32) wld_251 (by decide) ?_
  refine wt_o_iadd hE wld_252 ?_
  refine wt_o_sld hE hX (hi 3 (by decide)) wld_253 ?_
  refine wt_o_aload_n hE wld_254 rfl ?_
  refine wt_o_iload hE wld_255 rfl ?_
  refine wt_o_iconst hE (4 : Int32) wld_257 (by decide) ?_
  refine wt_o_iadd hE wld_258 ?_
  refine wt_o_sld hE hX (hi 4 (by decide)) wld_259 ?_
  refine wt_o_aload_n hE wld_260 rfl ?_
  refine wt_o_iload hE wld_261 rfl ?_
  refine wt_o_iconst hE (5 : Int32) wld_263 (by decide) ?_
  refine wt_o_iadd hE wld_264 ?_
  refine wt_o_sld hE hX (hi 5 (by decide)) wld_265 ?_
  refine wt_o_callVi (dd := 0) hE [.int (xs (i + (1 : Int32)).toNatClampNeg), .int (xs (i + (2 : Int32)).toNatClampNeg), .int (xs (i + (3 : Int32)).toNatClampNeg), .int (xs (i + (4 : Int32)).toNatClampNeg), .int (xs (i + (5 : Int32)).toNatClampNeg)] wt_lm_lw_114 wt_ya_md_feed (wp_md_feed_ok hM hr) (by decide) (hM 108 (by decide) (by decide)) wt_L108 rfl rfl rfl (Nat.le_of_ble_eq_true rfl) (by omega) wld_266 ?_
  refine wt_o_pop hE wld_269 rfl ?_
  refine wt_o_goto hE 1427 wld_270 rfl ?_
  refine wt_o_kup (K' := K + 8) (by omega) ?_
  exact wt_o_wk [true, true, true, true, true, false, false] rfl (kn _ hI)
theorem wld_273 : decode code 273 = .ok (.aload_n 1, 1) := wt_op43 wb606lawc0_code_c9 21 rfl rfl
theorem wld_274 : decode code 274 = .ok (.aload_n 0, 1) := wt_op42 wb606lawc0_code_c9 22 rfl rfl
theorem wld_275 : decode code 275 = .ok (.iload 4, 2) := wt_op21 wb606lawc0_code_c9 23 rfl rfl
theorem wld_277 : decode code 277 = .ok (.iconst 1, 1) := wt_op4 wb606lawc0_code_c9 25 rfl rfl
theorem wld_278 : decode code 278 = .ok (.iadd, 1) := wt_op96 wb606lawc0_code_c9 26 rfl rfl
theorem wld_279 : decode code 279 = .ok (.iaload, 1) := wt_op46 wb606lawc0_code_c9 27 rfl rfl
theorem wld_280 : decode code 280 = .ok (.aload_n 3, 1) := wt_op45 wb606lawc0_code_c10 0 rfl rfl
theorem wld_281 : decode code 281 = .ok (.invokestatic 115, 3) := wt_op184 wb606lawc0_code_c10 1 rfl rfl rfl
theorem wld_284 : decode code 284 = .ok (.istore 5, 2) := wt_op54 wb606lawc0_code_c10 4 rfl rfl
theorem wld_286 : decode code 286 = .ok (.aload_n 2, 1) := wt_op44 wb606lawc0_code_c10 6 rfl rfl
theorem wld_287 : decode code 287 = .ok (.aload_n 0, 1) := wt_op42 wb606lawc0_code_c10 7 rfl rfl
theorem wld_288 : decode code 288 = .ok (.iload 4, 2) := wt_op21 wb606lawc0_code_c10 8 rfl rfl
theorem wld_290 : decode code 290 = .ok (.iconst 1, 1) := wt_op4 wb606lawc0_code_c10 10 rfl rfl
theorem wld_291 : decode code 291 = .ok (.iadd, 1) := wt_op96 wb606lawc0_code_c10 11 rfl rfl
theorem wld_292 : decode code 292 = .ok (.iaload, 1) := wt_op46 wb606lawc0_code_c10 12 rfl rfl
theorem wld_293 : decode code 293 = .ok (.invokevirtual 120, 3) := wt_op182 wb606lawc0_code_c10 13 rfl rfl rfl
theorem wld_296 : decode code 296 = .ok (.istore 6, 2) := wt_op54 wb606lawc0_code_c10 16 rfl rfl
theorem wld_298 : decode code 298 = .ok (.goto 1129, 3) := wt_op167 wb606lawc0_code_c10 18 rfl rfl rfl
set_option maxRecDepth 100000 in
set_option maxHeartbeats 4000000 in
theorem wl_kase {X : wt_X} {o b L : Nat} {xs : Nat → Int32} {n K : Nat} {Inv : wt_St → Prop} {i : Int32} (hE : wt_OkO X o code 7 "WornTypeLaw" 400 100000) (hdm : ∀ i, wt_dom (wt_xw X) i ↔ i < 321) (hSN : wt_SN (wt_Ao (wt_xw X) o (wt_xs X).heap.size) (wt_xs X) (wt_xs X).heap) (htr : (wt_xl X).stackTraces = false) (hX : wt_scr X o b L xs) (hi : ∀ c : Int32, c = 1 ∨ c = 2 ∨ c = 3 ∨ c = 4 ∨ c = 5 → vp_in (i + c) L) (hK : K + 8 ≤ 100000) (hP : wt_P_kase n Inv) {σ : wt_St} (hσ : Inv σ) (kn : ∀ τ : wt_St, Inv τ → wt_O X o (K + 8) τ 1427 [some (.ref b), some (.ref (wt_ad (wt_xw X) 0)), some (.ref (wt_ad (wt_xw X) 108)), some (.ref o), some (.int i), none, none] []) : wt_O X o K σ 273 [some (.ref b), some (.ref (wt_ad (wt_xw X) 0)), some (.ref (wt_ad (wt_xw X) 108)), some (.ref o), some (.int i), none, none] [] := by
  have hD : ∀ i, i < 108 → wt_dom (wt_xw X) i := fun i hi => (hdm i).mpr (by omega)
  have hM : ∀ i, 108 ≤ i → i < 321 → wt_dom (wt_xw X) i := fun i _ hi => (hdm i).mpr hi
  obtain ⟨q, hq, hx, r, hr, hI⟩ := hP _ (xs (i + (1 : Int32)).toNatClampNeg) hσ
  refine wt_o_aload_n hE wld_273 rfl ?_
  refine wt_o_aload_n hE wld_274 rfl ?_
  refine wt_o_iload hE wld_275 rfl ?_
  refine wt_o_iconst hE (1 : Int32) wld_277 (by decide) ?_
  refine wt_o_iadd hE wld_278 ?_
  refine wt_o_sld hE hX (hi 1 (by decide)) wld_279 ?_
  refine wt_o_aload_n hE wld_280 rfl ?_
  refine wt_o_callW hE hSN (k := 3) (dd := 9) (mc := 8) [.ref (wt_ad (wt_xw X) 0), .int (xs (i + (1 : Int32)).toNatClampNeg), .ref o] (wt_g3 53 rfl rfl) (wt_g3 54 rfl rfl) (wt_g1 0 rfl rfl) wt_cm_kase ⟨by decide, by decide, by decide +kernel⟩ (by decide) (ww_kase_ok htr hE.2.2 hD hq hx) (by decide) rfl rfl (Nat.le_of_ble_eq_true rfl) (by omega) wld_281 (fun w5 => ?_)
  refine wt_o_istore hE [some (.ref b), some (.ref (wt_ad (wt_xw X) 0)), some (.ref (wt_ad (wt_xw X) 108)), some (.ref o), some (.int i), some (.int w5), none] wld_284 (by decide) rfl ?_
  refine wt_o_aload_n hE wld_286 rfl ?_
  refine wt_o_aload_n hE wld_287 rfl ?_
  refine wt_o_iload hE wld_288 rfl ?_
  refine wt_o_iconst hE (1 : Int32) wld_290 (by decide) ?_
  refine wt_o_iadd hE wld_291 ?_
  refine wt_o_sld hE hX (hi 1 (by decide)) wld_292 ?_
  refine wt_o_callVi (dd := 6) hE [.int (xs (i + (1 : Int32)).toNatClampNeg)] wt_lm_lw_120 wt_ya_md_kase (wp_md_kase_ok hM hr) (by decide) (hM 108 (by decide) (by decide)) wt_L108 rfl rfl rfl (Nat.le_of_ble_eq_true rfl) (by omega) wld_293 ?_
  refine wt_o_istore hE [some (.ref b), some (.ref (wt_ad (wt_xw X) 0)), some (.ref (wt_ad (wt_xw X) 108)), some (.ref o), some (.int i), some (.int w5), some (.int r.1)] wld_296 (by decide) rfl ?_
  refine wt_o_goto hE 1427 wld_298 rfl ?_
  exact wt_o_wk [true, true, true, true, true, false, false] rfl (kn _ hI)
theorem wld_301 : decode code 301 = .ok (.aload_n 1, 1) := wt_op43 wb606lawc0_code_c10 21 rfl rfl
theorem wld_302 : decode code 302 = .ok (.aload_n 0, 1) := wt_op42 wb606lawc0_code_c10 22 rfl rfl
theorem wld_303 : decode code 303 = .ok (.iload 4, 2) := wt_op21 wb606lawc0_code_c10 23 rfl rfl
theorem wld_305 : decode code 305 = .ok (.iconst 1, 1) := wt_op4 wb606lawc0_code_c10 25 rfl rfl
theorem wld_306 : decode code 306 = .ok (.iadd, 1) := wt_op96 wb606lawc0_code_c10 26 rfl rfl
theorem wld_307 : decode code 307 = .ok (.iaload, 1) := wt_op46 wb606lawc0_code_c10 27 rfl rfl
theorem wld_308 : decode code 308 = .ok (.aload_n 3, 1) := wt_op45 wb606lawc0_code_c11 0 rfl rfl
theorem wld_309 : decode code 309 = .ok (.invokestatic 121, 3) := wt_op184 wb606lawc0_code_c11 1 rfl rfl rfl
theorem wld_312 : decode code 312 = .ok (.istore 5, 2) := wt_op54 wb606lawc0_code_c11 4 rfl rfl
theorem wld_314 : decode code 314 = .ok (.aload_n 2, 1) := wt_op44 wb606lawc0_code_c11 6 rfl rfl
theorem wld_315 : decode code 315 = .ok (.aload_n 0, 1) := wt_op42 wb606lawc0_code_c11 7 rfl rfl
theorem wld_316 : decode code 316 = .ok (.iload 4, 2) := wt_op21 wb606lawc0_code_c11 8 rfl rfl
theorem wld_318 : decode code 318 = .ok (.iconst 1, 1) := wt_op4 wb606lawc0_code_c11 10 rfl rfl
theorem wld_319 : decode code 319 = .ok (.iadd, 1) := wt_op96 wb606lawc0_code_c11 11 rfl rfl
theorem wld_320 : decode code 320 = .ok (.iaload, 1) := wt_op46 wb606lawc0_code_c11 12 rfl rfl
theorem wld_321 : decode code 321 = .ok (.invokevirtual 123, 3) := wt_op182 wb606lawc0_code_c11 13 rfl rfl rfl
theorem wld_324 : decode code 324 = .ok (.istore 6, 2) := wt_op54 wb606lawc0_code_c11 16 rfl rfl
theorem wld_326 : decode code 326 = .ok (.goto 1101, 3) := wt_op167 wb606lawc0_code_c11 18 rfl rfl rfl
set_option maxRecDepth 100000 in
set_option maxHeartbeats 4000000 in
theorem wl_tongue {X : wt_X} {o b L : Nat} {xs : Nat → Int32} {n K : Nat} {Inv : wt_St → Prop} {i : Int32} (hE : wt_OkO X o code 7 "WornTypeLaw" 400 100000) (hdm : ∀ i, wt_dom (wt_xw X) i ↔ i < 321) (hSN : wt_SN (wt_Ao (wt_xw X) o (wt_xs X).heap.size) (wt_xs X) (wt_xs X).heap) (htr : (wt_xl X).stackTraces = false) (hX : wt_scr X o b L xs) (hi : ∀ c : Int32, c = 1 ∨ c = 2 ∨ c = 3 ∨ c = 4 ∨ c = 5 → vp_in (i + c) L) (hK : K + 8 ≤ 100000) (hP : wt_P_tongue n Inv) {σ : wt_St} (hσ : Inv σ) (kn : ∀ τ : wt_St, Inv τ → wt_O X o (K + 8) τ 1427 [some (.ref b), some (.ref (wt_ad (wt_xw X) 0)), some (.ref (wt_ad (wt_xw X) 108)), some (.ref o), some (.int i), none, none] []) : wt_O X o K σ 301 [some (.ref b), some (.ref (wt_ad (wt_xw X) 0)), some (.ref (wt_ad (wt_xw X) 108)), some (.ref o), some (.int i), none, none] [] := by
  have hD : ∀ i, i < 108 → wt_dom (wt_xw X) i := fun i hi => (hdm i).mpr (by omega)
  have hM : ∀ i, 108 ≤ i → i < 321 → wt_dom (wt_xw X) i := fun i _ hi => (hdm i).mpr hi
  obtain ⟨q, hq, hx, r, hr, hI⟩ := hP _ (xs (i + (1 : Int32)).toNatClampNeg) hσ
  refine wt_o_aload_n hE wld_301 rfl ?_
  refine wt_o_aload_n hE wld_302 rfl ?_
  refine wt_o_iload hE wld_303 rfl ?_
  refine wt_o_iconst hE (1 : Int32) wld_305 (by decide) ?_
  refine wt_o_iadd hE wld_306 ?_
  refine wt_o_sld hE hX (hi 1 (by decide)) wld_307 ?_
  refine wt_o_aload_n hE wld_308 rfl ?_
  refine wt_o_callW hE hSN (k := 3) (dd := 8) (mc := 8) [.ref (wt_ad (wt_xw X) 0), .int (xs (i + (1 : Int32)).toNatClampNeg), .ref o] (wt_g4 46 rfl rfl) (wt_g4 47 rfl rfl) (wt_g1 0 rfl rfl) wt_cm_tongue ⟨by decide, by decide, by decide +kernel⟩ (by decide) (ww_tongue_ok htr hE.2.2 hD hq hx) (by decide) rfl rfl (Nat.le_of_ble_eq_true rfl) (by omega) wld_309 (fun w5 => ?_)
  refine wt_o_istore hE [some (.ref b), some (.ref (wt_ad (wt_xw X) 0)), some (.ref (wt_ad (wt_xw X) 108)), some (.ref o), some (.int i), some (.int w5), none] wld_312 (by decide) rfl ?_
  refine wt_o_aload_n hE wld_314 rfl ?_
  refine wt_o_aload_n hE wld_315 rfl ?_
  refine wt_o_iload hE wld_316 rfl ?_
  refine wt_o_iconst hE (1 : Int32) wld_318 (by decide) ?_
  refine wt_o_iadd hE wld_319 ?_
  refine wt_o_sld hE hX (hi 1 (by decide)) wld_320 ?_
  refine wt_o_callVi (dd := 4) hE [.int (xs (i + (1 : Int32)).toNatClampNeg)] wt_lm_lw_123 wt_ya_md_tongue (wp_md_tongue_ok hM hr) (by decide) (hM 108 (by decide) (by decide)) wt_L108 rfl rfl rfl (Nat.le_of_ble_eq_true rfl) (by omega) wld_321 ?_
  refine wt_o_istore hE [some (.ref b), some (.ref (wt_ad (wt_xw X) 0)), some (.ref (wt_ad (wt_xw X) 108)), some (.ref o), some (.int i), some (.int w5), some (.int r.1)] wld_324 (by decide) rfl ?_
  refine wt_o_goto hE 1427 wld_326 rfl ?_
  exact wt_o_wk [true, true, true, true, true, false, false] rfl (kn _ hI)
theorem wld_329 : decode code 329 = .ok (.aload_n 1, 1) := wt_op43 wb606lawc0_code_c11 21 rfl rfl
theorem wld_330 : decode code 330 = .ok (.aload_n 0, 1) := wt_op42 wb606lawc0_code_c11 22 rfl rfl
theorem wld_331 : decode code 331 = .ok (.iload 4, 2) := wt_op21 wb606lawc0_code_c11 23 rfl rfl
theorem wld_333 : decode code 333 = .ok (.iconst 1, 1) := wt_op4 wb606lawc0_code_c11 25 rfl rfl
theorem wld_334 : decode code 334 = .ok (.iadd, 1) := wt_op96 wb606lawc0_code_c11 26 rfl rfl
theorem wld_335 : decode code 335 = .ok (.iaload, 1) := wt_op46 wb606lawc0_code_c11 27 rfl rfl
theorem wld_336 : decode code 336 = .ok (.aload_n 3, 1) := wt_op45 wb606lawc0_code_c12 0 rfl rfl
theorem wld_337 : decode code 337 = .ok (.invokestatic 124, 3) := wt_op184 wb606lawc0_code_c12 1 rfl rfl rfl
theorem wld_340 : decode code 340 = .ok (.istore 5, 2) := wt_op54 wb606lawc0_code_c12 4 rfl rfl
theorem wld_342 : decode code 342 = .ok (.aload_n 2, 1) := wt_op44 wb606lawc0_code_c12 6 rfl rfl
theorem wld_343 : decode code 343 = .ok (.aload_n 0, 1) := wt_op42 wb606lawc0_code_c12 7 rfl rfl
theorem wld_344 : decode code 344 = .ok (.iload 4, 2) := wt_op21 wb606lawc0_code_c12 8 rfl rfl
theorem wld_346 : decode code 346 = .ok (.iconst 1, 1) := wt_op4 wb606lawc0_code_c12 10 rfl rfl
theorem wld_347 : decode code 347 = .ok (.iadd, 1) := wt_op96 wb606lawc0_code_c12 11 rfl rfl
theorem wld_348 : decode code 348 = .ok (.iaload, 1) := wt_op46 wb606lawc0_code_c12 12 rfl rfl
theorem wld_349 : decode code 349 = .ok (.invokevirtual 126, 3) := wt_op182 wb606lawc0_code_c12 13 rfl rfl rfl
theorem wld_352 : decode code 352 = .ok (.istore 6, 2) := wt_op54 wb606lawc0_code_c12 16 rfl rfl
theorem wld_354 : decode code 354 = .ok (.goto 1073, 3) := wt_op167 wb606lawc0_code_c12 18 rfl rfl rfl
set_option maxRecDepth 100000 in
set_option maxHeartbeats 4000000 in
theorem wl_text {X : wt_X} {o b L : Nat} {xs : Nat → Int32} {n K : Nat} {Inv : wt_St → Prop} {i : Int32} (hE : wt_OkO X o code 7 "WornTypeLaw" 400 100000) (hdm : ∀ i, wt_dom (wt_xw X) i ↔ i < 321) (hSN : wt_SN (wt_Ao (wt_xw X) o (wt_xs X).heap.size) (wt_xs X) (wt_xs X).heap) (htr : (wt_xl X).stackTraces = false) (hX : wt_scr X o b L xs) (hi : ∀ c : Int32, c = 1 ∨ c = 2 ∨ c = 3 ∨ c = 4 ∨ c = 5 → vp_in (i + c) L) (hK : K + 8 ≤ 100000) (hP : wt_P_text n Inv) {σ : wt_St} (hσ : Inv σ) (kn : ∀ τ : wt_St, Inv τ → wt_O X o (K + 8) τ 1427 [some (.ref b), some (.ref (wt_ad (wt_xw X) 0)), some (.ref (wt_ad (wt_xw X) 108)), some (.ref o), some (.int i), none, none] []) : wt_O X o K σ 329 [some (.ref b), some (.ref (wt_ad (wt_xw X) 0)), some (.ref (wt_ad (wt_xw X) 108)), some (.ref o), some (.int i), none, none] [] := by
  have hD : ∀ i, i < 108 → wt_dom (wt_xw X) i := fun i hi => (hdm i).mpr (by omega)
  have hM : ∀ i, 108 ≤ i → i < 321 → wt_dom (wt_xw X) i := fun i _ hi => (hdm i).mpr hi
  obtain ⟨q, hq, hx, r, hr, hI⟩ := hP _ (xs (i + (1 : Int32)).toNatClampNeg) hσ
  refine wt_o_aload_n hE wld_329 rfl ?_
  refine wt_o_aload_n hE wld_330 rfl ?_
  refine wt_o_iload hE wld_331 rfl ?_
  refine wt_o_iconst hE (1 : Int32) wld_333 (by decide) ?_
  refine wt_o_iadd hE wld_334 ?_
  refine wt_o_sld hE hX (hi 1 (by decide)) wld_335 ?_
  refine wt_o_aload_n hE wld_336 rfl ?_
  refine wt_o_callW hE hSN (k := 3) (dd := 8) (mc := 8) [.ref (wt_ad (wt_xw X) 0), .int (xs (i + (1 : Int32)).toNatClampNeg), .ref o] (wt_g4 92 rfl rfl) (wt_g4 93 rfl rfl) (wt_g1 0 rfl rfl) wt_cm_text ⟨by decide, by decide, by decide +kernel⟩ (by decide) (ww_text_ok htr hE.2.2 hD hq hx) (by decide) rfl rfl (Nat.le_of_ble_eq_true rfl) (by omega) wld_337 (fun w5 => ?_)
  refine wt_o_istore hE [some (.ref b), some (.ref (wt_ad (wt_xw X) 0)), some (.ref (wt_ad (wt_xw X) 108)), some (.ref o), some (.int i), some (.int w5), none] wld_340 (by decide) rfl ?_
  refine wt_o_aload_n hE wld_342 rfl ?_
  refine wt_o_aload_n hE wld_343 rfl ?_
  refine wt_o_iload hE wld_344 rfl ?_
  refine wt_o_iconst hE (1 : Int32) wld_346 (by decide) ?_
  refine wt_o_iadd hE wld_347 ?_
  refine wt_o_sld hE hX (hi 1 (by decide)) wld_348 ?_
  refine wt_o_callVi (dd := 3) hE [.int (xs (i + (1 : Int32)).toNatClampNeg)] wt_lm_lw_126 wt_ya_md_text (wp_md_text_ok hM hr) (by decide) (hM 108 (by decide) (by decide)) wt_L108 rfl rfl rfl (Nat.le_of_ble_eq_true rfl) (by omega) wld_349 ?_
  refine wt_o_istore hE [some (.ref b), some (.ref (wt_ad (wt_xw X) 0)), some (.ref (wt_ad (wt_xw X) 108)), some (.ref o), some (.int i), some (.int w5), some (.int r.1)] wld_352 (by decide) rfl ?_
  refine wt_o_goto hE 1427 wld_354 rfl ?_
  exact wt_o_wk [true, true, true, true, true, false, false] rfl (kn _ hI)
theorem wld_357 : decode code 357 = .ok (.aload_n 1, 1) := wt_op43 wb606lawc0_code_c12 21 rfl rfl
theorem wld_358 : decode code 358 = .ok (.invokevirtual 127, 3) := wt_op182 wb606lawc0_code_c12 22 rfl rfl rfl
theorem wld_361 : decode code 361 = .ok (.pop, 1) := wt_op87 wb606lawc0_code_c12 25 rfl rfl
theorem wld_362 : decode code 362 = .ok (.aload_n 2, 1) := wt_op44 wb606lawc0_code_c12 26 rfl rfl
theorem wld_363 : decode code 363 = .ok (.invokevirtual 131, 3) := wt_op182 wb606lawc0_code_c12 27 rfl rfl rfl
theorem wld_366 : decode code 366 = .ok (.pop, 1) := wt_op87 wb606lawc0_code_c13 0 rfl rfl
theorem wld_367 : decode code 367 = .ok (.goto 1060, 3) := wt_op167 wb606lawc0_code_c13 1 rfl rfl rfl
set_option maxRecDepth 100000 in
set_option maxHeartbeats 4000000 in
theorem wl_fault {X : wt_X} {o b L : Nat} {xs : Nat → Int32} {n K : Nat} {Inv : wt_St → Prop} {i : Int32} (hE : wt_OkO X o code 7 "WornTypeLaw" 400 100000) (hdm : ∀ i, wt_dom (wt_xw X) i ↔ i < 321) (hSN : wt_SN (wt_Ao (wt_xw X) o (wt_xs X).heap.size) (wt_xs X) (wt_xs X).heap) (htr : (wt_xl X).stackTraces = false) (hX : wt_scr X o b L xs) (hi : ∀ c : Int32, c = 1 ∨ c = 2 ∨ c = 3 ∨ c = 4 ∨ c = 5 → vp_in (i + c) L) (hK : K + 8 ≤ 100000) (hP : wt_P_fault n Inv) {σ : wt_St} (hσ : Inv σ) (kn : ∀ τ : wt_St, Inv τ → wt_O X o (K + 8) τ 1427 [some (.ref b), some (.ref (wt_ad (wt_xw X) 0)), some (.ref (wt_ad (wt_xw X) 108)), some (.ref o), some (.int i), none, none] []) : wt_O X o K σ 357 [some (.ref b), some (.ref (wt_ad (wt_xw X) 0)), some (.ref (wt_ad (wt_xw X) 108)), some (.ref o), some (.int i), none, none] [] := by
  have hD : ∀ i, i < 108 → wt_dom (wt_xw X) i := fun i hi => (hdm i).mpr (by omega)
  have hM : ∀ i, 108 ≤ i → i < 321 → wt_dom (wt_xw X) i := fun i _ hi => (hdm i).mpr hi
  obtain ⟨q, hq, r, hr, hI⟩ := hP _  hσ
  refine wt_o_aload_n hE wld_357 rfl ?_
  refine wt_o_callVi (dd := 0) hE [] wt_lm_lw_127 wt_ya_ap_fault (wp_ap_fault_ok hD hq) (by decide) (hD 0 (by decide)) wt_L0 rfl rfl rfl (Nat.le_of_ble_eq_true rfl) (by omega) wld_358 ?_
  refine wt_o_pop hE wld_361 rfl ?_
  refine wt_o_aload_n hE wld_362 rfl ?_
  refine wt_o_callVi (dd := 0) hE [] wt_lm_lw_131 wt_ya_md_fault (wp_md_fault_ok hM hr) (by decide) (hM 108 (by decide) (by decide)) wt_L108 rfl rfl rfl (Nat.le_of_ble_eq_true rfl) (by omega) wld_363 ?_
  refine wt_o_pop hE wld_366 rfl ?_
  refine wt_o_goto hE 1427 wld_367 rfl ?_
  refine wt_o_kup (K' := K + 8) (by omega) ?_
  exact wt_o_wk [true, true, true, true, true, false, false] rfl (kn _ hI)
theorem wld_370 : decode code 370 = .ok (.aload_n 1, 1) := wt_op43 wb606lawc0_code_c13 4 rfl rfl
theorem wld_371 : decode code 371 = .ok (.aload_n 0, 1) := wt_op42 wb606lawc0_code_c13 5 rfl rfl
theorem wld_372 : decode code 372 = .ok (.iload 4, 2) := wt_op21 wb606lawc0_code_c13 6 rfl rfl
theorem wld_374 : decode code 374 = .ok (.iconst 1, 1) := wt_op4 wb606lawc0_code_c13 8 rfl rfl
theorem wld_375 : decode code 375 = .ok (.iadd, 1) := wt_op96 wb606lawc0_code_c13 9 rfl rfl
theorem wld_376 : decode code 376 = .ok (.iaload, 1) := wt_op46 wb606lawc0_code_c13 10 rfl rfl
theorem wld_377 : decode code 377 = .ok (.aload_n 3, 1) := wt_op45 wb606lawc0_code_c13 11 rfl rfl
theorem wld_378 : decode code 378 = .ok (.invokestatic 132, 3) := wt_op184 wb606lawc0_code_c13 12 rfl rfl rfl
theorem wld_381 : decode code 381 = .ok (.istore 5, 2) := wt_op54 wb606lawc0_code_c13 15 rfl rfl
theorem wld_383 : decode code 383 = .ok (.aload_n 2, 1) := wt_op44 wb606lawc0_code_c13 17 rfl rfl
theorem wld_384 : decode code 384 = .ok (.aload_n 0, 1) := wt_op42 wb606lawc0_code_c13 18 rfl rfl
theorem wld_385 : decode code 385 = .ok (.iload 4, 2) := wt_op21 wb606lawc0_code_c13 19 rfl rfl
theorem wld_387 : decode code 387 = .ok (.iconst 1, 1) := wt_op4 wb606lawc0_code_c13 21 rfl rfl
theorem wld_388 : decode code 388 = .ok (.iadd, 1) := wt_op96 wb606lawc0_code_c13 22 rfl rfl
theorem wld_389 : decode code 389 = .ok (.iaload, 1) := wt_op46 wb606lawc0_code_c13 23 rfl rfl
theorem wld_390 : decode code 390 = .ok (.invokevirtual 134, 3) := wt_op182 wb606lawc0_code_c13 24 rfl rfl rfl
theorem wld_393 : decode code 393 = .ok (.istore 6, 2) := wt_op54 wb606lawc0_code_c13 27 rfl rfl
theorem wld_395 : decode code 395 = .ok (.goto 1032, 3) := wt_op167 wb606lawc0_code_c14 0 rfl rfl rfl
set_option maxRecDepth 100000 in
set_option maxHeartbeats 4000000 in
theorem wl_told {X : wt_X} {o b L : Nat} {xs : Nat → Int32} {n K : Nat} {Inv : wt_St → Prop} {i : Int32} (hE : wt_OkO X o code 7 "WornTypeLaw" 400 100000) (hdm : ∀ i, wt_dom (wt_xw X) i ↔ i < 321) (hSN : wt_SN (wt_Ao (wt_xw X) o (wt_xs X).heap.size) (wt_xs X) (wt_xs X).heap) (htr : (wt_xl X).stackTraces = false) (hX : wt_scr X o b L xs) (hi : ∀ c : Int32, c = 1 ∨ c = 2 ∨ c = 3 ∨ c = 4 ∨ c = 5 → vp_in (i + c) L) (hK : K + 8 ≤ 100000) (hP : wt_P_told n Inv) {σ : wt_St} (hσ : Inv σ) (kn : ∀ τ : wt_St, Inv τ → wt_O X o (K + 8) τ 1427 [some (.ref b), some (.ref (wt_ad (wt_xw X) 0)), some (.ref (wt_ad (wt_xw X) 108)), some (.ref o), some (.int i), none, none] []) : wt_O X o K σ 370 [some (.ref b), some (.ref (wt_ad (wt_xw X) 0)), some (.ref (wt_ad (wt_xw X) 108)), some (.ref o), some (.int i), none, none] [] := by
  have hD : ∀ i, i < 108 → wt_dom (wt_xw X) i := fun i hi => (hdm i).mpr (by omega)
  have hM : ∀ i, 108 ≤ i → i < 321 → wt_dom (wt_xw X) i := fun i _ hi => (hdm i).mpr hi
  obtain ⟨q, hq, hx, r, hr, hI⟩ := hP _ (xs (i + (1 : Int32)).toNatClampNeg) hσ
  refine wt_o_aload_n hE wld_370 rfl ?_
  refine wt_o_aload_n hE wld_371 rfl ?_
  refine wt_o_iload hE wld_372 rfl ?_
  refine wt_o_iconst hE (1 : Int32) wld_374 (by decide) ?_
  refine wt_o_iadd hE wld_375 ?_
  refine wt_o_sld hE hX (hi 1 (by decide)) wld_376 ?_
  refine wt_o_aload_n hE wld_377 rfl ?_
  refine wt_o_callW hE hSN (k := 3) (dd := 7) (mc := 8) [.ref (wt_ad (wt_xw X) 0), .int (xs (i + (1 : Int32)).toNatClampNeg), .ref o] (wt_g4 118 rfl rfl) (wt_g4 119 rfl rfl) (wt_g1 0 rfl rfl) wt_cm_told ⟨by decide, by decide, by decide +kernel⟩ (by decide) (ww_told_ok htr hE.2.2 hD hq hx) (by decide) rfl rfl (Nat.le_of_ble_eq_true rfl) (by omega) wld_378 (fun w5 => ?_)
  refine wt_o_istore hE [some (.ref b), some (.ref (wt_ad (wt_xw X) 0)), some (.ref (wt_ad (wt_xw X) 108)), some (.ref o), some (.int i), some (.int w5), none] wld_381 (by decide) rfl ?_
  refine wt_o_aload_n hE wld_383 rfl ?_
  refine wt_o_aload_n hE wld_384 rfl ?_
  refine wt_o_iload hE wld_385 rfl ?_
  refine wt_o_iconst hE (1 : Int32) wld_387 (by decide) ?_
  refine wt_o_iadd hE wld_388 ?_
  refine wt_o_sld hE hX (hi 1 (by decide)) wld_389 ?_
  refine wt_o_callVi (dd := 1) hE [.int (xs (i + (1 : Int32)).toNatClampNeg)] wt_lm_lw_134 wt_ya_md_told (wp_md_told_ok hM hr) (by decide) (hM 108 (by decide) (by decide)) wt_L108 rfl rfl rfl (Nat.le_of_ble_eq_true rfl) (by omega) wld_390 ?_
  refine wt_o_istore hE [some (.ref b), some (.ref (wt_ad (wt_xw X) 0)), some (.ref (wt_ad (wt_xw X) 108)), some (.ref o), some (.int i), some (.int w5), some (.int r.1)] wld_393 (by decide) rfl ?_
  refine wt_o_goto hE 1427 wld_395 rfl ?_
  exact wt_o_wk [true, true, true, true, true, false, false] rfl (kn _ hI)
theorem wld_398 : decode code 398 = .ok (.aload_n 1, 1) := wt_op43 wb606lawc0_code_c14 3 rfl rfl
theorem wld_399 : decode code 399 = .ok (.aload_n 0, 1) := wt_op42 wb606lawc0_code_c14 4 rfl rfl
theorem wld_400 : decode code 400 = .ok (.iload 4, 2) := wt_op21 wb606lawc0_code_c14 5 rfl rfl
theorem wld_402 : decode code 402 = .ok (.iconst 1, 1) := wt_op4 wb606lawc0_code_c14 7 rfl rfl
theorem wld_403 : decode code 403 = .ok (.iadd, 1) := wt_op96 wb606lawc0_code_c14 8 rfl rfl
theorem wld_404 : decode code 404 = .ok (.iaload, 1) := wt_op46 wb606lawc0_code_c14 9 rfl rfl
theorem wld_405 : decode code 405 = .ok (.aload_n 0, 1) := wt_op42 wb606lawc0_code_c14 10 rfl rfl
theorem wld_406 : decode code 406 = .ok (.iload 4, 2) := wt_op21 wb606lawc0_code_c14 11 rfl rfl
theorem wld_408 : decode code 408 = .ok (.iconst 2, 1) := wt_op5 wb606lawc0_code_c14 13 rfl rfl
theorem wld_409 : decode code 409 = .ok (.iadd, 1) := wt_op96 wb606lawc0_code_c14 14 rfl rfl
theorem wld_410 : decode code 410 = .ok (.iaload, 1) := wt_op46 wb606lawc0_code_c14 15 rfl rfl
theorem wld_411 : decode code 411 = .ok (.aload_n 3, 1) := wt_op45 wb606lawc0_code_c14 16 rfl rfl
theorem wld_412 : decode code 412 = .ok (.invokestatic 135, 3) := wt_op184 wb606lawc0_code_c14 17 rfl rfl rfl
theorem wld_415 : decode code 415 = .ok (.istore 5, 2) := wt_op54 wb606lawc0_code_c14 20 rfl rfl
theorem wld_417 : decode code 417 = .ok (.aload_n 2, 1) := wt_op44 wb606lawc0_code_c14 22 rfl rfl
theorem wld_418 : decode code 418 = .ok (.aload_n 0, 1) := wt_op42 wb606lawc0_code_c14 23 rfl rfl
theorem wld_419 : decode code 419 = .ok (.iload 4, 2) := wt_op21 wb606lawc0_code_c14 24 rfl rfl
theorem wld_421 : decode code 421 = .ok (.iconst 1, 1) := wt_op4 wb606lawc0_code_c14 26 rfl rfl
theorem wld_422 : decode code 422 = .ok (.iadd, 1) := wt_op96 wb606lawc0_code_c14 27 rfl rfl
theorem wld_423 : decode code 423 = .ok (.iaload, 1) := wt_op46 wb606lawc0_code_c15 0 rfl rfl
theorem wld_424 : decode code 424 = .ok (.aload_n 0, 1) := wt_op42 wb606lawc0_code_c15 1 rfl rfl
theorem wld_425 : decode code 425 = .ok (.iload 4, 2) := wt_op21 wb606lawc0_code_c15 2 rfl rfl
theorem wld_427 : decode code 427 = .ok (.iconst 2, 1) := wt_op5 wb606lawc0_code_c15 4 rfl rfl
theorem wld_428 : decode code 428 = .ok (.iadd, 1) := wt_op96 wb606lawc0_code_c15 5 rfl rfl
theorem wld_429 : decode code 429 = .ok (.iaload, 1) := wt_op46 wb606lawc0_code_c15 6 rfl rfl
theorem wld_430 : decode code 430 = .ok (.invokevirtual 138, 3) := wt_op182 wb606lawc0_code_c15 7 rfl rfl rfl
theorem wld_433 : decode code 433 = .ok (.istore 6, 2) := wt_op54 wb606lawc0_code_c15 10 rfl rfl
theorem wld_435 : decode code 435 = .ok (.goto 992, 3) := wt_op167 wb606lawc0_code_c15 12 rfl rfl rfl
set_option maxRecDepth 100000 in
set_option maxHeartbeats 4000000 in
theorem wl_letter {X : wt_X} {o b L : Nat} {xs : Nat → Int32} {n K : Nat} {Inv : wt_St → Prop} {i : Int32} (hE : wt_OkO X o code 7 "WornTypeLaw" 400 100000) (hdm : ∀ i, wt_dom (wt_xw X) i ↔ i < 321) (hSN : wt_SN (wt_Ao (wt_xw X) o (wt_xs X).heap.size) (wt_xs X) (wt_xs X).heap) (htr : (wt_xl X).stackTraces = false) (hX : wt_scr X o b L xs) (hi : ∀ c : Int32, c = 1 ∨ c = 2 ∨ c = 3 ∨ c = 4 ∨ c = 5 → vp_in (i + c) L) (hK : K + 8 ≤ 100000) (hP : wt_P_letter n Inv) {σ : wt_St} (hσ : Inv σ) (kn : ∀ τ : wt_St, Inv τ → wt_O X o (K + 8) τ 1427 [some (.ref b), some (.ref (wt_ad (wt_xw X) 0)), some (.ref (wt_ad (wt_xw X) 108)), some (.ref o), some (.int i), none, none] []) : wt_O X o K σ 398 [some (.ref b), some (.ref (wt_ad (wt_xw X) 0)), some (.ref (wt_ad (wt_xw X) 108)), some (.ref o), some (.int i), none, none] [] := by
  have hD : ∀ i, i < 108 → wt_dom (wt_xw X) i := fun i hi => (hdm i).mpr (by omega)
  have hM : ∀ i, 108 ≤ i → i < 321 → wt_dom (wt_xw X) i := fun i _ hi => (hdm i).mpr hi
  obtain ⟨q, hq, hx, r, hr, hI⟩ := hP _ (xs (i + (1 : Int32)).toNatClampNeg) (xs (i + (2 : Int32)).toNatClampNeg) hσ
  refine wt_o_aload_n hE wld_398 rfl ?_
  refine wt_o_aload_n hE wld_399 rfl ?_
  refine wt_o_iload hE wld_400 rfl ?_
  refine wt_o_iconst hE (1 : Int32) wld_402 (by decide) ?_
  refine wt_o_iadd hE wld_403 ?_
  refine wt_o_sld hE hX (hi 1 (by decide)) wld_404 ?_
  refine wt_o_aload_n hE wld_405 rfl ?_
  refine wt_o_iload hE wld_406 rfl ?_
  refine wt_o_iconst hE (2 : Int32) wld_408 (by decide) ?_
  refine wt_o_iadd hE wld_409 ?_
  refine wt_o_sld hE hX (hi 2 (by decide)) wld_410 ?_
  refine wt_o_aload_n hE wld_411 rfl ?_
  refine wt_o_callW hE hSN (k := 4) (dd := 8) (mc := 8) [.ref (wt_ad (wt_xw X) 0), .int (xs (i + (1 : Int32)).toNatClampNeg), .int (xs (i + (2 : Int32)).toNatClampNeg), .ref o] (wt_g4 135 rfl rfl) (wt_g4 136 rfl rfl) (wt_g1 0 rfl rfl) wt_cm_letter ⟨by decide, by decide, by decide +kernel⟩ (by decide) (ww_letter_ok htr hE.2.2 hD hq hx) (by decide) rfl rfl (Nat.le_of_ble_eq_true rfl) (by omega) wld_412 (fun w5 => ?_)
  refine wt_o_istore hE [some (.ref b), some (.ref (wt_ad (wt_xw X) 0)), some (.ref (wt_ad (wt_xw X) 108)), some (.ref o), some (.int i), some (.int w5), none] wld_415 (by decide) rfl ?_
  refine wt_o_aload_n hE wld_417 rfl ?_
  refine wt_o_aload_n hE wld_418 rfl ?_
  refine wt_o_iload hE wld_419 rfl ?_
  refine wt_o_iconst hE (1 : Int32) wld_421 (by decide) ?_
  refine wt_o_iadd hE wld_422 ?_
  refine wt_o_sld hE hX (hi 1 (by decide)) wld_423 ?_
  refine wt_o_aload_n hE wld_424 rfl ?_
  refine wt_o_iload hE wld_425 rfl ?_
  refine wt_o_iconst hE (2 : Int32) wld_427 (by decide) ?_
  refine wt_o_iadd hE wld_428 ?_
  refine wt_o_sld hE hX (hi 2 (by decide)) wld_429 ?_
  refine wt_o_callVi (dd := 2) hE [.int (xs (i + (1 : Int32)).toNatClampNeg), .int (xs (i + (2 : Int32)).toNatClampNeg)] wt_lm_lw_138 wt_ya_md_letter (wp_md_letter_ok hM hr) (by decide) (hM 108 (by decide) (by decide)) wt_L108 rfl rfl rfl (Nat.le_of_ble_eq_true rfl) (by omega) wld_430 ?_
  refine wt_o_istore hE [some (.ref b), some (.ref (wt_ad (wt_xw X) 0)), some (.ref (wt_ad (wt_xw X) 108)), some (.ref o), some (.int i), some (.int w5), some (.int r.1)] wld_433 (by decide) rfl ?_
  refine wt_o_goto hE 1427 wld_435 rfl ?_
  exact wt_o_wk [true, true, true, true, true, false, false] rfl (kn _ hI)
theorem wld_438 : decode code 438 = .ok (.aload_n 1, 1) := wt_op43 wb606lawc0_code_c15 15 rfl rfl
theorem wld_439 : decode code 439 = .ok (.aload_n 0, 1) := wt_op42 wb606lawc0_code_c15 16 rfl rfl
theorem wld_440 : decode code 440 = .ok (.iload 4, 2) := wt_op21 wb606lawc0_code_c15 17 rfl rfl
theorem wld_442 : decode code 442 = .ok (.iconst 1, 1) := wt_op4 wb606lawc0_code_c15 19 rfl rfl
theorem wld_443 : decode code 443 = .ok (.iadd, 1) := wt_op96 wb606lawc0_code_c15 20 rfl rfl
theorem wld_444 : decode code 444 = .ok (.iaload, 1) := wt_op46 wb606lawc0_code_c15 21 rfl rfl
theorem wld_445 : decode code 445 = .ok (.aload_n 0, 1) := wt_op42 wb606lawc0_code_c15 22 rfl rfl
theorem wld_446 : decode code 446 = .ok (.iload 4, 2) := wt_op21 wb606lawc0_code_c15 23 rfl rfl
theorem wld_448 : decode code 448 = .ok (.iconst 2, 1) := wt_op5 wb606lawc0_code_c15 25 rfl rfl
theorem wld_449 : decode code 449 = .ok (.iadd, 1) := wt_op96 wb606lawc0_code_c15 26 rfl rfl
theorem wld_450 : decode code 450 = .ok (.iaload, 1) := wt_op46 wb606lawc0_code_c15 27 rfl rfl
theorem wld_451 : decode code 451 = .ok (.aload_n 0, 1) := wt_op42 wb606lawc0_code_c16 0 rfl rfl
theorem wld_452 : decode code 452 = .ok (.iload 4, 2) := wt_op21 wb606lawc0_code_c16 1 rfl rfl
theorem wld_454 : decode code 454 = .ok (.iconst 3, 1) := wt_op6 wb606lawc0_code_c16 3 rfl rfl
theorem wld_455 : decode code 455 = .ok (.iadd, 1) := wt_op96 wb606lawc0_code_c16 4 rfl rfl
theorem wld_456 : decode code 456 = .ok (.iaload, 1) := wt_op46 wb606lawc0_code_c16 5 rfl rfl
theorem wld_457 : decode code 457 = .ok (.aload_n 3, 1) := wt_op45 wb606lawc0_code_c16 6 rfl rfl
theorem wld_458 : decode code 458 = .ok (.invokestatic 139, 3) := wt_op184 wb606lawc0_code_c16 7 rfl rfl rfl
theorem wld_461 : decode code 461 = .ok (.istore 5, 2) := wt_op54 wb606lawc0_code_c16 10 rfl rfl
theorem wld_463 : decode code 463 = .ok (.aload_n 2, 1) := wt_op44 wb606lawc0_code_c16 12 rfl rfl
theorem wld_464 : decode code 464 = .ok (.aload_n 0, 1) := wt_op42 wb606lawc0_code_c16 13 rfl rfl
theorem wld_465 : decode code 465 = .ok (.iload 4, 2) := wt_op21 wb606lawc0_code_c16 14 rfl rfl
theorem wld_467 : decode code 467 = .ok (.iconst 1, 1) := wt_op4 wb606lawc0_code_c16 16 rfl rfl
theorem wld_468 : decode code 468 = .ok (.iadd, 1) := wt_op96 wb606lawc0_code_c16 17 rfl rfl
theorem wld_469 : decode code 469 = .ok (.iaload, 1) := wt_op46 wb606lawc0_code_c16 18 rfl rfl
theorem wld_470 : decode code 470 = .ok (.aload_n 0, 1) := wt_op42 wb606lawc0_code_c16 19 rfl rfl
theorem wld_471 : decode code 471 = .ok (.iload 4, 2) := wt_op21 wb606lawc0_code_c16 20 rfl rfl
theorem wld_473 : decode code 473 = .ok (.iconst 2, 1) := wt_op5 wb606lawc0_code_c16 22 rfl rfl
theorem wld_474 : decode code 474 = .ok (.iadd, 1) := wt_op96 wb606lawc0_code_c16 23 rfl rfl
theorem wld_475 : decode code 475 = .ok (.iaload, 1) := wt_op46 wb606lawc0_code_c16 24 rfl rfl
theorem wld_476 : decode code 476 = .ok (.aload_n 0, 1) := wt_op42 wb606lawc0_code_c16 25 rfl rfl
theorem wld_477 : decode code 477 = .ok (.iload 4, 2) := wt_op21 wb606lawc0_code_c16 26 rfl rfl
theorem wld_479 : decode code 479 = .ok (.iconst 3, 1) := wt_op6 wb606lawc0_code_c17 0 rfl rfl
theorem wld_480 : decode code 480 = .ok (.iadd, 1) := wt_op96 wb606lawc0_code_c17 1 rfl rfl
theorem wld_481 : decode code 481 = .ok (.iaload, 1) := wt_op46 wb606lawc0_code_c17 2 rfl rfl
theorem wld_482 : decode code 482 = .ok (.invokevirtual 142, 3) := wt_op182 wb606lawc0_code_c17 3 rfl rfl rfl
theorem wld_485 : decode code 485 = .ok (.istore 6, 2) := wt_op54 wb606lawc0_code_c17 6 rfl rfl
theorem wld_487 : decode code 487 = .ok (.goto 940, 3) := wt_op167 wb606lawc0_code_c17 8 rfl rfl rfl
set_option maxRecDepth 100000 in
set_option maxHeartbeats 4000000 in
theorem wl_piece {X : wt_X} {o b L : Nat} {xs : Nat → Int32} {n K : Nat} {Inv : wt_St → Prop} {i : Int32} (hE : wt_OkO X o code 7 "WornTypeLaw" 400 100000) (hdm : ∀ i, wt_dom (wt_xw X) i ↔ i < 321) (hSN : wt_SN (wt_Ao (wt_xw X) o (wt_xs X).heap.size) (wt_xs X) (wt_xs X).heap) (htr : (wt_xl X).stackTraces = false) (hX : wt_scr X o b L xs) (hi : ∀ c : Int32, c = 1 ∨ c = 2 ∨ c = 3 ∨ c = 4 ∨ c = 5 → vp_in (i + c) L) (hK : K + 8 ≤ 100000) (hP : wt_P_piece n Inv) {σ : wt_St} (hσ : Inv σ) (kn : ∀ τ : wt_St, Inv τ → wt_O X o (K + 8) τ 1427 [some (.ref b), some (.ref (wt_ad (wt_xw X) 0)), some (.ref (wt_ad (wt_xw X) 108)), some (.ref o), some (.int i), none, none] []) : wt_O X o K σ 438 [some (.ref b), some (.ref (wt_ad (wt_xw X) 0)), some (.ref (wt_ad (wt_xw X) 108)), some (.ref o), some (.int i), none, none] [] := by
  have hD : ∀ i, i < 108 → wt_dom (wt_xw X) i := fun i hi => (hdm i).mpr (by omega)
  have hM : ∀ i, 108 ≤ i → i < 321 → wt_dom (wt_xw X) i := fun i _ hi => (hdm i).mpr hi
  obtain ⟨q, hq, hx, r, hr, hI⟩ := hP _ (xs (i + (1 : Int32)).toNatClampNeg) (xs (i + (2 : Int32)).toNatClampNeg) (xs (i + (3 : Int32)).toNatClampNeg) hσ
  refine wt_o_aload_n hE wld_438 rfl ?_
  refine wt_o_aload_n hE wld_439 rfl ?_
  refine wt_o_iload hE wld_440 rfl ?_
  refine wt_o_iconst hE (1 : Int32) wld_442 (by decide) ?_
  refine wt_o_iadd hE wld_443 ?_
  refine wt_o_sld hE hX (hi 1 (by decide)) wld_444 ?_
  refine wt_o_aload_n hE wld_445 rfl ?_
  refine wt_o_iload hE wld_446 rfl ?_
  refine wt_o_iconst hE (2 : Int32) wld_448 (by decide) ?_
  refine wt_o_iadd hE wld_449 ?_
  refine wt_o_sld hE hX (hi 2 (by decide)) wld_450 ?_
  refine wt_o_aload_n hE wld_451 rfl ?_
  refine wt_o_iload hE wld_452 rfl ?_
  refine wt_o_iconst hE (3 : Int32) wld_454 (by decide) ?_
  refine wt_o_iadd hE wld_455 ?_
  refine wt_o_sld hE hX (hi 3 (by decide)) wld_456 ?_
  refine wt_o_aload_n hE wld_457 rfl ?_
  refine wt_o_callW hE hSN (k := 5) (dd := 8) (mc := 8) [.ref (wt_ad (wt_xw X) 0), .int (xs (i + (1 : Int32)).toNatClampNeg), .int (xs (i + (2 : Int32)).toNatClampNeg), .int (xs (i + (3 : Int32)).toNatClampNeg), .ref o] (wt_g4 168 rfl rfl) (wt_g4 169 rfl rfl) (wt_g1 0 rfl rfl) wt_cm_piece ⟨by decide, by decide, by decide +kernel⟩ (by decide) (ww_piece_ok htr hE.2.2 hD hq hx) (by decide) rfl rfl (Nat.le_of_ble_eq_true rfl) (by omega) wld_458 (fun w5 => ?_)
  refine wt_o_istore hE [some (.ref b), some (.ref (wt_ad (wt_xw X) 0)), some (.ref (wt_ad (wt_xw X) 108)), some (.ref o), some (.int i), some (.int w5), none] wld_461 (by decide) rfl ?_
  refine wt_o_aload_n hE wld_463 rfl ?_
  refine wt_o_aload_n hE wld_464 rfl ?_
  refine wt_o_iload hE wld_465 rfl ?_
  refine wt_o_iconst hE (1 : Int32) wld_467 (by decide) ?_
  refine wt_o_iadd hE wld_468 ?_
  refine wt_o_sld hE hX (hi 1 (by decide)) wld_469 ?_
  refine wt_o_aload_n hE wld_470 rfl ?_
  refine wt_o_iload hE wld_471 rfl ?_
  refine wt_o_iconst hE (2 : Int32) wld_473 (by decide) ?_
  refine wt_o_iadd hE wld_474 ?_
  refine wt_o_sld hE hX (hi 2 (by decide)) wld_475 ?_
  refine wt_o_aload_n hE wld_476 rfl ?_
  refine wt_o_iload hE wld_477 rfl ?_
  refine wt_o_iconst hE (3 : Int32) wld_479 (by decide) ?_
  refine wt_o_iadd hE wld_480 ?_
  refine wt_o_sld hE hX (hi 3 (by decide)) wld_481 ?_
  refine wt_o_callVi (dd := 2) hE [.int (xs (i + (1 : Int32)).toNatClampNeg), .int (xs (i + (2 : Int32)).toNatClampNeg), .int (xs (i + (3 : Int32)).toNatClampNeg)] wt_lm_lw_142 wt_ya_md_piece (wp_md_piece_ok hM hr) (by decide) (hM 108 (by decide) (by decide)) wt_L108 rfl rfl rfl (Nat.le_of_ble_eq_true rfl) (by omega) wld_482 ?_
  refine wt_o_istore hE [some (.ref b), some (.ref (wt_ad (wt_xw X) 0)), some (.ref (wt_ad (wt_xw X) 108)), some (.ref o), some (.int i), some (.int w5), some (.int r.1)] wld_485 (by decide) rfl ?_
  refine wt_o_goto hE 1427 wld_487 rfl ?_
  exact wt_o_wk [true, true, true, true, true, false, false] rfl (kn _ hI)
theorem wld_490 : decode code 490 = .ok (.aload_n 1, 1) := wt_op43 wb606lawc0_code_c17 11 rfl rfl
theorem wld_491 : decode code 491 = .ok (.aload_n 0, 1) := wt_op42 wb606lawc0_code_c17 12 rfl rfl
theorem wld_492 : decode code 492 = .ok (.iload 4, 2) := wt_op21 wb606lawc0_code_c17 13 rfl rfl
theorem wld_494 : decode code 494 = .ok (.iconst 1, 1) := wt_op4 wb606lawc0_code_c17 15 rfl rfl
theorem wld_495 : decode code 495 = .ok (.iadd, 1) := wt_op96 wb606lawc0_code_c17 16 rfl rfl
theorem wld_496 : decode code 496 = .ok (.iaload, 1) := wt_op46 wb606lawc0_code_c17 17 rfl rfl
theorem wld_497 : decode code 497 = .ok (.aload_n 0, 1) := wt_op42 wb606lawc0_code_c17 18 rfl rfl
theorem wld_498 : decode code 498 = .ok (.iload 4, 2) := wt_op21 wb606lawc0_code_c17 19 rfl rfl
theorem wld_500 : decode code 500 = .ok (.iconst 2, 1) := wt_op5 wb606lawc0_code_c17 21 rfl rfl
theorem wld_501 : decode code 501 = .ok (.iadd, 1) := wt_op96 wb606lawc0_code_c17 22 rfl rfl
theorem wld_502 : decode code 502 = .ok (.iaload, 1) := wt_op46 wb606lawc0_code_c17 23 rfl rfl
theorem wld_503 : decode code 503 = .ok (.aload_n 3, 1) := wt_op45 wb606lawc0_code_c17 24 rfl rfl
theorem wld_504 : decode code 504 = .ok (.invokestatic 143, 3) := wt_op184 wb606lawc0_code_c17 25 rfl rfl rfl
theorem wld_507 : decode code 507 = .ok (.istore 5, 2) := wt_op54 wb606lawc0_code_c18 0 rfl rfl
theorem wld_509 : decode code 509 = .ok (.aload_n 2, 1) := wt_op44 wb606lawc0_code_c18 2 rfl rfl
theorem wld_510 : decode code 510 = .ok (.aload_n 0, 1) := wt_op42 wb606lawc0_code_c18 3 rfl rfl
theorem wld_511 : decode code 511 = .ok (.iload 4, 2) := wt_op21 wb606lawc0_code_c18 4 rfl rfl
theorem wld_513 : decode code 513 = .ok (.iconst 1, 1) := wt_op4 wb606lawc0_code_c18 6 rfl rfl
theorem wld_514 : decode code 514 = .ok (.iadd, 1) := wt_op96 wb606lawc0_code_c18 7 rfl rfl
theorem wld_515 : decode code 515 = .ok (.iaload, 1) := wt_op46 wb606lawc0_code_c18 8 rfl rfl
theorem wld_516 : decode code 516 = .ok (.aload_n 0, 1) := wt_op42 wb606lawc0_code_c18 9 rfl rfl
theorem wld_517 : decode code 517 = .ok (.iload 4, 2) := wt_op21 wb606lawc0_code_c18 10 rfl rfl
theorem wld_519 : decode code 519 = .ok (.iconst 2, 1) := wt_op5 wb606lawc0_code_c18 12 rfl rfl
theorem wld_520 : decode code 520 = .ok (.iadd, 1) := wt_op96 wb606lawc0_code_c18 13 rfl rfl
theorem wld_521 : decode code 521 = .ok (.iaload, 1) := wt_op46 wb606lawc0_code_c18 14 rfl rfl
theorem wld_522 : decode code 522 = .ok (.invokevirtual 145, 3) := wt_op182 wb606lawc0_code_c18 15 rfl rfl rfl
theorem wld_525 : decode code 525 = .ok (.istore 6, 2) := wt_op54 wb606lawc0_code_c18 18 rfl rfl
theorem wld_527 : decode code 527 = .ok (.goto 900, 3) := wt_op167 wb606lawc0_code_c18 20 rfl rfl rfl
set_option maxRecDepth 100000 in
set_option maxHeartbeats 4000000 in
theorem wl_word {X : wt_X} {o b L : Nat} {xs : Nat → Int32} {n K : Nat} {Inv : wt_St → Prop} {i : Int32} (hE : wt_OkO X o code 7 "WornTypeLaw" 400 100000) (hdm : ∀ i, wt_dom (wt_xw X) i ↔ i < 321) (hSN : wt_SN (wt_Ao (wt_xw X) o (wt_xs X).heap.size) (wt_xs X) (wt_xs X).heap) (htr : (wt_xl X).stackTraces = false) (hX : wt_scr X o b L xs) (hi : ∀ c : Int32, c = 1 ∨ c = 2 ∨ c = 3 ∨ c = 4 ∨ c = 5 → vp_in (i + c) L) (hK : K + 8 ≤ 100000) (hP : wt_P_word n Inv) {σ : wt_St} (hσ : Inv σ) (kn : ∀ τ : wt_St, Inv τ → wt_O X o (K + 8) τ 1427 [some (.ref b), some (.ref (wt_ad (wt_xw X) 0)), some (.ref (wt_ad (wt_xw X) 108)), some (.ref o), some (.int i), none, none] []) : wt_O X o K σ 490 [some (.ref b), some (.ref (wt_ad (wt_xw X) 0)), some (.ref (wt_ad (wt_xw X) 108)), some (.ref o), some (.int i), none, none] [] := by
  have hD : ∀ i, i < 108 → wt_dom (wt_xw X) i := fun i hi => (hdm i).mpr (by omega)
  have hM : ∀ i, 108 ≤ i → i < 321 → wt_dom (wt_xw X) i := fun i _ hi => (hdm i).mpr hi
  obtain ⟨q, hq, hx, r, hr, hI⟩ := hP _ (xs (i + (1 : Int32)).toNatClampNeg) (xs (i + (2 : Int32)).toNatClampNeg) hσ
  refine wt_o_aload_n hE wld_490 rfl ?_
  refine wt_o_aload_n hE wld_491 rfl ?_
  refine wt_o_iload hE wld_492 rfl ?_
  refine wt_o_iconst hE (1 : Int32) wld_494 (by decide) ?_
  refine wt_o_iadd hE wld_495 ?_
  refine wt_o_sld hE hX (hi 1 (by decide)) wld_496 ?_
  refine wt_o_aload_n hE wld_497 rfl ?_
  refine wt_o_iload hE wld_498 rfl ?_
  refine wt_o_iconst hE (2 : Int32) wld_500 (by decide) ?_
  refine wt_o_iadd hE wld_501 ?_
  refine wt_o_sld hE hX (hi 2 (by decide)) wld_502 ?_
  refine wt_o_aload_n hE wld_503 rfl ?_
  refine wt_o_callW hE hSN (k := 4) (dd := 8) (mc := 8) [.ref (wt_ad (wt_xw X) 0), .int (xs (i + (1 : Int32)).toNatClampNeg), .int (xs (i + (2 : Int32)).toNatClampNeg), .ref o] (wt_g4 192 rfl rfl) (wt_g4 193 rfl rfl) (wt_g1 0 rfl rfl) wt_cm_word ⟨by decide, by decide, by decide +kernel⟩ (by decide) (ww_word_ok htr hE.2.2 hD hq hx) (by decide) rfl rfl (Nat.le_of_ble_eq_true rfl) (by omega) wld_504 (fun w5 => ?_)
  refine wt_o_istore hE [some (.ref b), some (.ref (wt_ad (wt_xw X) 0)), some (.ref (wt_ad (wt_xw X) 108)), some (.ref o), some (.int i), some (.int w5), none] wld_507 (by decide) rfl ?_
  refine wt_o_aload_n hE wld_509 rfl ?_
  refine wt_o_aload_n hE wld_510 rfl ?_
  refine wt_o_iload hE wld_511 rfl ?_
  refine wt_o_iconst hE (1 : Int32) wld_513 (by decide) ?_
  refine wt_o_iadd hE wld_514 ?_
  refine wt_o_sld hE hX (hi 1 (by decide)) wld_515 ?_
  refine wt_o_aload_n hE wld_516 rfl ?_
  refine wt_o_iload hE wld_517 rfl ?_
  refine wt_o_iconst hE (2 : Int32) wld_519 (by decide) ?_
  refine wt_o_iadd hE wld_520 ?_
  refine wt_o_sld hE hX (hi 2 (by decide)) wld_521 ?_
  refine wt_o_callVi (dd := 5) hE [.int (xs (i + (1 : Int32)).toNatClampNeg), .int (xs (i + (2 : Int32)).toNatClampNeg)] wt_lm_lw_145 wt_ya_md_word (wp_md_word_ok hM hr) (by decide) (hM 108 (by decide) (by decide)) wt_L108 rfl rfl rfl (Nat.le_of_ble_eq_true rfl) (by omega) wld_522 ?_
  refine wt_o_istore hE [some (.ref b), some (.ref (wt_ad (wt_xw X) 0)), some (.ref (wt_ad (wt_xw X) 108)), some (.ref o), some (.int i), some (.int w5), some (.int r.1)] wld_525 (by decide) rfl ?_
  refine wt_o_goto hE 1427 wld_527 rfl ?_
  exact wt_o_wk [true, true, true, true, true, false, false] rfl (kn _ hI)
theorem wld_530 : decode code 530 = .ok (.aload_n 1, 1) := wt_op43 wb606lawc0_code_c18 23 rfl rfl
theorem wld_531 : decode code 531 = .ok (.aload_n 0, 1) := wt_op42 wb606lawc0_code_c18 24 rfl rfl
theorem wld_532 : decode code 532 = .ok (.iload 4, 2) := wt_op21 wb606lawc0_code_c18 25 rfl rfl
theorem wld_534 : decode code 534 = .ok (.iconst 1, 1) := wt_op4 wb606lawc0_code_c18 27 rfl rfl
theorem wld_535 : decode code 535 = .ok (.iadd, 1) := wt_op96 wb606lawc0_code_c19 0 rfl rfl
theorem wld_536 : decode code 536 = .ok (.iaload, 1) := wt_op46 wb606lawc0_code_c19 1 rfl rfl
theorem wld_537 : decode code 537 = .ok (.aload_n 0, 1) := wt_op42 wb606lawc0_code_c19 2 rfl rfl
theorem wld_538 : decode code 538 = .ok (.iload 4, 2) := wt_op21 wb606lawc0_code_c19 3 rfl rfl
theorem wld_540 : decode code 540 = .ok (.iconst 2, 1) := wt_op5 wb606lawc0_code_c19 5 rfl rfl
theorem wld_541 : decode code 541 = .ok (.iadd, 1) := wt_op96 wb606lawc0_code_c19 6 rfl rfl
theorem wld_542 : decode code 542 = .ok (.iaload, 1) := wt_op46 wb606lawc0_code_c19 7 rfl rfl
theorem wld_543 : decode code 543 = .ok (.aload_n 3, 1) := wt_op45 wb606lawc0_code_c19 8 rfl rfl
theorem wld_544 : decode code 544 = .ok (.invokestatic 146, 3) := wt_op184 wb606lawc0_code_c19 9 rfl rfl rfl
theorem wld_547 : decode code 547 = .ok (.istore 5, 2) := wt_op54 wb606lawc0_code_c19 12 rfl rfl
theorem wld_549 : decode code 549 = .ok (.aload_n 2, 1) := wt_op44 wb606lawc0_code_c19 14 rfl rfl
theorem wld_550 : decode code 550 = .ok (.aload_n 0, 1) := wt_op42 wb606lawc0_code_c19 15 rfl rfl
theorem wld_551 : decode code 551 = .ok (.iload 4, 2) := wt_op21 wb606lawc0_code_c19 16 rfl rfl
theorem wld_553 : decode code 553 = .ok (.iconst 1, 1) := wt_op4 wb606lawc0_code_c19 18 rfl rfl
theorem wld_554 : decode code 554 = .ok (.iadd, 1) := wt_op96 wb606lawc0_code_c19 19 rfl rfl
theorem wld_555 : decode code 555 = .ok (.iaload, 1) := wt_op46 wb606lawc0_code_c19 20 rfl rfl
theorem wld_556 : decode code 556 = .ok (.aload_n 0, 1) := wt_op42 wb606lawc0_code_c19 21 rfl rfl
theorem wld_557 : decode code 557 = .ok (.iload 4, 2) := wt_op21 wb606lawc0_code_c19 22 rfl rfl
theorem wld_559 : decode code 559 = .ok (.iconst 2, 1) := wt_op5 wb606lawc0_code_c19 24 rfl rfl
theorem wld_560 : decode code 560 = .ok (.iadd, 1) := wt_op96 wb606lawc0_code_c19 25 rfl rfl
theorem wld_561 : decode code 561 = .ok (.iaload, 1) := wt_op46 wb606lawc0_code_c19 26 rfl rfl
theorem wld_562 : decode code 562 = .ok (.invokevirtual 148, 3) := wt_op182 wb606lawc0_code_c19 27 rfl rfl rfl
theorem wld_565 : decode code 565 = .ok (.istore 6, 2) := wt_op54 wb606lawc0_code_c20 0 rfl rfl
theorem wld_567 : decode code 567 = .ok (.goto 860, 3) := wt_op167 wb606lawc0_code_c20 2 rfl rfl rfl
set_option maxRecDepth 100000 in
set_option maxHeartbeats 4000000 in
theorem wl_at {X : wt_X} {o b L : Nat} {xs : Nat → Int32} {n K : Nat} {Inv : wt_St → Prop} {i : Int32} (hE : wt_OkO X o code 7 "WornTypeLaw" 400 100000) (hdm : ∀ i, wt_dom (wt_xw X) i ↔ i < 321) (hSN : wt_SN (wt_Ao (wt_xw X) o (wt_xs X).heap.size) (wt_xs X) (wt_xs X).heap) (htr : (wt_xl X).stackTraces = false) (hX : wt_scr X o b L xs) (hi : ∀ c : Int32, c = 1 ∨ c = 2 ∨ c = 3 ∨ c = 4 ∨ c = 5 → vp_in (i + c) L) (hK : K + 8 ≤ 100000) (hP : wt_P_at n Inv) {σ : wt_St} (hσ : Inv σ) (kn : ∀ τ : wt_St, Inv τ → wt_O X o (K + 8) τ 1427 [some (.ref b), some (.ref (wt_ad (wt_xw X) 0)), some (.ref (wt_ad (wt_xw X) 108)), some (.ref o), some (.int i), none, none] []) : wt_O X o K σ 530 [some (.ref b), some (.ref (wt_ad (wt_xw X) 0)), some (.ref (wt_ad (wt_xw X) 108)), some (.ref o), some (.int i), none, none] [] := by
  have hD : ∀ i, i < 108 → wt_dom (wt_xw X) i := fun i hi => (hdm i).mpr (by omega)
  have hM : ∀ i, 108 ≤ i → i < 321 → wt_dom (wt_xw X) i := fun i _ hi => (hdm i).mpr hi
  obtain ⟨q, hq, hx, r, hr, hI⟩ := hP _ (xs (i + (1 : Int32)).toNatClampNeg) (xs (i + (2 : Int32)).toNatClampNeg) hσ
  refine wt_o_aload_n hE wld_530 rfl ?_
  refine wt_o_aload_n hE wld_531 rfl ?_
  refine wt_o_iload hE wld_532 rfl ?_
  refine wt_o_iconst hE (1 : Int32) wld_534 (by decide) ?_
  refine wt_o_iadd hE wld_535 ?_
  refine wt_o_sld hE hX (hi 1 (by decide)) wld_536 ?_
  refine wt_o_aload_n hE wld_537 rfl ?_
  refine wt_o_iload hE wld_538 rfl ?_
  refine wt_o_iconst hE (2 : Int32) wld_540 (by decide) ?_
  refine wt_o_iadd hE wld_541 ?_
  refine wt_o_sld hE hX (hi 2 (by decide)) wld_542 ?_
  refine wt_o_aload_n hE wld_543 rfl ?_
  refine wt_o_callW hE hSN (k := 4) (dd := 8) (mc := 8) [.ref (wt_ad (wt_xw X) 0), .int (xs (i + (1 : Int32)).toNatClampNeg), .int (xs (i + (2 : Int32)).toNatClampNeg), .ref o] (wt_g5 6 rfl rfl) (wt_g5 7 rfl rfl) (wt_g1 0 rfl rfl) wt_cm_at ⟨by decide, by decide, by decide +kernel⟩ (by decide) (ww_at_ok htr hE.2.2 hD hq hx) (by decide) rfl rfl (Nat.le_of_ble_eq_true rfl) (by omega) wld_544 (fun w5 => ?_)
  refine wt_o_istore hE [some (.ref b), some (.ref (wt_ad (wt_xw X) 0)), some (.ref (wt_ad (wt_xw X) 108)), some (.ref o), some (.int i), some (.int w5), none] wld_547 (by decide) rfl ?_
  refine wt_o_aload_n hE wld_549 rfl ?_
  refine wt_o_aload_n hE wld_550 rfl ?_
  refine wt_o_iload hE wld_551 rfl ?_
  refine wt_o_iconst hE (1 : Int32) wld_553 (by decide) ?_
  refine wt_o_iadd hE wld_554 ?_
  refine wt_o_sld hE hX (hi 1 (by decide)) wld_555 ?_
  refine wt_o_aload_n hE wld_556 rfl ?_
  refine wt_o_iload hE wld_557 rfl ?_
  refine wt_o_iconst hE (2 : Int32) wld_559 (by decide) ?_
  refine wt_o_iadd hE wld_560 ?_
  refine wt_o_sld hE hX (hi 2 (by decide)) wld_561 ?_
  refine wt_o_callVi (dd := 2) hE [.int (xs (i + (1 : Int32)).toNatClampNeg), .int (xs (i + (2 : Int32)).toNatClampNeg)] wt_lm_lw_148 wt_ya_md_at (wp_md_at_ok hM hr) (by decide) (hM 108 (by decide) (by decide)) wt_L108 rfl rfl rfl (Nat.le_of_ble_eq_true rfl) (by omega) wld_562 ?_
  refine wt_o_istore hE [some (.ref b), some (.ref (wt_ad (wt_xw X) 0)), some (.ref (wt_ad (wt_xw X) 108)), some (.ref o), some (.int i), some (.int w5), some (.int r.1)] wld_565 (by decide) rfl ?_
  refine wt_o_goto hE 1427 wld_567 rfl ?_
  exact wt_o_wk [true, true, true, true, true, false, false] rfl (kn _ hI)
theorem wld_570 : decode code 570 = .ok (.aload_n 1, 1) := wt_op43 wb606lawc0_code_c20 5 rfl rfl
theorem wld_571 : decode code 571 = .ok (.aload_n 0, 1) := wt_op42 wb606lawc0_code_c20 6 rfl rfl
theorem wld_572 : decode code 572 = .ok (.iload 4, 2) := wt_op21 wb606lawc0_code_c20 7 rfl rfl
theorem wld_574 : decode code 574 = .ok (.iconst 1, 1) := wt_op4 wb606lawc0_code_c20 9 rfl rfl
theorem wld_575 : decode code 575 = .ok (.iadd, 1) := wt_op96 wb606lawc0_code_c20 10 rfl rfl
theorem wld_576 : decode code 576 = .ok (.iaload, 1) := wt_op46 wb606lawc0_code_c20 11 rfl rfl
theorem wld_577 : decode code 577 = .ok (.aload_n 0, 1) := wt_op42 wb606lawc0_code_c20 12 rfl rfl
theorem wld_578 : decode code 578 = .ok (.iload 4, 2) := wt_op21 wb606lawc0_code_c20 13 rfl rfl
theorem wld_580 : decode code 580 = .ok (.iconst 2, 1) := wt_op5 wb606lawc0_code_c20 15 rfl rfl
theorem wld_581 : decode code 581 = .ok (.iadd, 1) := wt_op96 wb606lawc0_code_c20 16 rfl rfl
theorem wld_582 : decode code 582 = .ok (.iaload, 1) := wt_op46 wb606lawc0_code_c20 17 rfl rfl
theorem wld_583 : decode code 583 = .ok (.aload_n 3, 1) := wt_op45 wb606lawc0_code_c20 18 rfl rfl
theorem wld_584 : decode code 584 = .ok (.invokestatic 149, 3) := wt_op184 wb606lawc0_code_c20 19 rfl rfl rfl
theorem wld_587 : decode code 587 = .ok (.istore 5, 2) := wt_op54 wb606lawc0_code_c20 22 rfl rfl
theorem wld_589 : decode code 589 = .ok (.aload_n 2, 1) := wt_op44 wb606lawc0_code_c20 24 rfl rfl
theorem wld_590 : decode code 590 = .ok (.aload_n 0, 1) := wt_op42 wb606lawc0_code_c20 25 rfl rfl
theorem wld_591 : decode code 591 = .ok (.iload 4, 2) := wt_op21 wb606lawc0_code_c20 26 rfl rfl
theorem wld_593 : decode code 593 = .ok (.iconst 1, 1) := wt_op4 wb606lawc0_code_c21 0 rfl rfl
theorem wld_594 : decode code 594 = .ok (.iadd, 1) := wt_op96 wb606lawc0_code_c21 1 rfl rfl
theorem wld_595 : decode code 595 = .ok (.iaload, 1) := wt_op46 wb606lawc0_code_c21 2 rfl rfl
theorem wld_596 : decode code 596 = .ok (.aload_n 0, 1) := wt_op42 wb606lawc0_code_c21 3 rfl rfl
theorem wld_597 : decode code 597 = .ok (.iload 4, 2) := wt_op21 wb606lawc0_code_c21 4 rfl rfl
theorem wld_599 : decode code 599 = .ok (.iconst 2, 1) := wt_op5 wb606lawc0_code_c21 6 rfl rfl
theorem wld_600 : decode code 600 = .ok (.iadd, 1) := wt_op96 wb606lawc0_code_c21 7 rfl rfl
theorem wld_601 : decode code 601 = .ok (.iaload, 1) := wt_op46 wb606lawc0_code_c21 8 rfl rfl
theorem wld_602 : decode code 602 = .ok (.invokevirtual 151, 3) := wt_op182 wb606lawc0_code_c21 9 rfl rfl rfl
theorem wld_605 : decode code 605 = .ok (.istore 6, 2) := wt_op54 wb606lawc0_code_c21 12 rfl rfl
theorem wld_607 : decode code 607 = .ok (.goto 820, 3) := wt_op167 wb606lawc0_code_c21 14 rfl rfl rfl
set_option maxRecDepth 100000 in
set_option maxHeartbeats 4000000 in
theorem wl_needs {X : wt_X} {o b L : Nat} {xs : Nat → Int32} {n K : Nat} {Inv : wt_St → Prop} {i : Int32} (hE : wt_OkO X o code 7 "WornTypeLaw" 400 100000) (hdm : ∀ i, wt_dom (wt_xw X) i ↔ i < 321) (hSN : wt_SN (wt_Ao (wt_xw X) o (wt_xs X).heap.size) (wt_xs X) (wt_xs X).heap) (htr : (wt_xl X).stackTraces = false) (hX : wt_scr X o b L xs) (hi : ∀ c : Int32, c = 1 ∨ c = 2 ∨ c = 3 ∨ c = 4 ∨ c = 5 → vp_in (i + c) L) (hK : K + 8 ≤ 100000) (hP : wt_P_needs n Inv) {σ : wt_St} (hσ : Inv σ) (kn : ∀ τ : wt_St, Inv τ → wt_O X o (K + 8) τ 1427 [some (.ref b), some (.ref (wt_ad (wt_xw X) 0)), some (.ref (wt_ad (wt_xw X) 108)), some (.ref o), some (.int i), none, none] []) : wt_O X o K σ 570 [some (.ref b), some (.ref (wt_ad (wt_xw X) 0)), some (.ref (wt_ad (wt_xw X) 108)), some (.ref o), some (.int i), none, none] [] := by
  have hD : ∀ i, i < 108 → wt_dom (wt_xw X) i := fun i hi => (hdm i).mpr (by omega)
  have hM : ∀ i, 108 ≤ i → i < 321 → wt_dom (wt_xw X) i := fun i _ hi => (hdm i).mpr hi
  obtain ⟨q, hq, hx, r, hr, hI⟩ := hP _ (xs (i + (1 : Int32)).toNatClampNeg) (xs (i + (2 : Int32)).toNatClampNeg) hσ
  refine wt_o_aload_n hE wld_570 rfl ?_
  refine wt_o_aload_n hE wld_571 rfl ?_
  refine wt_o_iload hE wld_572 rfl ?_
  refine wt_o_iconst hE (1 : Int32) wld_574 (by decide) ?_
  refine wt_o_iadd hE wld_575 ?_
  refine wt_o_sld hE hX (hi 1 (by decide)) wld_576 ?_
  refine wt_o_aload_n hE wld_577 rfl ?_
  refine wt_o_iload hE wld_578 rfl ?_
  refine wt_o_iconst hE (2 : Int32) wld_580 (by decide) ?_
  refine wt_o_iadd hE wld_581 ?_
  refine wt_o_sld hE hX (hi 2 (by decide)) wld_582 ?_
  refine wt_o_aload_n hE wld_583 rfl ?_
  refine wt_o_callW hE hSN (k := 4) (dd := 8) (mc := 8) [.ref (wt_ad (wt_xw X) 0), .int (xs (i + (1 : Int32)).toNatClampNeg), .int (xs (i + (2 : Int32)).toNatClampNeg), .ref o] (wt_g5 25 rfl rfl) (wt_g5 26 rfl rfl) (wt_g1 0 rfl rfl) wt_cm_needs ⟨by decide, by decide, by decide +kernel⟩ (by decide) (ww_needs_ok htr hE.2.2 hD hq hx) (by decide) rfl rfl (Nat.le_of_ble_eq_true rfl) (by omega) wld_584 (fun w5 => ?_)
  refine wt_o_istore hE [some (.ref b), some (.ref (wt_ad (wt_xw X) 0)), some (.ref (wt_ad (wt_xw X) 108)), some (.ref o), some (.int i), some (.int w5), none] wld_587 (by decide) rfl ?_
  refine wt_o_aload_n hE wld_589 rfl ?_
  refine wt_o_aload_n hE wld_590 rfl ?_
  refine wt_o_iload hE wld_591 rfl ?_
  refine wt_o_iconst hE (1 : Int32) wld_593 (by decide) ?_
  refine wt_o_iadd hE wld_594 ?_
  refine wt_o_sld hE hX (hi 1 (by decide)) wld_595 ?_
  refine wt_o_aload_n hE wld_596 rfl ?_
  refine wt_o_iload hE wld_597 rfl ?_
  refine wt_o_iconst hE (2 : Int32) wld_599 (by decide) ?_
  refine wt_o_iadd hE wld_600 ?_
  refine wt_o_sld hE hX (hi 2 (by decide)) wld_601 ?_
  refine wt_o_callVi (dd := 2) hE [.int (xs (i + (1 : Int32)).toNatClampNeg), .int (xs (i + (2 : Int32)).toNatClampNeg)] wt_lm_lw_151 wt_ya_md_needs (wp_md_needs_ok hM hr) (by decide) (hM 108 (by decide) (by decide)) wt_L108 rfl rfl rfl (Nat.le_of_ble_eq_true rfl) (by omega) wld_602 ?_
  refine wt_o_istore hE [some (.ref b), some (.ref (wt_ad (wt_xw X) 0)), some (.ref (wt_ad (wt_xw X) 108)), some (.ref o), some (.int i), some (.int w5), some (.int r.1)] wld_605 (by decide) rfl ?_
  refine wt_o_goto hE 1427 wld_607 rfl ?_
  exact wt_o_wk [true, true, true, true, true, false, false] rfl (kn _ hI)
theorem wld_610 : decode code 610 = .ok (.aload_n 1, 1) := wt_op43 wb606lawc0_code_c21 17 rfl rfl
theorem wld_611 : decode code 611 = .ok (.aload_n 0, 1) := wt_op42 wb606lawc0_code_c21 18 rfl rfl
theorem wld_612 : decode code 612 = .ok (.iload 4, 2) := wt_op21 wb606lawc0_code_c21 19 rfl rfl
theorem wld_614 : decode code 614 = .ok (.iconst 1, 1) := wt_op4 wb606lawc0_code_c21 21 rfl rfl
theorem wld_615 : decode code 615 = .ok (.iadd, 1) := wt_op96 wb606lawc0_code_c21 22 rfl rfl
theorem wld_616 : decode code 616 = .ok (.iaload, 1) := wt_op46 wb606lawc0_code_c21 23 rfl rfl
theorem wld_617 : decode code 617 = .ok (.aload_n 3, 1) := wt_op45 wb606lawc0_code_c21 24 rfl rfl
theorem wld_618 : decode code 618 = .ok (.invokestatic 152, 3) := wt_op184 wb606lawc0_code_c21 25 rfl rfl rfl
theorem wld_621 : decode code 621 = .ok (.istore 5, 2) := wt_op54 wb606lawc0_code_c22 0 rfl rfl
theorem wld_623 : decode code 623 = .ok (.aload_n 2, 1) := wt_op44 wb606lawc0_code_c22 2 rfl rfl
theorem wld_624 : decode code 624 = .ok (.aload_n 0, 1) := wt_op42 wb606lawc0_code_c22 3 rfl rfl
theorem wld_625 : decode code 625 = .ok (.iload 4, 2) := wt_op21 wb606lawc0_code_c22 4 rfl rfl
theorem wld_627 : decode code 627 = .ok (.iconst 1, 1) := wt_op4 wb606lawc0_code_c22 6 rfl rfl
theorem wld_628 : decode code 628 = .ok (.iadd, 1) := wt_op96 wb606lawc0_code_c22 7 rfl rfl
theorem wld_629 : decode code 629 = .ok (.iaload, 1) := wt_op46 wb606lawc0_code_c22 8 rfl rfl
theorem wld_630 : decode code 630 = .ok (.invokevirtual 154, 3) := wt_op182 wb606lawc0_code_c22 9 rfl rfl rfl
theorem wld_633 : decode code 633 = .ok (.istore 6, 2) := wt_op54 wb606lawc0_code_c22 12 rfl rfl
theorem wld_635 : decode code 635 = .ok (.goto 792, 3) := wt_op167 wb606lawc0_code_c22 14 rfl rfl rfl
set_option maxRecDepth 100000 in
set_option maxHeartbeats 4000000 in
theorem wl_habit {X : wt_X} {o b L : Nat} {xs : Nat → Int32} {n K : Nat} {Inv : wt_St → Prop} {i : Int32} (hE : wt_OkO X o code 7 "WornTypeLaw" 400 100000) (hdm : ∀ i, wt_dom (wt_xw X) i ↔ i < 321) (hSN : wt_SN (wt_Ao (wt_xw X) o (wt_xs X).heap.size) (wt_xs X) (wt_xs X).heap) (htr : (wt_xl X).stackTraces = false) (hX : wt_scr X o b L xs) (hi : ∀ c : Int32, c = 1 ∨ c = 2 ∨ c = 3 ∨ c = 4 ∨ c = 5 → vp_in (i + c) L) (hK : K + 8 ≤ 100000) (hP : wt_P_habit n Inv) {σ : wt_St} (hσ : Inv σ) (kn : ∀ τ : wt_St, Inv τ → wt_O X o (K + 8) τ 1427 [some (.ref b), some (.ref (wt_ad (wt_xw X) 0)), some (.ref (wt_ad (wt_xw X) 108)), some (.ref o), some (.int i), none, none] []) : wt_O X o K σ 610 [some (.ref b), some (.ref (wt_ad (wt_xw X) 0)), some (.ref (wt_ad (wt_xw X) 108)), some (.ref o), some (.int i), none, none] [] := by
  have hD : ∀ i, i < 108 → wt_dom (wt_xw X) i := fun i hi => (hdm i).mpr (by omega)
  have hM : ∀ i, 108 ≤ i → i < 321 → wt_dom (wt_xw X) i := fun i _ hi => (hdm i).mpr hi
  obtain ⟨q, hq, hx, r, hr, hI⟩ := hP _ (xs (i + (1 : Int32)).toNatClampNeg) hσ
  refine wt_o_aload_n hE wld_610 rfl ?_
  refine wt_o_aload_n hE wld_611 rfl ?_
  refine wt_o_iload hE wld_612 rfl ?_
  refine wt_o_iconst hE (1 : Int32) wld_614 (by decide) ?_
  refine wt_o_iadd hE wld_615 ?_
  refine wt_o_sld hE hX (hi 1 (by decide)) wld_616 ?_
  refine wt_o_aload_n hE wld_617 rfl ?_
  refine wt_o_callW hE hSN (k := 3) (dd := 8) (mc := 8) [.ref (wt_ad (wt_xw X) 0), .int (xs (i + (1 : Int32)).toNatClampNeg), .ref o] (wt_g5 33 rfl rfl) (wt_g5 34 rfl rfl) (wt_g1 0 rfl rfl) wt_cm_habit ⟨by decide, by decide, by decide +kernel⟩ (by decide) (ww_habit_ok htr hE.2.2 hD hq hx) (by decide) rfl rfl (Nat.le_of_ble_eq_true rfl) (by omega) wld_618 (fun w5 => ?_)
  refine wt_o_istore hE [some (.ref b), some (.ref (wt_ad (wt_xw X) 0)), some (.ref (wt_ad (wt_xw X) 108)), some (.ref o), some (.int i), some (.int w5), none] wld_621 (by decide) rfl ?_
  refine wt_o_aload_n hE wld_623 rfl ?_
  refine wt_o_aload_n hE wld_624 rfl ?_
  refine wt_o_iload hE wld_625 rfl ?_
  refine wt_o_iconst hE (1 : Int32) wld_627 (by decide) ?_
  refine wt_o_iadd hE wld_628 ?_
  refine wt_o_sld hE hX (hi 1 (by decide)) wld_629 ?_
  refine wt_o_callVi (dd := 1) hE [.int (xs (i + (1 : Int32)).toNatClampNeg)] wt_lm_lw_154 wt_ya_md_habit (wp_md_habit_ok hM hr) (by decide) (hM 108 (by decide) (by decide)) wt_L108 rfl rfl rfl (Nat.le_of_ble_eq_true rfl) (by omega) wld_630 ?_
  refine wt_o_istore hE [some (.ref b), some (.ref (wt_ad (wt_xw X) 0)), some (.ref (wt_ad (wt_xw X) 108)), some (.ref o), some (.int i), some (.int w5), some (.int r.1)] wld_633 (by decide) rfl ?_
  refine wt_o_goto hE 1427 wld_635 rfl ?_
  exact wt_o_wk [true, true, true, true, true, false, false] rfl (kn _ hI)
theorem wld_638 : decode code 638 = .ok (.aload_n 1, 1) := wt_op43 wb606lawc0_code_c22 17 rfl rfl
theorem wld_639 : decode code 639 = .ok (.aload_n 0, 1) := wt_op42 wb606lawc0_code_c22 18 rfl rfl
theorem wld_640 : decode code 640 = .ok (.iload 4, 2) := wt_op21 wb606lawc0_code_c22 19 rfl rfl
theorem wld_642 : decode code 642 = .ok (.iconst 1, 1) := wt_op4 wb606lawc0_code_c22 21 rfl rfl
theorem wld_643 : decode code 643 = .ok (.iadd, 1) := wt_op96 wb606lawc0_code_c22 22 rfl rfl
theorem wld_644 : decode code 644 = .ok (.iaload, 1) := wt_op46 wb606lawc0_code_c22 23 rfl rfl
theorem wld_645 : decode code 645 = .ok (.aload_n 3, 1) := wt_op45 wb606lawc0_code_c22 24 rfl rfl
theorem wld_646 : decode code 646 = .ok (.invokestatic 155, 3) := wt_op184 wb606lawc0_code_c22 25 rfl rfl rfl
theorem wld_649 : decode code 649 = .ok (.istore 5, 2) := wt_op54 wb606lawc0_code_c23 0 rfl rfl
theorem wld_651 : decode code 651 = .ok (.aload_n 2, 1) := wt_op44 wb606lawc0_code_c23 2 rfl rfl
theorem wld_652 : decode code 652 = .ok (.aload_n 0, 1) := wt_op42 wb606lawc0_code_c23 3 rfl rfl
theorem wld_653 : decode code 653 = .ok (.iload 4, 2) := wt_op21 wb606lawc0_code_c23 4 rfl rfl
theorem wld_655 : decode code 655 = .ok (.iconst 1, 1) := wt_op4 wb606lawc0_code_c23 6 rfl rfl
theorem wld_656 : decode code 656 = .ok (.iadd, 1) := wt_op96 wb606lawc0_code_c23 7 rfl rfl
theorem wld_657 : decode code 657 = .ok (.iaload, 1) := wt_op46 wb606lawc0_code_c23 8 rfl rfl
theorem wld_658 : decode code 658 = .ok (.invokevirtual 157, 3) := wt_op182 wb606lawc0_code_c23 9 rfl rfl rfl
theorem wld_661 : decode code 661 = .ok (.istore 6, 2) := wt_op54 wb606lawc0_code_c23 12 rfl rfl
theorem wld_663 : decode code 663 = .ok (.goto 764, 3) := wt_op167 wb606lawc0_code_c23 14 rfl rfl rfl
set_option maxRecDepth 100000 in
set_option maxHeartbeats 4000000 in
theorem wl_can {X : wt_X} {o b L : Nat} {xs : Nat → Int32} {n K : Nat} {Inv : wt_St → Prop} {i : Int32} (hE : wt_OkO X o code 7 "WornTypeLaw" 400 100000) (hdm : ∀ i, wt_dom (wt_xw X) i ↔ i < 321) (hSN : wt_SN (wt_Ao (wt_xw X) o (wt_xs X).heap.size) (wt_xs X) (wt_xs X).heap) (htr : (wt_xl X).stackTraces = false) (hX : wt_scr X o b L xs) (hi : ∀ c : Int32, c = 1 ∨ c = 2 ∨ c = 3 ∨ c = 4 ∨ c = 5 → vp_in (i + c) L) (hK : K + 8 ≤ 100000) (hP : wt_P_can n Inv) {σ : wt_St} (hσ : Inv σ) (kn : ∀ τ : wt_St, Inv τ → wt_O X o (K + 8) τ 1427 [some (.ref b), some (.ref (wt_ad (wt_xw X) 0)), some (.ref (wt_ad (wt_xw X) 108)), some (.ref o), some (.int i), none, none] []) : wt_O X o K σ 638 [some (.ref b), some (.ref (wt_ad (wt_xw X) 0)), some (.ref (wt_ad (wt_xw X) 108)), some (.ref o), some (.int i), none, none] [] := by
  have hD : ∀ i, i < 108 → wt_dom (wt_xw X) i := fun i hi => (hdm i).mpr (by omega)
  have hM : ∀ i, 108 ≤ i → i < 321 → wt_dom (wt_xw X) i := fun i _ hi => (hdm i).mpr hi
  obtain ⟨q, hq, hx, r, hr, hI⟩ := hP _ (xs (i + (1 : Int32)).toNatClampNeg) hσ
  refine wt_o_aload_n hE wld_638 rfl ?_
  refine wt_o_aload_n hE wld_639 rfl ?_
  refine wt_o_iload hE wld_640 rfl ?_
  refine wt_o_iconst hE (1 : Int32) wld_642 (by decide) ?_
  refine wt_o_iadd hE wld_643 ?_
  refine wt_o_sld hE hX (hi 1 (by decide)) wld_644 ?_
  refine wt_o_aload_n hE wld_645 rfl ?_
  refine wt_o_callW hE hSN (k := 3) (dd := 8) (mc := 8) [.ref (wt_ad (wt_xw X) 0), .int (xs (i + (1 : Int32)).toNatClampNeg), .ref o] (wt_g5 40 rfl rfl) (wt_g5 41 rfl rfl) (wt_g1 0 rfl rfl) wt_cm_can ⟨by decide, by decide, by decide +kernel⟩ (by decide) (ww_can_ok htr hE.2.2 hD hq hx) (by decide) rfl rfl (Nat.le_of_ble_eq_true rfl) (by omega) wld_646 (fun w5 => ?_)
  refine wt_o_istore hE [some (.ref b), some (.ref (wt_ad (wt_xw X) 0)), some (.ref (wt_ad (wt_xw X) 108)), some (.ref o), some (.int i), some (.int w5), none] wld_649 (by decide) rfl ?_
  refine wt_o_aload_n hE wld_651 rfl ?_
  refine wt_o_aload_n hE wld_652 rfl ?_
  refine wt_o_iload hE wld_653 rfl ?_
  refine wt_o_iconst hE (1 : Int32) wld_655 (by decide) ?_
  refine wt_o_iadd hE wld_656 ?_
  refine wt_o_sld hE hX (hi 1 (by decide)) wld_657 ?_
  refine wt_o_callVi (dd := 4) hE [.int (xs (i + (1 : Int32)).toNatClampNeg)] wt_lm_lw_157 wt_ya_md_can (wp_md_can_ok hM hr) (by decide) (hM 108 (by decide) (by decide)) wt_L108 rfl rfl rfl (Nat.le_of_ble_eq_true rfl) (by omega) wld_658 ?_
  refine wt_o_istore hE [some (.ref b), some (.ref (wt_ad (wt_xw X) 0)), some (.ref (wt_ad (wt_xw X) 108)), some (.ref o), some (.int i), some (.int w5), some (.int r.1)] wld_661 (by decide) rfl ?_
  refine wt_o_goto hE 1427 wld_663 rfl ?_
  exact wt_o_wk [true, true, true, true, true, false, false] rfl (kn _ hI)
theorem wld_666 : decode code 666 = .ok (.aload_n 1, 1) := wt_op43 wb606lawc0_code_c23 17 rfl rfl
theorem wld_667 : decode code 667 = .ok (.aload_n 0, 1) := wt_op42 wb606lawc0_code_c23 18 rfl rfl
theorem wld_668 : decode code 668 = .ok (.iload 4, 2) := wt_op21 wb606lawc0_code_c23 19 rfl rfl
theorem wld_670 : decode code 670 = .ok (.iconst 1, 1) := wt_op4 wb606lawc0_code_c23 21 rfl rfl
theorem wld_671 : decode code 671 = .ok (.iadd, 1) := wt_op96 wb606lawc0_code_c23 22 rfl rfl
theorem wld_672 : decode code 672 = .ok (.iaload, 1) := wt_op46 wb606lawc0_code_c23 23 rfl rfl
theorem wld_673 : decode code 673 = .ok (.aload_n 0, 1) := wt_op42 wb606lawc0_code_c23 24 rfl rfl
theorem wld_674 : decode code 674 = .ok (.iload 4, 2) := wt_op21 wb606lawc0_code_c23 25 rfl rfl
theorem wld_676 : decode code 676 = .ok (.iconst 2, 1) := wt_op5 wb606lawc0_code_c23 27 rfl rfl
theorem wld_677 : decode code 677 = .ok (.iadd, 1) := wt_op96 wb606lawc0_code_c24 0 rfl rfl
theorem wld_678 : decode code 678 = .ok (.iaload, 1) := wt_op46 wb606lawc0_code_c24 1 rfl rfl
theorem wld_679 : decode code 679 = .ok (.aload_n 3, 1) := wt_op45 wb606lawc0_code_c24 2 rfl rfl
theorem wld_680 : decode code 680 = .ok (.invokestatic 158, 3) := wt_op184 wb606lawc0_code_c24 3 rfl rfl rfl
theorem wld_683 : decode code 683 = .ok (.istore 5, 2) := wt_op54 wb606lawc0_code_c24 6 rfl rfl
theorem wld_685 : decode code 685 = .ok (.aload_n 2, 1) := wt_op44 wb606lawc0_code_c24 8 rfl rfl
theorem wld_686 : decode code 686 = .ok (.aload_n 0, 1) := wt_op42 wb606lawc0_code_c24 9 rfl rfl
theorem wld_687 : decode code 687 = .ok (.iload 4, 2) := wt_op21 wb606lawc0_code_c24 10 rfl rfl
theorem wld_689 : decode code 689 = .ok (.iconst 1, 1) := wt_op4 wb606lawc0_code_c24 12 rfl rfl
theorem wld_690 : decode code 690 = .ok (.iadd, 1) := wt_op96 wb606lawc0_code_c24 13 rfl rfl
theorem wld_691 : decode code 691 = .ok (.iaload, 1) := wt_op46 wb606lawc0_code_c24 14 rfl rfl
theorem wld_692 : decode code 692 = .ok (.aload_n 0, 1) := wt_op42 wb606lawc0_code_c24 15 rfl rfl
theorem wld_693 : decode code 693 = .ok (.iload 4, 2) := wt_op21 wb606lawc0_code_c24 16 rfl rfl
theorem wld_695 : decode code 695 = .ok (.iconst 2, 1) := wt_op5 wb606lawc0_code_c24 18 rfl rfl
theorem wld_696 : decode code 696 = .ok (.iadd, 1) := wt_op96 wb606lawc0_code_c24 19 rfl rfl
theorem wld_697 : decode code 697 = .ok (.iaload, 1) := wt_op46 wb606lawc0_code_c24 20 rfl rfl
theorem wld_698 : decode code 698 = .ok (.invokevirtual 160, 3) := wt_op182 wb606lawc0_code_c24 21 rfl rfl rfl
theorem wld_701 : decode code 701 = .ok (.istore 6, 2) := wt_op54 wb606lawc0_code_c24 24 rfl rfl
theorem wld_703 : decode code 703 = .ok (.goto 724, 3) := wt_op167 wb606lawc0_code_c24 26 rfl rfl rfl
set_option maxRecDepth 100000 in
set_option maxHeartbeats 4000000 in
theorem wl_lacks {X : wt_X} {o b L : Nat} {xs : Nat → Int32} {n K : Nat} {Inv : wt_St → Prop} {i : Int32} (hE : wt_OkO X o code 7 "WornTypeLaw" 400 100000) (hdm : ∀ i, wt_dom (wt_xw X) i ↔ i < 321) (hSN : wt_SN (wt_Ao (wt_xw X) o (wt_xs X).heap.size) (wt_xs X) (wt_xs X).heap) (htr : (wt_xl X).stackTraces = false) (hX : wt_scr X o b L xs) (hi : ∀ c : Int32, c = 1 ∨ c = 2 ∨ c = 3 ∨ c = 4 ∨ c = 5 → vp_in (i + c) L) (hK : K + 8 ≤ 100000) (hP : wt_P_lacks n Inv) {σ : wt_St} (hσ : Inv σ) (kn : ∀ τ : wt_St, Inv τ → wt_O X o (K + 8) τ 1427 [some (.ref b), some (.ref (wt_ad (wt_xw X) 0)), some (.ref (wt_ad (wt_xw X) 108)), some (.ref o), some (.int i), none, none] []) : wt_O X o K σ 666 [some (.ref b), some (.ref (wt_ad (wt_xw X) 0)), some (.ref (wt_ad (wt_xw X) 108)), some (.ref o), some (.int i), none, none] [] := by
  have hD : ∀ i, i < 108 → wt_dom (wt_xw X) i := fun i hi => (hdm i).mpr (by omega)
  have hM : ∀ i, 108 ≤ i → i < 321 → wt_dom (wt_xw X) i := fun i _ hi => (hdm i).mpr hi
  obtain ⟨q, hq, hx, r, hr, hI⟩ := hP _ (xs (i + (1 : Int32)).toNatClampNeg) (xs (i + (2 : Int32)).toNatClampNeg) hσ
  refine wt_o_aload_n hE wld_666 rfl ?_
  refine wt_o_aload_n hE wld_667 rfl ?_
  refine wt_o_iload hE wld_668 rfl ?_
  refine wt_o_iconst hE (1 : Int32) wld_670 (by decide) ?_
  refine wt_o_iadd hE wld_671 ?_
  refine wt_o_sld hE hX (hi 1 (by decide)) wld_672 ?_
  refine wt_o_aload_n hE wld_673 rfl ?_
  refine wt_o_iload hE wld_674 rfl ?_
  refine wt_o_iconst hE (2 : Int32) wld_676 (by decide) ?_
  refine wt_o_iadd hE wld_677 ?_
  refine wt_o_sld hE hX (hi 2 (by decide)) wld_678 ?_
  refine wt_o_aload_n hE wld_679 rfl ?_
  refine wt_o_callW hE hSN (k := 4) (dd := 9) (mc := 8) [.ref (wt_ad (wt_xw X) 0), .int (xs (i + (1 : Int32)).toNatClampNeg), .int (xs (i + (2 : Int32)).toNatClampNeg), .ref o] (wt_g5 52 rfl rfl) (wt_g5 53 rfl rfl) (wt_g1 0 rfl rfl) wt_cm_lacks ⟨by decide, by decide, by decide +kernel⟩ (by decide) (ww_lacks_ok htr hE.2.2 hD hq hx) (by decide) rfl rfl (Nat.le_of_ble_eq_true rfl) (by omega) wld_680 (fun w5 => ?_)
  refine wt_o_istore hE [some (.ref b), some (.ref (wt_ad (wt_xw X) 0)), some (.ref (wt_ad (wt_xw X) 108)), some (.ref o), some (.int i), some (.int w5), none] wld_683 (by decide) rfl ?_
  refine wt_o_aload_n hE wld_685 rfl ?_
  refine wt_o_aload_n hE wld_686 rfl ?_
  refine wt_o_iload hE wld_687 rfl ?_
  refine wt_o_iconst hE (1 : Int32) wld_689 (by decide) ?_
  refine wt_o_iadd hE wld_690 ?_
  refine wt_o_sld hE hX (hi 1 (by decide)) wld_691 ?_
  refine wt_o_aload_n hE wld_692 rfl ?_
  refine wt_o_iload hE wld_693 rfl ?_
  refine wt_o_iconst hE (2 : Int32) wld_695 (by decide) ?_
  refine wt_o_iadd hE wld_696 ?_
  refine wt_o_sld hE hX (hi 2 (by decide)) wld_697 ?_
  refine wt_o_callVi (dd := 3) hE [.int (xs (i + (1 : Int32)).toNatClampNeg), .int (xs (i + (2 : Int32)).toNatClampNeg)] wt_lm_lw_160 wt_ya_md_lacks (wp_md_lacks_ok hM hr) (by decide) (hM 108 (by decide) (by decide)) wt_L108 rfl rfl rfl (Nat.le_of_ble_eq_true rfl) (by omega) wld_698 ?_
  refine wt_o_istore hE [some (.ref b), some (.ref (wt_ad (wt_xw X) 0)), some (.ref (wt_ad (wt_xw X) 108)), some (.ref o), some (.int i), some (.int w5), some (.int r.1)] wld_701 (by decide) rfl ?_
  refine wt_o_goto hE 1427 wld_703 rfl ?_
  exact wt_o_wk [true, true, true, true, true, false, false] rfl (kn _ hI)
theorem wld_706 : decode code 706 = .ok (.aload_n 1, 1) := wt_op43 wb606lawc0_code_c25 0 rfl rfl
theorem wld_707 : decode code 707 = .ok (.aload_n 0, 1) := wt_op42 wb606lawc0_code_c25 1 rfl rfl
theorem wld_708 : decode code 708 = .ok (.iload 4, 2) := wt_op21 wb606lawc0_code_c25 2 rfl rfl
theorem wld_710 : decode code 710 = .ok (.iconst 1, 1) := wt_op4 wb606lawc0_code_c25 4 rfl rfl
theorem wld_711 : decode code 711 = .ok (.iadd, 1) := wt_op96 wb606lawc0_code_c25 5 rfl rfl
theorem wld_712 : decode code 712 = .ok (.iaload, 1) := wt_op46 wb606lawc0_code_c25 6 rfl rfl
theorem wld_713 : decode code 713 = .ok (.aload_n 0, 1) := wt_op42 wb606lawc0_code_c25 7 rfl rfl
theorem wld_714 : decode code 714 = .ok (.iload 4, 2) := wt_op21 wb606lawc0_code_c25 8 rfl rfl
theorem wld_716 : decode code 716 = .ok (.iconst 2, 1) := wt_op5 wb606lawc0_code_c25 10 rfl rfl
theorem wld_717 : decode code 717 = .ok (.iadd, 1) := wt_op96 wb606lawc0_code_c25 11 rfl rfl
theorem wld_718 : decode code 718 = .ok (.iaload, 1) := wt_op46 wb606lawc0_code_c25 12 rfl rfl
theorem wld_719 : decode code 719 = .ok (.aload_n 3, 1) := wt_op45 wb606lawc0_code_c25 13 rfl rfl
theorem wld_720 : decode code 720 = .ok (.invokestatic 161, 3) := wt_op184 wb606lawc0_code_c25 14 rfl rfl rfl
theorem wld_723 : decode code 723 = .ok (.istore 5, 2) := wt_op54 wb606lawc0_code_c25 17 rfl rfl
theorem wld_725 : decode code 725 = .ok (.aload_n 2, 1) := wt_op44 wb606lawc0_code_c25 19 rfl rfl
theorem wld_726 : decode code 726 = .ok (.aload_n 0, 1) := wt_op42 wb606lawc0_code_c25 20 rfl rfl
theorem wld_727 : decode code 727 = .ok (.iload 4, 2) := wt_op21 wb606lawc0_code_c25 21 rfl rfl
theorem wld_729 : decode code 729 = .ok (.iconst 1, 1) := wt_op4 wb606lawc0_code_c25 23 rfl rfl
theorem wld_730 : decode code 730 = .ok (.iadd, 1) := wt_op96 wb606lawc0_code_c25 24 rfl rfl
theorem wld_731 : decode code 731 = .ok (.iaload, 1) := wt_op46 wb606lawc0_code_c25 25 rfl rfl
theorem wld_732 : decode code 732 = .ok (.aload_n 0, 1) := wt_op42 wb606lawc0_code_c25 26 rfl rfl
theorem wld_733 : decode code 733 = .ok (.iload 4, 2) := wt_op21 wb606lawc0_code_c25 27 rfl rfl
theorem wld_735 : decode code 735 = .ok (.iconst 2, 1) := wt_op5 wb606lawc0_code_c26 0 rfl rfl
theorem wld_736 : decode code 736 = .ok (.iadd, 1) := wt_op96 wb606lawc0_code_c26 1 rfl rfl
theorem wld_737 : decode code 737 = .ok (.iaload, 1) := wt_op46 wb606lawc0_code_c26 2 rfl rfl
theorem wld_738 : decode code 738 = .ok (.invokevirtual 163, 3) := wt_op182 wb606lawc0_code_c26 3 rfl rfl rfl
theorem wld_741 : decode code 741 = .ok (.istore 6, 2) := wt_op54 wb606lawc0_code_c26 6 rfl rfl
theorem wld_743 : decode code 743 = .ok (.goto 684, 3) := wt_op167 wb606lawc0_code_c26 8 rfl rfl rfl
set_option maxRecDepth 100000 in
set_option maxHeartbeats 4000000 in
theorem wl_set {X : wt_X} {o b L : Nat} {xs : Nat → Int32} {n K : Nat} {Inv : wt_St → Prop} {i : Int32} (hE : wt_OkO X o code 7 "WornTypeLaw" 400 100000) (hdm : ∀ i, wt_dom (wt_xw X) i ↔ i < 321) (hSN : wt_SN (wt_Ao (wt_xw X) o (wt_xs X).heap.size) (wt_xs X) (wt_xs X).heap) (htr : (wt_xl X).stackTraces = false) (hX : wt_scr X o b L xs) (hi : ∀ c : Int32, c = 1 ∨ c = 2 ∨ c = 3 ∨ c = 4 ∨ c = 5 → vp_in (i + c) L) (hK : K + 8 ≤ 100000) (hP : wt_P_set n Inv) {σ : wt_St} (hσ : Inv σ) (kn : ∀ τ : wt_St, Inv τ → wt_O X o (K + 8) τ 1427 [some (.ref b), some (.ref (wt_ad (wt_xw X) 0)), some (.ref (wt_ad (wt_xw X) 108)), some (.ref o), some (.int i), none, none] []) : wt_O X o K σ 706 [some (.ref b), some (.ref (wt_ad (wt_xw X) 0)), some (.ref (wt_ad (wt_xw X) 108)), some (.ref o), some (.int i), none, none] [] := by
  have hD : ∀ i, i < 108 → wt_dom (wt_xw X) i := fun i hi => (hdm i).mpr (by omega)
  have hM : ∀ i, 108 ≤ i → i < 321 → wt_dom (wt_xw X) i := fun i _ hi => (hdm i).mpr hi
  obtain ⟨q, hq, hx, r, hr, hI⟩ := hP _ (xs (i + (1 : Int32)).toNatClampNeg) (xs (i + (2 : Int32)).toNatClampNeg) hσ
  refine wt_o_aload_n hE wld_706 rfl ?_
  refine wt_o_aload_n hE wld_707 rfl ?_
  refine wt_o_iload hE wld_708 rfl ?_
  refine wt_o_iconst hE (1 : Int32) wld_710 (by decide) ?_
  refine wt_o_iadd hE wld_711 ?_
  refine wt_o_sld hE hX (hi 1 (by decide)) wld_712 ?_
  refine wt_o_aload_n hE wld_713 rfl ?_
  refine wt_o_iload hE wld_714 rfl ?_
  refine wt_o_iconst hE (2 : Int32) wld_716 (by decide) ?_
  refine wt_o_iadd hE wld_717 ?_
  refine wt_o_sld hE hX (hi 2 (by decide)) wld_718 ?_
  refine wt_o_aload_n hE wld_719 rfl ?_
  refine wt_o_callW hE hSN (k := 4) (dd := 9) (mc := 8) [.ref (wt_ad (wt_xw X) 0), .int (xs (i + (1 : Int32)).toNatClampNeg), .int (xs (i + (2 : Int32)).toNatClampNeg), .ref o] (wt_g5 66 rfl rfl) (wt_g5 67 rfl rfl) (wt_g1 0 rfl rfl) wt_cm_set ⟨by decide, by decide, by decide +kernel⟩ (by decide) (ww_set_ok htr hE.2.2 hD hq hx) (by decide) rfl rfl (Nat.le_of_ble_eq_true rfl) (by omega) wld_720 (fun w5 => ?_)
  refine wt_o_istore hE [some (.ref b), some (.ref (wt_ad (wt_xw X) 0)), some (.ref (wt_ad (wt_xw X) 108)), some (.ref o), some (.int i), some (.int w5), none] wld_723 (by decide) rfl ?_
  refine wt_o_aload_n hE wld_725 rfl ?_
  refine wt_o_aload_n hE wld_726 rfl ?_
  refine wt_o_iload hE wld_727 rfl ?_
  refine wt_o_iconst hE (1 : Int32) wld_729 (by decide) ?_
  refine wt_o_iadd hE wld_730 ?_
  refine wt_o_sld hE hX (hi 1 (by decide)) wld_731 ?_
  refine wt_o_aload_n hE wld_732 rfl ?_
  refine wt_o_iload hE wld_733 rfl ?_
  refine wt_o_iconst hE (2 : Int32) wld_735 (by decide) ?_
  refine wt_o_iadd hE wld_736 ?_
  refine wt_o_sld hE hX (hi 2 (by decide)) wld_737 ?_
  refine wt_o_callVi (dd := 4) hE [.int (xs (i + (1 : Int32)).toNatClampNeg), .int (xs (i + (2 : Int32)).toNatClampNeg)] wt_lm_lw_163 wt_ya_md_set (wp_md_set_ok hM hr) (by decide) (hM 108 (by decide) (by decide)) wt_L108 rfl rfl rfl (Nat.le_of_ble_eq_true rfl) (by omega) wld_738 ?_
  refine wt_o_istore hE [some (.ref b), some (.ref (wt_ad (wt_xw X) 0)), some (.ref (wt_ad (wt_xw X) 108)), some (.ref o), some (.int i), some (.int w5), some (.int r.1)] wld_741 (by decide) rfl ?_
  refine wt_o_goto hE 1427 wld_743 rfl ?_
  exact wt_o_wk [true, true, true, true, true, false, false] rfl (kn _ hI)
theorem wld_746 : decode code 746 = .ok (.aload_n 1, 1) := wt_op43 wb606lawc0_code_c26 11 rfl rfl
theorem wld_747 : decode code 747 = .ok (.aload_n 0, 1) := wt_op42 wb606lawc0_code_c26 12 rfl rfl
theorem wld_748 : decode code 748 = .ok (.iload 4, 2) := wt_op21 wb606lawc0_code_c26 13 rfl rfl
theorem wld_750 : decode code 750 = .ok (.iconst 1, 1) := wt_op4 wb606lawc0_code_c26 15 rfl rfl
theorem wld_751 : decode code 751 = .ok (.iadd, 1) := wt_op96 wb606lawc0_code_c26 16 rfl rfl
theorem wld_752 : decode code 752 = .ok (.iaload, 1) := wt_op46 wb606lawc0_code_c26 17 rfl rfl
theorem wld_753 : decode code 753 = .ok (.aload_n 0, 1) := wt_op42 wb606lawc0_code_c26 18 rfl rfl
theorem wld_754 : decode code 754 = .ok (.iload 4, 2) := wt_op21 wb606lawc0_code_c26 19 rfl rfl
theorem wld_756 : decode code 756 = .ok (.iconst 2, 1) := wt_op5 wb606lawc0_code_c26 21 rfl rfl
theorem wld_757 : decode code 757 = .ok (.iadd, 1) := wt_op96 wb606lawc0_code_c26 22 rfl rfl
theorem wld_758 : decode code 758 = .ok (.iaload, 1) := wt_op46 wb606lawc0_code_c26 23 rfl rfl
theorem wld_759 : decode code 759 = .ok (.aload_n 3, 1) := wt_op45 wb606lawc0_code_c26 24 rfl rfl
theorem wld_760 : decode code 760 = .ok (.invokestatic 164, 3) := wt_op184 wb606lawc0_code_c26 25 rfl rfl rfl
theorem wld_763 : decode code 763 = .ok (.istore 5, 2) := wt_op54 wb606lawc0_code_c27 0 rfl rfl
theorem wld_765 : decode code 765 = .ok (.aload_n 2, 1) := wt_op44 wb606lawc0_code_c27 2 rfl rfl
theorem wld_766 : decode code 766 = .ok (.aload_n 0, 1) := wt_op42 wb606lawc0_code_c27 3 rfl rfl
theorem wld_767 : decode code 767 = .ok (.iload 4, 2) := wt_op21 wb606lawc0_code_c27 4 rfl rfl
theorem wld_769 : decode code 769 = .ok (.iconst 1, 1) := wt_op4 wb606lawc0_code_c27 6 rfl rfl
theorem wld_770 : decode code 770 = .ok (.iadd, 1) := wt_op96 wb606lawc0_code_c27 7 rfl rfl
theorem wld_771 : decode code 771 = .ok (.iaload, 1) := wt_op46 wb606lawc0_code_c27 8 rfl rfl
theorem wld_772 : decode code 772 = .ok (.aload_n 0, 1) := wt_op42 wb606lawc0_code_c27 9 rfl rfl
theorem wld_773 : decode code 773 = .ok (.iload 4, 2) := wt_op21 wb606lawc0_code_c27 10 rfl rfl
theorem wld_775 : decode code 775 = .ok (.iconst 2, 1) := wt_op5 wb606lawc0_code_c27 12 rfl rfl
theorem wld_776 : decode code 776 = .ok (.iadd, 1) := wt_op96 wb606lawc0_code_c27 13 rfl rfl
theorem wld_777 : decode code 777 = .ok (.iaload, 1) := wt_op46 wb606lawc0_code_c27 14 rfl rfl
theorem wld_778 : decode code 778 = .ok (.invokevirtual 166, 3) := wt_op182 wb606lawc0_code_c27 15 rfl rfl rfl
theorem wld_781 : decode code 781 = .ok (.istore 6, 2) := wt_op54 wb606lawc0_code_c27 18 rfl rfl
theorem wld_783 : decode code 783 = .ok (.goto 644, 3) := wt_op167 wb606lawc0_code_c27 20 rfl rfl rfl
set_option maxRecDepth 100000 in
set_option maxHeartbeats 4000000 in
theorem wl_print {X : wt_X} {o b L : Nat} {xs : Nat → Int32} {n K : Nat} {Inv : wt_St → Prop} {i : Int32} (hE : wt_OkO X o code 7 "WornTypeLaw" 400 100000) (hdm : ∀ i, wt_dom (wt_xw X) i ↔ i < 321) (hSN : wt_SN (wt_Ao (wt_xw X) o (wt_xs X).heap.size) (wt_xs X) (wt_xs X).heap) (htr : (wt_xl X).stackTraces = false) (hX : wt_scr X o b L xs) (hi : ∀ c : Int32, c = 1 ∨ c = 2 ∨ c = 3 ∨ c = 4 ∨ c = 5 → vp_in (i + c) L) (hK : K + 8 ≤ 100000) (hP : wt_P_print n Inv) {σ : wt_St} (hσ : Inv σ) (kn : ∀ τ : wt_St, Inv τ → wt_O X o (K + 8) τ 1427 [some (.ref b), some (.ref (wt_ad (wt_xw X) 0)), some (.ref (wt_ad (wt_xw X) 108)), some (.ref o), some (.int i), none, none] []) : wt_O X o K σ 746 [some (.ref b), some (.ref (wt_ad (wt_xw X) 0)), some (.ref (wt_ad (wt_xw X) 108)), some (.ref o), some (.int i), none, none] [] := by
  have hD : ∀ i, i < 108 → wt_dom (wt_xw X) i := fun i hi => (hdm i).mpr (by omega)
  have hM : ∀ i, 108 ≤ i → i < 321 → wt_dom (wt_xw X) i := fun i _ hi => (hdm i).mpr hi
  obtain ⟨q, hq, hx, r, hr, hI⟩ := hP _ (xs (i + (1 : Int32)).toNatClampNeg) (xs (i + (2 : Int32)).toNatClampNeg) hσ
  refine wt_o_aload_n hE wld_746 rfl ?_
  refine wt_o_aload_n hE wld_747 rfl ?_
  refine wt_o_iload hE wld_748 rfl ?_
  refine wt_o_iconst hE (1 : Int32) wld_750 (by decide) ?_
  refine wt_o_iadd hE wld_751 ?_
  refine wt_o_sld hE hX (hi 1 (by decide)) wld_752 ?_
  refine wt_o_aload_n hE wld_753 rfl ?_
  refine wt_o_iload hE wld_754 rfl ?_
  refine wt_o_iconst hE (2 : Int32) wld_756 (by decide) ?_
  refine wt_o_iadd hE wld_757 ?_
  refine wt_o_sld hE hX (hi 2 (by decide)) wld_758 ?_
  refine wt_o_aload_n hE wld_759 rfl ?_
  refine wt_o_callW hE hSN (k := 4) (dd := 9) (mc := 8) [.ref (wt_ad (wt_xw X) 0), .int (xs (i + (1 : Int32)).toNatClampNeg), .int (xs (i + (2 : Int32)).toNatClampNeg), .ref o] (wt_g5 92 rfl rfl) (wt_g5 93 rfl rfl) (wt_g1 0 rfl rfl) wt_cm_print ⟨by decide, by decide, by decide +kernel⟩ (by decide) (ww_print_ok htr hE.2.2 hD hq hx) (by decide) rfl rfl (Nat.le_of_ble_eq_true rfl) (by omega) wld_760 (fun w5 => ?_)
  refine wt_o_istore hE [some (.ref b), some (.ref (wt_ad (wt_xw X) 0)), some (.ref (wt_ad (wt_xw X) 108)), some (.ref o), some (.int i), some (.int w5), none] wld_763 (by decide) rfl ?_
  refine wt_o_aload_n hE wld_765 rfl ?_
  refine wt_o_aload_n hE wld_766 rfl ?_
  refine wt_o_iload hE wld_767 rfl ?_
  refine wt_o_iconst hE (1 : Int32) wld_769 (by decide) ?_
  refine wt_o_iadd hE wld_770 ?_
  refine wt_o_sld hE hX (hi 1 (by decide)) wld_771 ?_
  refine wt_o_aload_n hE wld_772 rfl ?_
  refine wt_o_iload hE wld_773 rfl ?_
  refine wt_o_iconst hE (2 : Int32) wld_775 (by decide) ?_
  refine wt_o_iadd hE wld_776 ?_
  refine wt_o_sld hE hX (hi 2 (by decide)) wld_777 ?_
  refine wt_o_callVi (dd := 2) hE [.int (xs (i + (1 : Int32)).toNatClampNeg), .int (xs (i + (2 : Int32)).toNatClampNeg)] wt_lm_lw_166 wt_ya_md_print (wp_md_print_ok hM hr) (by decide) (hM 108 (by decide) (by decide)) wt_L108 rfl rfl rfl (Nat.le_of_ble_eq_true rfl) (by omega) wld_778 ?_
  refine wt_o_istore hE [some (.ref b), some (.ref (wt_ad (wt_xw X) 0)), some (.ref (wt_ad (wt_xw X) 108)), some (.ref o), some (.int i), some (.int w5), some (.int r.1)] wld_781 (by decide) rfl ?_
  refine wt_o_goto hE 1427 wld_783 rfl ?_
  exact wt_o_wk [true, true, true, true, true, false, false] rfl (kn _ hI)
theorem wld_786 : decode code 786 = .ok (.aload_n 1, 1) := wt_op43 wb606lawc0_code_c27 23 rfl rfl
theorem wld_787 : decode code 787 = .ok (.aload_n 0, 1) := wt_op42 wb606lawc0_code_c27 24 rfl rfl
theorem wld_788 : decode code 788 = .ok (.iload 4, 2) := wt_op21 wb606lawc0_code_c27 25 rfl rfl
theorem wld_790 : decode code 790 = .ok (.iconst 1, 1) := wt_op4 wb606lawc0_code_c27 27 rfl rfl
theorem wld_791 : decode code 791 = .ok (.iadd, 1) := wt_op96 wb606lawc0_code_c28 0 rfl rfl
theorem wld_792 : decode code 792 = .ok (.iaload, 1) := wt_op46 wb606lawc0_code_c28 1 rfl rfl
theorem wld_793 : decode code 793 = .ok (.aload_n 3, 1) := wt_op45 wb606lawc0_code_c28 2 rfl rfl
theorem wld_794 : decode code 794 = .ok (.invokestatic 167, 3) := wt_op184 wb606lawc0_code_c28 3 rfl rfl rfl
theorem wld_797 : decode code 797 = .ok (.istore 5, 2) := wt_op54 wb606lawc0_code_c28 6 rfl rfl
theorem wld_799 : decode code 799 = .ok (.aload_n 2, 1) := wt_op44 wb606lawc0_code_c28 8 rfl rfl
theorem wld_800 : decode code 800 = .ok (.aload_n 0, 1) := wt_op42 wb606lawc0_code_c28 9 rfl rfl
theorem wld_801 : decode code 801 = .ok (.iload 4, 2) := wt_op21 wb606lawc0_code_c28 10 rfl rfl
theorem wld_803 : decode code 803 = .ok (.iconst 1, 1) := wt_op4 wb606lawc0_code_c28 12 rfl rfl
theorem wld_804 : decode code 804 = .ok (.iadd, 1) := wt_op96 wb606lawc0_code_c28 13 rfl rfl
theorem wld_805 : decode code 805 = .ok (.iaload, 1) := wt_op46 wb606lawc0_code_c28 14 rfl rfl
theorem wld_806 : decode code 806 = .ok (.invokevirtual 169, 3) := wt_op182 wb606lawc0_code_c28 15 rfl rfl rfl
theorem wld_809 : decode code 809 = .ok (.istore 6, 2) := wt_op54 wb606lawc0_code_c28 18 rfl rfl
theorem wld_811 : decode code 811 = .ok (.goto 616, 3) := wt_op167 wb606lawc0_code_c28 20 rfl rfl rfl
set_option maxRecDepth 100000 in
set_option maxHeartbeats 4000000 in
theorem wl_apart {X : wt_X} {o b L : Nat} {xs : Nat → Int32} {n K : Nat} {Inv : wt_St → Prop} {i : Int32} (hE : wt_OkO X o code 7 "WornTypeLaw" 400 100000) (hdm : ∀ i, wt_dom (wt_xw X) i ↔ i < 321) (hSN : wt_SN (wt_Ao (wt_xw X) o (wt_xs X).heap.size) (wt_xs X) (wt_xs X).heap) (htr : (wt_xl X).stackTraces = false) (hX : wt_scr X o b L xs) (hi : ∀ c : Int32, c = 1 ∨ c = 2 ∨ c = 3 ∨ c = 4 ∨ c = 5 → vp_in (i + c) L) (hK : K + 8 ≤ 100000) (hP : wt_P_apart n Inv) {σ : wt_St} (hσ : Inv σ) (kn : ∀ τ : wt_St, Inv τ → wt_O X o (K + 8) τ 1427 [some (.ref b), some (.ref (wt_ad (wt_xw X) 0)), some (.ref (wt_ad (wt_xw X) 108)), some (.ref o), some (.int i), none, none] []) : wt_O X o K σ 786 [some (.ref b), some (.ref (wt_ad (wt_xw X) 0)), some (.ref (wt_ad (wt_xw X) 108)), some (.ref o), some (.int i), none, none] [] := by
  have hD : ∀ i, i < 108 → wt_dom (wt_xw X) i := fun i hi => (hdm i).mpr (by omega)
  have hM : ∀ i, 108 ≤ i → i < 321 → wt_dom (wt_xw X) i := fun i _ hi => (hdm i).mpr hi
  obtain ⟨q, hq, hx, r, hr, hI⟩ := hP _ (xs (i + (1 : Int32)).toNatClampNeg) hσ
  refine wt_o_aload_n hE wld_786 rfl ?_
  refine wt_o_aload_n hE wld_787 rfl ?_
  refine wt_o_iload hE wld_788 rfl ?_
  refine wt_o_iconst hE (1 : Int32) wld_790 (by decide) ?_
  refine wt_o_iadd hE wld_791 ?_
  refine wt_o_sld hE hX (hi 1 (by decide)) wld_792 ?_
  refine wt_o_aload_n hE wld_793 rfl ?_
  refine wt_o_callW hE hSN (k := 3) (dd := 8) (mc := 8) [.ref (wt_ad (wt_xw X) 0), .int (xs (i + (1 : Int32)).toNatClampNeg), .ref o] (wt_g5 110 rfl rfl) (wt_g5 111 rfl rfl) (wt_g1 0 rfl rfl) wt_cm_apart ⟨by decide, by decide, by decide +kernel⟩ (by decide) (ww_apart_ok htr hE.2.2 hD hq hx) (by decide) rfl rfl (Nat.le_of_ble_eq_true rfl) (by omega) wld_794 (fun w5 => ?_)
  refine wt_o_istore hE [some (.ref b), some (.ref (wt_ad (wt_xw X) 0)), some (.ref (wt_ad (wt_xw X) 108)), some (.ref o), some (.int i), some (.int w5), none] wld_797 (by decide) rfl ?_
  refine wt_o_aload_n hE wld_799 rfl ?_
  refine wt_o_aload_n hE wld_800 rfl ?_
  refine wt_o_iload hE wld_801 rfl ?_
  refine wt_o_iconst hE (1 : Int32) wld_803 (by decide) ?_
  refine wt_o_iadd hE wld_804 ?_
  refine wt_o_sld hE hX (hi 1 (by decide)) wld_805 ?_
  refine wt_o_callVi (dd := 2) hE [.int (xs (i + (1 : Int32)).toNatClampNeg)] wt_lm_lw_169 wt_ya_md_apart (wp_md_apart_ok hM hr) (by decide) (hM 108 (by decide) (by decide)) wt_L108 rfl rfl rfl (Nat.le_of_ble_eq_true rfl) (by omega) wld_806 ?_
  refine wt_o_istore hE [some (.ref b), some (.ref (wt_ad (wt_xw X) 0)), some (.ref (wt_ad (wt_xw X) 108)), some (.ref o), some (.int i), some (.int w5), some (.int r.1)] wld_809 (by decide) rfl ?_
  refine wt_o_goto hE 1427 wld_811 rfl ?_
  exact wt_o_wk [true, true, true, true, true, false, false] rfl (kn _ hI)
theorem wld_814 : decode code 814 = .ok (.aload_n 1, 1) := wt_op43 wb606lawc0_code_c28 23 rfl rfl
theorem wld_815 : decode code 815 = .ok (.aload_n 0, 1) := wt_op42 wb606lawc0_code_c28 24 rfl rfl
theorem wld_816 : decode code 816 = .ok (.iload 4, 2) := wt_op21 wb606lawc0_code_c28 25 rfl rfl
theorem wld_818 : decode code 818 = .ok (.iconst 1, 1) := wt_op4 wb606lawc0_code_c28 27 rfl rfl
theorem wld_819 : decode code 819 = .ok (.iadd, 1) := wt_op96 wb606lawc0_code_c29 0 rfl rfl
theorem wld_820 : decode code 820 = .ok (.iaload, 1) := wt_op46 wb606lawc0_code_c29 1 rfl rfl
theorem wld_821 : decode code 821 = .ok (.aload_n 0, 1) := wt_op42 wb606lawc0_code_c29 2 rfl rfl
theorem wld_822 : decode code 822 = .ok (.iload 4, 2) := wt_op21 wb606lawc0_code_c29 3 rfl rfl
theorem wld_824 : decode code 824 = .ok (.iconst 2, 1) := wt_op5 wb606lawc0_code_c29 5 rfl rfl
theorem wld_825 : decode code 825 = .ok (.iadd, 1) := wt_op96 wb606lawc0_code_c29 6 rfl rfl
theorem wld_826 : decode code 826 = .ok (.iaload, 1) := wt_op46 wb606lawc0_code_c29 7 rfl rfl
theorem wld_827 : decode code 827 = .ok (.aload_n 3, 1) := wt_op45 wb606lawc0_code_c29 8 rfl rfl
theorem wld_828 : decode code 828 = .ok (.invokestatic 170, 3) := wt_op184 wb606lawc0_code_c29 9 rfl rfl rfl
theorem wld_831 : decode code 831 = .ok (.istore 5, 2) := wt_op54 wb606lawc0_code_c29 12 rfl rfl
theorem wld_833 : decode code 833 = .ok (.aload_n 2, 1) := wt_op44 wb606lawc0_code_c29 14 rfl rfl
theorem wld_834 : decode code 834 = .ok (.aload_n 0, 1) := wt_op42 wb606lawc0_code_c29 15 rfl rfl
theorem wld_835 : decode code 835 = .ok (.iload 4, 2) := wt_op21 wb606lawc0_code_c29 16 rfl rfl
theorem wld_837 : decode code 837 = .ok (.iconst 1, 1) := wt_op4 wb606lawc0_code_c29 18 rfl rfl
theorem wld_838 : decode code 838 = .ok (.iadd, 1) := wt_op96 wb606lawc0_code_c29 19 rfl rfl
theorem wld_839 : decode code 839 = .ok (.iaload, 1) := wt_op46 wb606lawc0_code_c29 20 rfl rfl
theorem wld_840 : decode code 840 = .ok (.aload_n 0, 1) := wt_op42 wb606lawc0_code_c29 21 rfl rfl
theorem wld_841 : decode code 841 = .ok (.iload 4, 2) := wt_op21 wb606lawc0_code_c29 22 rfl rfl
theorem wld_843 : decode code 843 = .ok (.iconst 2, 1) := wt_op5 wb606lawc0_code_c29 24 rfl rfl
theorem wld_844 : decode code 844 = .ok (.iadd, 1) := wt_op96 wb606lawc0_code_c29 25 rfl rfl
theorem wld_845 : decode code 845 = .ok (.iaload, 1) := wt_op46 wb606lawc0_code_c29 26 rfl rfl
theorem wld_846 : decode code 846 = .ok (.invokevirtual 172, 3) := wt_op182 wb606lawc0_code_c29 27 rfl rfl rfl
theorem wld_849 : decode code 849 = .ok (.istore 6, 2) := wt_op54 wb606lawc0_code_c30 0 rfl rfl
theorem wld_851 : decode code 851 = .ok (.goto 576, 3) := wt_op167 wb606lawc0_code_c30 2 rfl rfl rfl
set_option maxRecDepth 100000 in
set_option maxHeartbeats 4000000 in
theorem wl_page {X : wt_X} {o b L : Nat} {xs : Nat → Int32} {n K : Nat} {Inv : wt_St → Prop} {i : Int32} (hE : wt_OkO X o code 7 "WornTypeLaw" 400 100000) (hdm : ∀ i, wt_dom (wt_xw X) i ↔ i < 321) (hSN : wt_SN (wt_Ao (wt_xw X) o (wt_xs X).heap.size) (wt_xs X) (wt_xs X).heap) (htr : (wt_xl X).stackTraces = false) (hX : wt_scr X o b L xs) (hi : ∀ c : Int32, c = 1 ∨ c = 2 ∨ c = 3 ∨ c = 4 ∨ c = 5 → vp_in (i + c) L) (hK : K + 8 ≤ 100000) (hP : wt_P_page n Inv) {σ : wt_St} (hσ : Inv σ) (kn : ∀ τ : wt_St, Inv τ → wt_O X o (K + 8) τ 1427 [some (.ref b), some (.ref (wt_ad (wt_xw X) 0)), some (.ref (wt_ad (wt_xw X) 108)), some (.ref o), some (.int i), none, none] []) : wt_O X o K σ 814 [some (.ref b), some (.ref (wt_ad (wt_xw X) 0)), some (.ref (wt_ad (wt_xw X) 108)), some (.ref o), some (.int i), none, none] [] := by
  have hD : ∀ i, i < 108 → wt_dom (wt_xw X) i := fun i hi => (hdm i).mpr (by omega)
  have hM : ∀ i, 108 ≤ i → i < 321 → wt_dom (wt_xw X) i := fun i _ hi => (hdm i).mpr hi
  obtain ⟨q, hq, hx, r, hr, hI⟩ := hP _ (xs (i + (1 : Int32)).toNatClampNeg) (xs (i + (2 : Int32)).toNatClampNeg) hσ
  refine wt_o_aload_n hE wld_814 rfl ?_
  refine wt_o_aload_n hE wld_815 rfl ?_
  refine wt_o_iload hE wld_816 rfl ?_
  refine wt_o_iconst hE (1 : Int32) wld_818 (by decide) ?_
  refine wt_o_iadd hE wld_819 ?_
  refine wt_o_sld hE hX (hi 1 (by decide)) wld_820 ?_
  refine wt_o_aload_n hE wld_821 rfl ?_
  refine wt_o_iload hE wld_822 rfl ?_
  refine wt_o_iconst hE (2 : Int32) wld_824 (by decide) ?_
  refine wt_o_iadd hE wld_825 ?_
  refine wt_o_sld hE hX (hi 2 (by decide)) wld_826 ?_
  refine wt_o_aload_n hE wld_827 rfl ?_
  refine wt_o_callW hE hSN (k := 4) (dd := 8) (mc := 8) [.ref (wt_ad (wt_xw X) 0), .int (xs (i + (1 : Int32)).toNatClampNeg), .int (xs (i + (2 : Int32)).toNatClampNeg), .ref o] (wt_g5 126 rfl rfl) (wt_g5 127 rfl rfl) (wt_g1 0 rfl rfl) wt_cm_page ⟨by decide, by decide, by decide +kernel⟩ (by decide) (ww_page_ok htr hE.2.2 hD hq hx) (by decide) rfl rfl (Nat.le_of_ble_eq_true rfl) (by omega) wld_828 (fun w5 => ?_)
  refine wt_o_istore hE [some (.ref b), some (.ref (wt_ad (wt_xw X) 0)), some (.ref (wt_ad (wt_xw X) 108)), some (.ref o), some (.int i), some (.int w5), none] wld_831 (by decide) rfl ?_
  refine wt_o_aload_n hE wld_833 rfl ?_
  refine wt_o_aload_n hE wld_834 rfl ?_
  refine wt_o_iload hE wld_835 rfl ?_
  refine wt_o_iconst hE (1 : Int32) wld_837 (by decide) ?_
  refine wt_o_iadd hE wld_838 ?_
  refine wt_o_sld hE hX (hi 1 (by decide)) wld_839 ?_
  refine wt_o_aload_n hE wld_840 rfl ?_
  refine wt_o_iload hE wld_841 rfl ?_
  refine wt_o_iconst hE (2 : Int32) wld_843 (by decide) ?_
  refine wt_o_iadd hE wld_844 ?_
  refine wt_o_sld hE hX (hi 2 (by decide)) wld_845 ?_
  refine wt_o_callVi (dd := 2) hE [.int (xs (i + (1 : Int32)).toNatClampNeg), .int (xs (i + (2 : Int32)).toNatClampNeg)] wt_lm_lw_172 wt_ya_md_page (wp_md_page_ok hM hr) (by decide) (hM 108 (by decide) (by decide)) wt_L108 rfl rfl rfl (Nat.le_of_ble_eq_true rfl) (by omega) wld_846 ?_
  refine wt_o_istore hE [some (.ref b), some (.ref (wt_ad (wt_xw X) 0)), some (.ref (wt_ad (wt_xw X) 108)), some (.ref o), some (.int i), some (.int w5), some (.int r.1)] wld_849 (by decide) rfl ?_
  refine wt_o_goto hE 1427 wld_851 rfl ?_
  exact wt_o_wk [true, true, true, true, true, false, false] rfl (kn _ hI)
end WLC
