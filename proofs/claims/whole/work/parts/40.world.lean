/-! the class's cells behind its constructor -/
def SHX : Sh := [(11, 0), (5, 0), (0, 200), (8, 0), (0, 5), (4, 0), (0, 6), (0, 6), (0, 6), (0, 6), (0, 6), (0, 5), (0, 5), (0, 5), (0, 4), (4, 0), (0, 6), (0, 6), (0, 6), (0, 6), (0, 6), (0, 5), (0, 5), (0, 5), (0, 4), (10, 0), (0, 6), (0, 6), (0, 6), (10, 0), (0, 6), (0, 6), (0, 6), (7, 0), (1, 8), (10, 0), (0, 6), (0, 6), (0, 6), (10, 0), (0, 6), (0, 6), (0, 6), (10, 0), (0, 6), (0, 6), (0, 6), (10, 0), (0, 6), (0, 6), (0, 6), (10, 0), (0, 6), (0, 6), (0, 6), (10, 0), (0, 6), (0, 6), (0, 6), (10, 0), (0, 6), (0, 6), (0, 6), (10, 0), (0, 6), (0, 6), (0, 6), (7, 0), (1, 2), (10, 0), (0, 6), (0, 6), (0, 6), (10, 0), (0, 6), (0, 6), (0, 6), (6, 0), (0, 8), (0, 8), (3, 0), (0, 6), (0, 6), (0, 4), (9, 0), (2, 6), (0, 6), (0, 6), (0, 6), (0, 6), (0, 6), (0, 6), (0, 6), (0, 6)]
def MRT : List (Nat × Nat × Nat) := [(0, 0, 1), (0, 1, 3), (0, 4, 25), (0, 5, 29), (0, 6, 33), (0, 7, 67), (0, 8, 77), (0, 9, 80), (0, 10, 84), (1, 0, 2), (3, 0, 4), (5, 1, 6), (5, 2, 7), (5, 3, 8), (5, 4, 9), (5, 5, 10), (5, 7, 11), (5, 8, 12), (5, 9, 13), (5, 10, 14), (15, 1, 16), (15, 2, 17), (15, 3, 18), (15, 4, 19), (15, 5, 20), (15, 7, 21), (15, 8, 22), (15, 9, 23), (15, 10, 24), (25, 1, 26), (25, 2, 27), (25, 3, 28), (29, 1, 30), (29, 2, 31), (29, 3, 32), (33, 0, 34), (34, 0, 35), (34, 1, 39), (34, 2, 43), (34, 3, 47), (34, 4, 51), (34, 5, 55), (34, 6, 59), (34, 7, 63), (35, 1, 36), (35, 2, 37), (35, 3, 38), (39, 1, 40), (39, 2, 41), (39, 3, 42), (43, 1, 44), (43, 2, 45), (43, 3, 46), (47, 1, 48), (47, 2, 49), (47, 3, 50), (51, 1, 52), (51, 2, 53), (51, 3, 54), (55, 1, 56), (55, 2, 57), (55, 3, 58), (59, 1, 60), (59, 2, 61), (59, 3, 62), (63, 1, 64), (63, 2, 65), (63, 3, 66), (67, 0, 68), (68, 0, 69), (68, 1, 73), (69, 1, 70), (69, 2, 71), (69, 3, 72), (73, 1, 74), (73, 2, 75), (73, 3, 76), (77, 0, 78), (77, 1, 79), (80, 0, 81), (80, 1, 82), (80, 2, 83), (84, 0, 85), (84, 1, 92), (84, 2, 93), (85, 0, 86), (85, 1, 87), (85, 2, 88), (85, 3, 89), (85, 4, 90), (85, 5, 91)]
def GX (sh : Sh) (Mr : MR) (L D : Nat) : Prop := (∀ (c : Nat) (q : Nat × Nat), SHX[c]? = some q → sh[c]? = some q) ∧ (∀ (i c k a : Nat), MRT[i]? = some (c, k, a) → Mr c k = some a) ∧ Mr 0 2 = some L ∧ Mr 0 3 = some D ∧ ((L = 5 ∧ D = 15) ∨ (L = 15 ∧ D = 5))
theorem gx0 {sh : Sh} {Mr : MR} {L D : Nat} (h : GX sh Mr L D) : sh[0]? = some (11, 0) := h.1 0 _ rfl
theorem gx1 {sh : Sh} {Mr : MR} {L D : Nat} (h : GX sh Mr L D) : sh[1]? = some (5, 0) := h.1 1 _ rfl
theorem gx2 {sh : Sh} {Mr : MR} {L D : Nat} (h : GX sh Mr L D) : sh[2]? = some (0, 200) := h.1 2 _ rfl
theorem gx3 {sh : Sh} {Mr : MR} {L D : Nat} (h : GX sh Mr L D) : sh[3]? = some (8, 0) := h.1 3 _ rfl
theorem gx4 {sh : Sh} {Mr : MR} {L D : Nat} (h : GX sh Mr L D) : sh[4]? = some (0, 5) := h.1 4 _ rfl
theorem gx5 {sh : Sh} {Mr : MR} {L D : Nat} (h : GX sh Mr L D) : sh[5]? = some (4, 0) := h.1 5 _ rfl
theorem gx6 {sh : Sh} {Mr : MR} {L D : Nat} (h : GX sh Mr L D) : sh[6]? = some (0, 6) := h.1 6 _ rfl
theorem gx7 {sh : Sh} {Mr : MR} {L D : Nat} (h : GX sh Mr L D) : sh[7]? = some (0, 6) := h.1 7 _ rfl
theorem gx8 {sh : Sh} {Mr : MR} {L D : Nat} (h : GX sh Mr L D) : sh[8]? = some (0, 6) := h.1 8 _ rfl
theorem gx9 {sh : Sh} {Mr : MR} {L D : Nat} (h : GX sh Mr L D) : sh[9]? = some (0, 6) := h.1 9 _ rfl
theorem gx10 {sh : Sh} {Mr : MR} {L D : Nat} (h : GX sh Mr L D) : sh[10]? = some (0, 6) := h.1 10 _ rfl
theorem gx11 {sh : Sh} {Mr : MR} {L D : Nat} (h : GX sh Mr L D) : sh[11]? = some (0, 5) := h.1 11 _ rfl
theorem gx12 {sh : Sh} {Mr : MR} {L D : Nat} (h : GX sh Mr L D) : sh[12]? = some (0, 5) := h.1 12 _ rfl
theorem gx13 {sh : Sh} {Mr : MR} {L D : Nat} (h : GX sh Mr L D) : sh[13]? = some (0, 5) := h.1 13 _ rfl
theorem gx14 {sh : Sh} {Mr : MR} {L D : Nat} (h : GX sh Mr L D) : sh[14]? = some (0, 4) := h.1 14 _ rfl
theorem gx15 {sh : Sh} {Mr : MR} {L D : Nat} (h : GX sh Mr L D) : sh[15]? = some (4, 0) := h.1 15 _ rfl
theorem gx16 {sh : Sh} {Mr : MR} {L D : Nat} (h : GX sh Mr L D) : sh[16]? = some (0, 6) := h.1 16 _ rfl
theorem gx17 {sh : Sh} {Mr : MR} {L D : Nat} (h : GX sh Mr L D) : sh[17]? = some (0, 6) := h.1 17 _ rfl
theorem gx18 {sh : Sh} {Mr : MR} {L D : Nat} (h : GX sh Mr L D) : sh[18]? = some (0, 6) := h.1 18 _ rfl
theorem gx19 {sh : Sh} {Mr : MR} {L D : Nat} (h : GX sh Mr L D) : sh[19]? = some (0, 6) := h.1 19 _ rfl
theorem gx20 {sh : Sh} {Mr : MR} {L D : Nat} (h : GX sh Mr L D) : sh[20]? = some (0, 6) := h.1 20 _ rfl
theorem gx21 {sh : Sh} {Mr : MR} {L D : Nat} (h : GX sh Mr L D) : sh[21]? = some (0, 5) := h.1 21 _ rfl
theorem gx22 {sh : Sh} {Mr : MR} {L D : Nat} (h : GX sh Mr L D) : sh[22]? = some (0, 5) := h.1 22 _ rfl
theorem gx23 {sh : Sh} {Mr : MR} {L D : Nat} (h : GX sh Mr L D) : sh[23]? = some (0, 5) := h.1 23 _ rfl
theorem gx24 {sh : Sh} {Mr : MR} {L D : Nat} (h : GX sh Mr L D) : sh[24]? = some (0, 4) := h.1 24 _ rfl
theorem gx25 {sh : Sh} {Mr : MR} {L D : Nat} (h : GX sh Mr L D) : sh[25]? = some (10, 0) := h.1 25 _ rfl
theorem gx26 {sh : Sh} {Mr : MR} {L D : Nat} (h : GX sh Mr L D) : sh[26]? = some (0, 6) := h.1 26 _ rfl
theorem gx27 {sh : Sh} {Mr : MR} {L D : Nat} (h : GX sh Mr L D) : sh[27]? = some (0, 6) := h.1 27 _ rfl
theorem gx28 {sh : Sh} {Mr : MR} {L D : Nat} (h : GX sh Mr L D) : sh[28]? = some (0, 6) := h.1 28 _ rfl
theorem gx29 {sh : Sh} {Mr : MR} {L D : Nat} (h : GX sh Mr L D) : sh[29]? = some (10, 0) := h.1 29 _ rfl
theorem gx30 {sh : Sh} {Mr : MR} {L D : Nat} (h : GX sh Mr L D) : sh[30]? = some (0, 6) := h.1 30 _ rfl
theorem gx31 {sh : Sh} {Mr : MR} {L D : Nat} (h : GX sh Mr L D) : sh[31]? = some (0, 6) := h.1 31 _ rfl
theorem gx32 {sh : Sh} {Mr : MR} {L D : Nat} (h : GX sh Mr L D) : sh[32]? = some (0, 6) := h.1 32 _ rfl
theorem gx33 {sh : Sh} {Mr : MR} {L D : Nat} (h : GX sh Mr L D) : sh[33]? = some (7, 0) := h.1 33 _ rfl
theorem gx34 {sh : Sh} {Mr : MR} {L D : Nat} (h : GX sh Mr L D) : sh[34]? = some (1, 8) := h.1 34 _ rfl
theorem gx35 {sh : Sh} {Mr : MR} {L D : Nat} (h : GX sh Mr L D) : sh[35]? = some (10, 0) := h.1 35 _ rfl
theorem gx36 {sh : Sh} {Mr : MR} {L D : Nat} (h : GX sh Mr L D) : sh[36]? = some (0, 6) := h.1 36 _ rfl
theorem gx37 {sh : Sh} {Mr : MR} {L D : Nat} (h : GX sh Mr L D) : sh[37]? = some (0, 6) := h.1 37 _ rfl
theorem gx38 {sh : Sh} {Mr : MR} {L D : Nat} (h : GX sh Mr L D) : sh[38]? = some (0, 6) := h.1 38 _ rfl
theorem gx39 {sh : Sh} {Mr : MR} {L D : Nat} (h : GX sh Mr L D) : sh[39]? = some (10, 0) := h.1 39 _ rfl
theorem gx40 {sh : Sh} {Mr : MR} {L D : Nat} (h : GX sh Mr L D) : sh[40]? = some (0, 6) := h.1 40 _ rfl
theorem gx41 {sh : Sh} {Mr : MR} {L D : Nat} (h : GX sh Mr L D) : sh[41]? = some (0, 6) := h.1 41 _ rfl
theorem gx42 {sh : Sh} {Mr : MR} {L D : Nat} (h : GX sh Mr L D) : sh[42]? = some (0, 6) := h.1 42 _ rfl
theorem gx43 {sh : Sh} {Mr : MR} {L D : Nat} (h : GX sh Mr L D) : sh[43]? = some (10, 0) := h.1 43 _ rfl
theorem gx44 {sh : Sh} {Mr : MR} {L D : Nat} (h : GX sh Mr L D) : sh[44]? = some (0, 6) := h.1 44 _ rfl
theorem gx45 {sh : Sh} {Mr : MR} {L D : Nat} (h : GX sh Mr L D) : sh[45]? = some (0, 6) := h.1 45 _ rfl
theorem gx46 {sh : Sh} {Mr : MR} {L D : Nat} (h : GX sh Mr L D) : sh[46]? = some (0, 6) := h.1 46 _ rfl
theorem gx47 {sh : Sh} {Mr : MR} {L D : Nat} (h : GX sh Mr L D) : sh[47]? = some (10, 0) := h.1 47 _ rfl
theorem gx48 {sh : Sh} {Mr : MR} {L D : Nat} (h : GX sh Mr L D) : sh[48]? = some (0, 6) := h.1 48 _ rfl
theorem gx49 {sh : Sh} {Mr : MR} {L D : Nat} (h : GX sh Mr L D) : sh[49]? = some (0, 6) := h.1 49 _ rfl
theorem gx50 {sh : Sh} {Mr : MR} {L D : Nat} (h : GX sh Mr L D) : sh[50]? = some (0, 6) := h.1 50 _ rfl
theorem gx51 {sh : Sh} {Mr : MR} {L D : Nat} (h : GX sh Mr L D) : sh[51]? = some (10, 0) := h.1 51 _ rfl
theorem gx52 {sh : Sh} {Mr : MR} {L D : Nat} (h : GX sh Mr L D) : sh[52]? = some (0, 6) := h.1 52 _ rfl
theorem gx53 {sh : Sh} {Mr : MR} {L D : Nat} (h : GX sh Mr L D) : sh[53]? = some (0, 6) := h.1 53 _ rfl
theorem gx54 {sh : Sh} {Mr : MR} {L D : Nat} (h : GX sh Mr L D) : sh[54]? = some (0, 6) := h.1 54 _ rfl
theorem gx55 {sh : Sh} {Mr : MR} {L D : Nat} (h : GX sh Mr L D) : sh[55]? = some (10, 0) := h.1 55 _ rfl
theorem gx56 {sh : Sh} {Mr : MR} {L D : Nat} (h : GX sh Mr L D) : sh[56]? = some (0, 6) := h.1 56 _ rfl
theorem gx57 {sh : Sh} {Mr : MR} {L D : Nat} (h : GX sh Mr L D) : sh[57]? = some (0, 6) := h.1 57 _ rfl
theorem gx58 {sh : Sh} {Mr : MR} {L D : Nat} (h : GX sh Mr L D) : sh[58]? = some (0, 6) := h.1 58 _ rfl
theorem gx59 {sh : Sh} {Mr : MR} {L D : Nat} (h : GX sh Mr L D) : sh[59]? = some (10, 0) := h.1 59 _ rfl
theorem gx60 {sh : Sh} {Mr : MR} {L D : Nat} (h : GX sh Mr L D) : sh[60]? = some (0, 6) := h.1 60 _ rfl
theorem gx61 {sh : Sh} {Mr : MR} {L D : Nat} (h : GX sh Mr L D) : sh[61]? = some (0, 6) := h.1 61 _ rfl
theorem gx62 {sh : Sh} {Mr : MR} {L D : Nat} (h : GX sh Mr L D) : sh[62]? = some (0, 6) := h.1 62 _ rfl
theorem gx63 {sh : Sh} {Mr : MR} {L D : Nat} (h : GX sh Mr L D) : sh[63]? = some (10, 0) := h.1 63 _ rfl
theorem gx64 {sh : Sh} {Mr : MR} {L D : Nat} (h : GX sh Mr L D) : sh[64]? = some (0, 6) := h.1 64 _ rfl
theorem gx65 {sh : Sh} {Mr : MR} {L D : Nat} (h : GX sh Mr L D) : sh[65]? = some (0, 6) := h.1 65 _ rfl
theorem gx66 {sh : Sh} {Mr : MR} {L D : Nat} (h : GX sh Mr L D) : sh[66]? = some (0, 6) := h.1 66 _ rfl
theorem gx67 {sh : Sh} {Mr : MR} {L D : Nat} (h : GX sh Mr L D) : sh[67]? = some (7, 0) := h.1 67 _ rfl
theorem gx68 {sh : Sh} {Mr : MR} {L D : Nat} (h : GX sh Mr L D) : sh[68]? = some (1, 2) := h.1 68 _ rfl
theorem gx69 {sh : Sh} {Mr : MR} {L D : Nat} (h : GX sh Mr L D) : sh[69]? = some (10, 0) := h.1 69 _ rfl
theorem gx70 {sh : Sh} {Mr : MR} {L D : Nat} (h : GX sh Mr L D) : sh[70]? = some (0, 6) := h.1 70 _ rfl
theorem gx71 {sh : Sh} {Mr : MR} {L D : Nat} (h : GX sh Mr L D) : sh[71]? = some (0, 6) := h.1 71 _ rfl
theorem gx72 {sh : Sh} {Mr : MR} {L D : Nat} (h : GX sh Mr L D) : sh[72]? = some (0, 6) := h.1 72 _ rfl
theorem gx73 {sh : Sh} {Mr : MR} {L D : Nat} (h : GX sh Mr L D) : sh[73]? = some (10, 0) := h.1 73 _ rfl
theorem gx74 {sh : Sh} {Mr : MR} {L D : Nat} (h : GX sh Mr L D) : sh[74]? = some (0, 6) := h.1 74 _ rfl
theorem gx75 {sh : Sh} {Mr : MR} {L D : Nat} (h : GX sh Mr L D) : sh[75]? = some (0, 6) := h.1 75 _ rfl
theorem gx76 {sh : Sh} {Mr : MR} {L D : Nat} (h : GX sh Mr L D) : sh[76]? = some (0, 6) := h.1 76 _ rfl
theorem gx77 {sh : Sh} {Mr : MR} {L D : Nat} (h : GX sh Mr L D) : sh[77]? = some (6, 0) := h.1 77 _ rfl
theorem gx78 {sh : Sh} {Mr : MR} {L D : Nat} (h : GX sh Mr L D) : sh[78]? = some (0, 8) := h.1 78 _ rfl
theorem gx79 {sh : Sh} {Mr : MR} {L D : Nat} (h : GX sh Mr L D) : sh[79]? = some (0, 8) := h.1 79 _ rfl
theorem gx80 {sh : Sh} {Mr : MR} {L D : Nat} (h : GX sh Mr L D) : sh[80]? = some (3, 0) := h.1 80 _ rfl
theorem gx81 {sh : Sh} {Mr : MR} {L D : Nat} (h : GX sh Mr L D) : sh[81]? = some (0, 6) := h.1 81 _ rfl
theorem gx82 {sh : Sh} {Mr : MR} {L D : Nat} (h : GX sh Mr L D) : sh[82]? = some (0, 6) := h.1 82 _ rfl
theorem gx83 {sh : Sh} {Mr : MR} {L D : Nat} (h : GX sh Mr L D) : sh[83]? = some (0, 4) := h.1 83 _ rfl
theorem gx84 {sh : Sh} {Mr : MR} {L D : Nat} (h : GX sh Mr L D) : sh[84]? = some (9, 0) := h.1 84 _ rfl
theorem gx85 {sh : Sh} {Mr : MR} {L D : Nat} (h : GX sh Mr L D) : sh[85]? = some (2, 6) := h.1 85 _ rfl
theorem gx86 {sh : Sh} {Mr : MR} {L D : Nat} (h : GX sh Mr L D) : sh[86]? = some (0, 6) := h.1 86 _ rfl
theorem gx87 {sh : Sh} {Mr : MR} {L D : Nat} (h : GX sh Mr L D) : sh[87]? = some (0, 6) := h.1 87 _ rfl
theorem gx88 {sh : Sh} {Mr : MR} {L D : Nat} (h : GX sh Mr L D) : sh[88]? = some (0, 6) := h.1 88 _ rfl
theorem gx89 {sh : Sh} {Mr : MR} {L D : Nat} (h : GX sh Mr L D) : sh[89]? = some (0, 6) := h.1 89 _ rfl
theorem gx90 {sh : Sh} {Mr : MR} {L D : Nat} (h : GX sh Mr L D) : sh[90]? = some (0, 6) := h.1 90 _ rfl
theorem gx91 {sh : Sh} {Mr : MR} {L D : Nat} (h : GX sh Mr L D) : sh[91]? = some (0, 6) := h.1 91 _ rfl
theorem gx92 {sh : Sh} {Mr : MR} {L D : Nat} (h : GX sh Mr L D) : sh[92]? = some (0, 6) := h.1 92 _ rfl
theorem gx93 {sh : Sh} {Mr : MR} {L D : Nat} (h : GX sh Mr L D) : sh[93]? = some (0, 6) := h.1 93 _ rfl
theorem gr0_0 {sh : Sh} {Mr : MR} {L D : Nat} (h : GX sh Mr L D) : Mr 0 0 = some 1 := h.2.1 0 _ _ _ rfl
theorem gr0_1 {sh : Sh} {Mr : MR} {L D : Nat} (h : GX sh Mr L D) : Mr 0 1 = some 3 := h.2.1 1 _ _ _ rfl
theorem gr0_4 {sh : Sh} {Mr : MR} {L D : Nat} (h : GX sh Mr L D) : Mr 0 4 = some 25 := h.2.1 2 _ _ _ rfl
theorem gr0_5 {sh : Sh} {Mr : MR} {L D : Nat} (h : GX sh Mr L D) : Mr 0 5 = some 29 := h.2.1 3 _ _ _ rfl
theorem gr0_6 {sh : Sh} {Mr : MR} {L D : Nat} (h : GX sh Mr L D) : Mr 0 6 = some 33 := h.2.1 4 _ _ _ rfl
theorem gr0_7 {sh : Sh} {Mr : MR} {L D : Nat} (h : GX sh Mr L D) : Mr 0 7 = some 67 := h.2.1 5 _ _ _ rfl
theorem gr0_8 {sh : Sh} {Mr : MR} {L D : Nat} (h : GX sh Mr L D) : Mr 0 8 = some 77 := h.2.1 6 _ _ _ rfl
theorem gr0_9 {sh : Sh} {Mr : MR} {L D : Nat} (h : GX sh Mr L D) : Mr 0 9 = some 80 := h.2.1 7 _ _ _ rfl
theorem gr0_10 {sh : Sh} {Mr : MR} {L D : Nat} (h : GX sh Mr L D) : Mr 0 10 = some 84 := h.2.1 8 _ _ _ rfl
theorem gr1_0 {sh : Sh} {Mr : MR} {L D : Nat} (h : GX sh Mr L D) : Mr 1 0 = some 2 := h.2.1 9 _ _ _ rfl
theorem gr3_0 {sh : Sh} {Mr : MR} {L D : Nat} (h : GX sh Mr L D) : Mr 3 0 = some 4 := h.2.1 10 _ _ _ rfl
theorem gr5_1 {sh : Sh} {Mr : MR} {L D : Nat} (h : GX sh Mr L D) : Mr 5 1 = some 6 := h.2.1 11 _ _ _ rfl
theorem gr5_2 {sh : Sh} {Mr : MR} {L D : Nat} (h : GX sh Mr L D) : Mr 5 2 = some 7 := h.2.1 12 _ _ _ rfl
theorem gr5_3 {sh : Sh} {Mr : MR} {L D : Nat} (h : GX sh Mr L D) : Mr 5 3 = some 8 := h.2.1 13 _ _ _ rfl
theorem gr5_4 {sh : Sh} {Mr : MR} {L D : Nat} (h : GX sh Mr L D) : Mr 5 4 = some 9 := h.2.1 14 _ _ _ rfl
theorem gr5_5 {sh : Sh} {Mr : MR} {L D : Nat} (h : GX sh Mr L D) : Mr 5 5 = some 10 := h.2.1 15 _ _ _ rfl
theorem gr5_7 {sh : Sh} {Mr : MR} {L D : Nat} (h : GX sh Mr L D) : Mr 5 7 = some 11 := h.2.1 16 _ _ _ rfl
theorem gr5_8 {sh : Sh} {Mr : MR} {L D : Nat} (h : GX sh Mr L D) : Mr 5 8 = some 12 := h.2.1 17 _ _ _ rfl
theorem gr5_9 {sh : Sh} {Mr : MR} {L D : Nat} (h : GX sh Mr L D) : Mr 5 9 = some 13 := h.2.1 18 _ _ _ rfl
theorem gr5_10 {sh : Sh} {Mr : MR} {L D : Nat} (h : GX sh Mr L D) : Mr 5 10 = some 14 := h.2.1 19 _ _ _ rfl
theorem gr15_1 {sh : Sh} {Mr : MR} {L D : Nat} (h : GX sh Mr L D) : Mr 15 1 = some 16 := h.2.1 20 _ _ _ rfl
theorem gr15_2 {sh : Sh} {Mr : MR} {L D : Nat} (h : GX sh Mr L D) : Mr 15 2 = some 17 := h.2.1 21 _ _ _ rfl
theorem gr15_3 {sh : Sh} {Mr : MR} {L D : Nat} (h : GX sh Mr L D) : Mr 15 3 = some 18 := h.2.1 22 _ _ _ rfl
theorem gr15_4 {sh : Sh} {Mr : MR} {L D : Nat} (h : GX sh Mr L D) : Mr 15 4 = some 19 := h.2.1 23 _ _ _ rfl
theorem gr15_5 {sh : Sh} {Mr : MR} {L D : Nat} (h : GX sh Mr L D) : Mr 15 5 = some 20 := h.2.1 24 _ _ _ rfl
theorem gr15_7 {sh : Sh} {Mr : MR} {L D : Nat} (h : GX sh Mr L D) : Mr 15 7 = some 21 := h.2.1 25 _ _ _ rfl
theorem gr15_8 {sh : Sh} {Mr : MR} {L D : Nat} (h : GX sh Mr L D) : Mr 15 8 = some 22 := h.2.1 26 _ _ _ rfl
theorem gr15_9 {sh : Sh} {Mr : MR} {L D : Nat} (h : GX sh Mr L D) : Mr 15 9 = some 23 := h.2.1 27 _ _ _ rfl
theorem gr15_10 {sh : Sh} {Mr : MR} {L D : Nat} (h : GX sh Mr L D) : Mr 15 10 = some 24 := h.2.1 28 _ _ _ rfl
theorem gr25_1 {sh : Sh} {Mr : MR} {L D : Nat} (h : GX sh Mr L D) : Mr 25 1 = some 26 := h.2.1 29 _ _ _ rfl
theorem gr25_2 {sh : Sh} {Mr : MR} {L D : Nat} (h : GX sh Mr L D) : Mr 25 2 = some 27 := h.2.1 30 _ _ _ rfl
theorem gr25_3 {sh : Sh} {Mr : MR} {L D : Nat} (h : GX sh Mr L D) : Mr 25 3 = some 28 := h.2.1 31 _ _ _ rfl
theorem gr29_1 {sh : Sh} {Mr : MR} {L D : Nat} (h : GX sh Mr L D) : Mr 29 1 = some 30 := h.2.1 32 _ _ _ rfl
theorem gr29_2 {sh : Sh} {Mr : MR} {L D : Nat} (h : GX sh Mr L D) : Mr 29 2 = some 31 := h.2.1 33 _ _ _ rfl
theorem gr29_3 {sh : Sh} {Mr : MR} {L D : Nat} (h : GX sh Mr L D) : Mr 29 3 = some 32 := h.2.1 34 _ _ _ rfl
theorem gr33_0 {sh : Sh} {Mr : MR} {L D : Nat} (h : GX sh Mr L D) : Mr 33 0 = some 34 := h.2.1 35 _ _ _ rfl
theorem gr34_0 {sh : Sh} {Mr : MR} {L D : Nat} (h : GX sh Mr L D) : Mr 34 0 = some 35 := h.2.1 36 _ _ _ rfl
theorem gr34_1 {sh : Sh} {Mr : MR} {L D : Nat} (h : GX sh Mr L D) : Mr 34 1 = some 39 := h.2.1 37 _ _ _ rfl
theorem gr34_2 {sh : Sh} {Mr : MR} {L D : Nat} (h : GX sh Mr L D) : Mr 34 2 = some 43 := h.2.1 38 _ _ _ rfl
theorem gr34_3 {sh : Sh} {Mr : MR} {L D : Nat} (h : GX sh Mr L D) : Mr 34 3 = some 47 := h.2.1 39 _ _ _ rfl
theorem gr34_4 {sh : Sh} {Mr : MR} {L D : Nat} (h : GX sh Mr L D) : Mr 34 4 = some 51 := h.2.1 40 _ _ _ rfl
theorem gr34_5 {sh : Sh} {Mr : MR} {L D : Nat} (h : GX sh Mr L D) : Mr 34 5 = some 55 := h.2.1 41 _ _ _ rfl
theorem gr34_6 {sh : Sh} {Mr : MR} {L D : Nat} (h : GX sh Mr L D) : Mr 34 6 = some 59 := h.2.1 42 _ _ _ rfl
theorem gr34_7 {sh : Sh} {Mr : MR} {L D : Nat} (h : GX sh Mr L D) : Mr 34 7 = some 63 := h.2.1 43 _ _ _ rfl
theorem gr35_1 {sh : Sh} {Mr : MR} {L D : Nat} (h : GX sh Mr L D) : Mr 35 1 = some 36 := h.2.1 44 _ _ _ rfl
theorem gr35_2 {sh : Sh} {Mr : MR} {L D : Nat} (h : GX sh Mr L D) : Mr 35 2 = some 37 := h.2.1 45 _ _ _ rfl
theorem gr35_3 {sh : Sh} {Mr : MR} {L D : Nat} (h : GX sh Mr L D) : Mr 35 3 = some 38 := h.2.1 46 _ _ _ rfl
theorem gr39_1 {sh : Sh} {Mr : MR} {L D : Nat} (h : GX sh Mr L D) : Mr 39 1 = some 40 := h.2.1 47 _ _ _ rfl
theorem gr39_2 {sh : Sh} {Mr : MR} {L D : Nat} (h : GX sh Mr L D) : Mr 39 2 = some 41 := h.2.1 48 _ _ _ rfl
theorem gr39_3 {sh : Sh} {Mr : MR} {L D : Nat} (h : GX sh Mr L D) : Mr 39 3 = some 42 := h.2.1 49 _ _ _ rfl
theorem gr43_1 {sh : Sh} {Mr : MR} {L D : Nat} (h : GX sh Mr L D) : Mr 43 1 = some 44 := h.2.1 50 _ _ _ rfl
theorem gr43_2 {sh : Sh} {Mr : MR} {L D : Nat} (h : GX sh Mr L D) : Mr 43 2 = some 45 := h.2.1 51 _ _ _ rfl
theorem gr43_3 {sh : Sh} {Mr : MR} {L D : Nat} (h : GX sh Mr L D) : Mr 43 3 = some 46 := h.2.1 52 _ _ _ rfl
theorem gr47_1 {sh : Sh} {Mr : MR} {L D : Nat} (h : GX sh Mr L D) : Mr 47 1 = some 48 := h.2.1 53 _ _ _ rfl
theorem gr47_2 {sh : Sh} {Mr : MR} {L D : Nat} (h : GX sh Mr L D) : Mr 47 2 = some 49 := h.2.1 54 _ _ _ rfl
theorem gr47_3 {sh : Sh} {Mr : MR} {L D : Nat} (h : GX sh Mr L D) : Mr 47 3 = some 50 := h.2.1 55 _ _ _ rfl
theorem gr51_1 {sh : Sh} {Mr : MR} {L D : Nat} (h : GX sh Mr L D) : Mr 51 1 = some 52 := h.2.1 56 _ _ _ rfl
theorem gr51_2 {sh : Sh} {Mr : MR} {L D : Nat} (h : GX sh Mr L D) : Mr 51 2 = some 53 := h.2.1 57 _ _ _ rfl
theorem gr51_3 {sh : Sh} {Mr : MR} {L D : Nat} (h : GX sh Mr L D) : Mr 51 3 = some 54 := h.2.1 58 _ _ _ rfl
theorem gr55_1 {sh : Sh} {Mr : MR} {L D : Nat} (h : GX sh Mr L D) : Mr 55 1 = some 56 := h.2.1 59 _ _ _ rfl
theorem gr55_2 {sh : Sh} {Mr : MR} {L D : Nat} (h : GX sh Mr L D) : Mr 55 2 = some 57 := h.2.1 60 _ _ _ rfl
theorem gr55_3 {sh : Sh} {Mr : MR} {L D : Nat} (h : GX sh Mr L D) : Mr 55 3 = some 58 := h.2.1 61 _ _ _ rfl
theorem gr59_1 {sh : Sh} {Mr : MR} {L D : Nat} (h : GX sh Mr L D) : Mr 59 1 = some 60 := h.2.1 62 _ _ _ rfl
theorem gr59_2 {sh : Sh} {Mr : MR} {L D : Nat} (h : GX sh Mr L D) : Mr 59 2 = some 61 := h.2.1 63 _ _ _ rfl
theorem gr59_3 {sh : Sh} {Mr : MR} {L D : Nat} (h : GX sh Mr L D) : Mr 59 3 = some 62 := h.2.1 64 _ _ _ rfl
theorem gr63_1 {sh : Sh} {Mr : MR} {L D : Nat} (h : GX sh Mr L D) : Mr 63 1 = some 64 := h.2.1 65 _ _ _ rfl
theorem gr63_2 {sh : Sh} {Mr : MR} {L D : Nat} (h : GX sh Mr L D) : Mr 63 2 = some 65 := h.2.1 66 _ _ _ rfl
theorem gr63_3 {sh : Sh} {Mr : MR} {L D : Nat} (h : GX sh Mr L D) : Mr 63 3 = some 66 := h.2.1 67 _ _ _ rfl
theorem gr67_0 {sh : Sh} {Mr : MR} {L D : Nat} (h : GX sh Mr L D) : Mr 67 0 = some 68 := h.2.1 68 _ _ _ rfl
theorem gr68_0 {sh : Sh} {Mr : MR} {L D : Nat} (h : GX sh Mr L D) : Mr 68 0 = some 69 := h.2.1 69 _ _ _ rfl
theorem gr68_1 {sh : Sh} {Mr : MR} {L D : Nat} (h : GX sh Mr L D) : Mr 68 1 = some 73 := h.2.1 70 _ _ _ rfl
theorem gr69_1 {sh : Sh} {Mr : MR} {L D : Nat} (h : GX sh Mr L D) : Mr 69 1 = some 70 := h.2.1 71 _ _ _ rfl
theorem gr69_2 {sh : Sh} {Mr : MR} {L D : Nat} (h : GX sh Mr L D) : Mr 69 2 = some 71 := h.2.1 72 _ _ _ rfl
theorem gr69_3 {sh : Sh} {Mr : MR} {L D : Nat} (h : GX sh Mr L D) : Mr 69 3 = some 72 := h.2.1 73 _ _ _ rfl
theorem gr73_1 {sh : Sh} {Mr : MR} {L D : Nat} (h : GX sh Mr L D) : Mr 73 1 = some 74 := h.2.1 74 _ _ _ rfl
theorem gr73_2 {sh : Sh} {Mr : MR} {L D : Nat} (h : GX sh Mr L D) : Mr 73 2 = some 75 := h.2.1 75 _ _ _ rfl
theorem gr73_3 {sh : Sh} {Mr : MR} {L D : Nat} (h : GX sh Mr L D) : Mr 73 3 = some 76 := h.2.1 76 _ _ _ rfl
theorem gr77_0 {sh : Sh} {Mr : MR} {L D : Nat} (h : GX sh Mr L D) : Mr 77 0 = some 78 := h.2.1 77 _ _ _ rfl
theorem gr77_1 {sh : Sh} {Mr : MR} {L D : Nat} (h : GX sh Mr L D) : Mr 77 1 = some 79 := h.2.1 78 _ _ _ rfl
theorem gr80_0 {sh : Sh} {Mr : MR} {L D : Nat} (h : GX sh Mr L D) : Mr 80 0 = some 81 := h.2.1 79 _ _ _ rfl
theorem gr80_1 {sh : Sh} {Mr : MR} {L D : Nat} (h : GX sh Mr L D) : Mr 80 1 = some 82 := h.2.1 80 _ _ _ rfl
theorem gr80_2 {sh : Sh} {Mr : MR} {L D : Nat} (h : GX sh Mr L D) : Mr 80 2 = some 83 := h.2.1 81 _ _ _ rfl
theorem gr84_0 {sh : Sh} {Mr : MR} {L D : Nat} (h : GX sh Mr L D) : Mr 84 0 = some 85 := h.2.1 82 _ _ _ rfl
theorem gr84_1 {sh : Sh} {Mr : MR} {L D : Nat} (h : GX sh Mr L D) : Mr 84 1 = some 92 := h.2.1 83 _ _ _ rfl
theorem gr84_2 {sh : Sh} {Mr : MR} {L D : Nat} (h : GX sh Mr L D) : Mr 84 2 = some 93 := h.2.1 84 _ _ _ rfl
theorem gr85_0 {sh : Sh} {Mr : MR} {L D : Nat} (h : GX sh Mr L D) : Mr 85 0 = some 86 := h.2.1 85 _ _ _ rfl
theorem gr85_1 {sh : Sh} {Mr : MR} {L D : Nat} (h : GX sh Mr L D) : Mr 85 1 = some 87 := h.2.1 86 _ _ _ rfl
theorem gr85_2 {sh : Sh} {Mr : MR} {L D : Nat} (h : GX sh Mr L D) : Mr 85 2 = some 88 := h.2.1 87 _ _ _ rfl
theorem gr85_3 {sh : Sh} {Mr : MR} {L D : Nat} (h : GX sh Mr L D) : Mr 85 3 = some 89 := h.2.1 88 _ _ _ rfl
theorem gr85_4 {sh : Sh} {Mr : MR} {L D : Nat} (h : GX sh Mr L D) : Mr 85 4 = some 90 := h.2.1 89 _ _ _ rfl
theorem gr85_5 {sh : Sh} {Mr : MR} {L D : Nat} (h : GX sh Mr L D) : Mr 85 5 = some 91 := h.2.1 90 _ _ _ rfl
theorem gr0_2 {sh : Sh} {Mr : MR} {L D : Nat} (h : GX sh Mr L D) : Mr 0 2 = some L := h.2.2.1
theorem gr0_3 {sh : Sh} {Mr : MR} {L D : Nat} (h : GX sh Mr L D) : Mr 0 3 = some D := h.2.2.2.1
theorem la5 {sh : Sh} {Mr : MR} {L D : Nat} (h : GX sh Mr L D) : LA sh Mr 5 := ⟨gx5 h, gr5_1 h, gx6 h, gr5_2 h, gx7 h, gr5_3 h, gx8 h, gr5_4 h, gx9 h, gr5_5 h, gx10 h, gr5_7 h, gx11 h, gr5_8 h, gx12 h, gr5_9 h, gx13 h, gr5_10 h, gx14 h⟩
theorem la15 {sh : Sh} {Mr : MR} {L D : Nat} (h : GX sh Mr L D) : LA sh Mr 15 := ⟨gx15 h, gr15_1 h, gx16 h, gr15_2 h, gx17 h, gr15_3 h, gx18 h, gr15_4 h, gx19 h, gr15_5 h, gx20 h, gr15_7 h, gx21 h, gr15_8 h, gx22 h, gr15_9 h, gx23 h, gr15_10 h, gx24 h⟩
theorem laL {sh : Sh} {Mr : MR} {L D : Nat} (h : GX sh Mr L D) : LA sh Mr L := by
  rcases h.2.2.2.2 with ⟨rfl, rfl⟩ | ⟨rfl, rfl⟩
  · exact la5 h
  · exact la15 h
theorem laD {sh : Sh} {Mr : MR} {L D : Nat} (h : GX sh Mr L D) : LA sh Mr D := by
  rcases h.2.2.2.2 with ⟨rfl, rfl⟩ | ⟨rfl, rfl⟩
  · exact la15 h
  · exact la5 h
theorem sa25 {sh : Sh} {Mr : MR} {L D : Nat} (h : GX sh Mr L D) : SA sh Mr 25 := ⟨gx25 h, gr25_1 h, gx26 h, gr25_2 h, gx27 h, gr25_3 h, gx28 h⟩
theorem sa29 {sh : Sh} {Mr : MR} {L D : Nat} (h : GX sh Mr L D) : SA sh Mr 29 := ⟨gx29 h, gr29_1 h, gx30 h, gr29_2 h, gx31 h, gr29_3 h, gx32 h⟩
theorem sa35 {sh : Sh} {Mr : MR} {L D : Nat} (h : GX sh Mr L D) : SA sh Mr 35 := ⟨gx35 h, gr35_1 h, gx36 h, gr35_2 h, gx37 h, gr35_3 h, gx38 h⟩
theorem sa39 {sh : Sh} {Mr : MR} {L D : Nat} (h : GX sh Mr L D) : SA sh Mr 39 := ⟨gx39 h, gr39_1 h, gx40 h, gr39_2 h, gx41 h, gr39_3 h, gx42 h⟩
theorem sa43 {sh : Sh} {Mr : MR} {L D : Nat} (h : GX sh Mr L D) : SA sh Mr 43 := ⟨gx43 h, gr43_1 h, gx44 h, gr43_2 h, gx45 h, gr43_3 h, gx46 h⟩
theorem sa47 {sh : Sh} {Mr : MR} {L D : Nat} (h : GX sh Mr L D) : SA sh Mr 47 := ⟨gx47 h, gr47_1 h, gx48 h, gr47_2 h, gx49 h, gr47_3 h, gx50 h⟩
theorem sa51 {sh : Sh} {Mr : MR} {L D : Nat} (h : GX sh Mr L D) : SA sh Mr 51 := ⟨gx51 h, gr51_1 h, gx52 h, gr51_2 h, gx53 h, gr51_3 h, gx54 h⟩
theorem sa55 {sh : Sh} {Mr : MR} {L D : Nat} (h : GX sh Mr L D) : SA sh Mr 55 := ⟨gx55 h, gr55_1 h, gx56 h, gr55_2 h, gx57 h, gr55_3 h, gx58 h⟩
theorem sa59 {sh : Sh} {Mr : MR} {L D : Nat} (h : GX sh Mr L D) : SA sh Mr 59 := ⟨gx59 h, gr59_1 h, gx60 h, gr59_2 h, gx61 h, gr59_3 h, gx62 h⟩
theorem sa63 {sh : Sh} {Mr : MR} {L D : Nat} (h : GX sh Mr L D) : SA sh Mr 63 := ⟨gx63 h, gr63_1 h, gx64 h, gr63_2 h, gx65 h, gr63_3 h, gx66 h⟩
theorem sa69 {sh : Sh} {Mr : MR} {L D : Nat} (h : GX sh Mr L D) : SA sh Mr 69 := ⟨gx69 h, gr69_1 h, gx70 h, gr69_2 h, gx71 h, gr69_3 h, gx72 h⟩
theorem sa73 {sh : Sh} {Mr : MR} {L D : Nat} (h : GX sh Mr L D) : SA sh Mr 73 := ⟨gx73 h, gr73_1 h, gx74 h, gr73_2 h, gx75 h, gr73_3 h, gx76 h⟩
/-- a pile of r states, at P -/
def PI (sh : Sh) (Mr : MR) (P r : Nat) : Prop := sh[P]? = some (7, 0) ∧ Mr P 0 = some (P + 1) ∧ sh[P + 1]? = some (1, r) ∧ ∀ i, i < r → Mr (P + 1) i = some (P + 2 + 4 * i) ∧ SA sh Mr (P + 2 + 4 * i)
theorem pi_sh {sh : Sh} {Mr : MR} {P r : Nat} (h : PI sh Mr P r) : sh[P]? = some (7, 0) := h.1
theorem pi_r0 {sh : Sh} {Mr : MR} {P r : Nat} (h : PI sh Mr P r) : Mr P 0 = some (P + 1) := h.2.1
theorem pi_a0 {sh : Sh} {Mr : MR} {P r : Nat} (h : PI sh Mr P r) : sh[P + 1]? = some (1, r) := h.2.2.1
theorem pi33 {sh : Sh} {Mr : MR} {L D : Nat} (h : GX sh Mr L D) : PI sh Mr 33 8 := by
  refine ⟨gx33 h, gr33_0 h, gx34 h, fun i hi => ?_⟩
  rcases (show i = 0 ∨ i = 1 ∨ i = 2 ∨ i = 3 ∨ i = 4 ∨ i = 5 ∨ i = 6 ∨ i = 7 by omega) with rfl | rfl | rfl | rfl | rfl | rfl | rfl | rfl
  · exact ⟨gr34_0 h, sa35 h⟩
  · exact ⟨gr34_1 h, sa39 h⟩
  · exact ⟨gr34_2 h, sa43 h⟩
  · exact ⟨gr34_3 h, sa47 h⟩
  · exact ⟨gr34_4 h, sa51 h⟩
  · exact ⟨gr34_5 h, sa55 h⟩
  · exact ⟨gr34_6 h, sa59 h⟩
  · exact ⟨gr34_7 h, sa63 h⟩
theorem pi67 {sh : Sh} {Mr : MR} {L D : Nat} (h : GX sh Mr L D) : PI sh Mr 67 2 := by
  refine ⟨gx67 h, gr67_0 h, gx68 h, fun i hi => ?_⟩
  rcases (show i = 0 ∨ i = 1 by omega) with rfl | rfl
  · exact ⟨gr68_0 h, sa69 h⟩
  · exact ⟨gr68_1 h, sa73 h⟩
