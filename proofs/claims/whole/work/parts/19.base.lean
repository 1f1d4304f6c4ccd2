def xLy : Ly := [.inr 11, .inl (1, 700), .inr 6, .inr 8, .inl (0, 25), .inr 3, .inl (0, 72), .inr 7, .inl (0, 4), .inl (4, 4), .inl (0, 6), .inl (0, 6), .inl (0, 6), .inl (0, 6), .inr 0, .inl (0, 6), .inl (0, 6), .inl (0, 6), .inl (0, 6), .inl (0, 6), .inr 2, .inl (0, 8), .inl (0, 8), .inl (0, 4), .inl (0, 4), .inr 5, .inl (0, 64), .inl (3, 64), .inr 5, .inl (0, 64), .inl (3, 64), .inl (5, 3), .inr 5, .inl (0, 64), .inl (3, 64), .inr 5, .inl (0, 64), .inl (3, 64), .inr 5, .inl (0, 64), .inl (3, 64), .inr 7, .inl (0, 4), .inl (4, 4), .inl (0, 6), .inl (0, 6), .inl (0, 6), .inl (0, 6), .inr 0, .inl (0, 6), .inl (0, 6), .inl (0, 6), .inl (0, 6), .inl (0, 6), .inr 2, .inl (0, 8), .inl (0, 8), .inl (0, 4), .inl (0, 4), .inr 5, .inl (0, 64), .inl (3, 64), .inr 5, .inl (0, 64), .inl (3, 64), .inl (5, 3), .inr 5, .inl (0, 64), .inl (3, 64), .inr 5, .inl (0, 64), .inl (3, 64), .inr 5, .inl (0, 64), .inl (3, 64), .inr 9, .inr 10, .inl (0, 12), .inl (0, 12), .inl (0, 12), .inr 10, .inl (0, 12), .inl (0, 12), .inl (0, 12), .inl (0, 6), .inl (0, 6), .inl (0, 6), .inr 2, .inl (0, 8), .inl (0, 8), .inl (0, 12), .inl (0, 6), .inr 9, .inr 10, .inl (0, 12), .inl (0, 12), .inl (0, 12), .inr 10, .inl (0, 12), .inl (0, 12), .inl (0, 12), .inl (0, 6), .inl (0, 6), .inl (0, 6), .inr 2, .inl (0, 8), .inl (0, 8), .inl (0, 12), .inl (0, 6), .inr 9, .inr 10, .inl (0, 12), .inl (0, 12), .inl (0, 12), .inr 10, .inl (0, 12), .inl (0, 12), .inl (0, 12), .inl (0, 6), .inl (0, 6), .inl (0, 6), .inr 2, .inl (0, 8), .inl (0, 8), .inl (0, 12), .inl (0, 6), .inl (0, 60), .inl (0, 60), .inr 4, .inl (0, 24), .inl (0, 24), .inl (0, 24), .inl (2, 24), .inl (0, 24), .inr 1, .inl (0, 20), .inl (0, 20), .inl (0, 20), .inr 0, .inl (0, 6), .inl (0, 6), .inl (0, 6), .inl (0, 6), .inl (0, 6), .inr 5, .inl (0, 64), .inl (3, 64), .inl (0, 3), .inl (0, 3)]
def xFin : List (Nat × Nat × Nat) := [(9, 0, 10), (9, 1, 11), (9, 2, 12), (9, 3, 13), (14, 1, 15), (14, 2, 16), (14, 3, 17), (14, 4, 18), (14, 5, 19), (20, 1, 21), (20, 2, 22), (25, 1, 26), (25, 2, 27), (28, 1, 29), (28, 2, 30), (32, 1, 33), (32, 2, 34), (31, 0, 32), (35, 1, 36), (35, 2, 37), (31, 1, 35), (38, 1, 39), (38, 2, 40), (31, 2, 38), (7, 9, 8), (7, 10, 9), (7, 11, 14), (7, 12, 20), (7, 13, 23), (7, 14, 24), (7, 15, 25), (7, 16, 28), (7, 17, 31), (43, 0, 44), (43, 1, 45), (43, 2, 46), (43, 3, 47), (48, 1, 49), (48, 2, 50), (48, 3, 51), (48, 4, 52), (48, 5, 53), (54, 1, 55), (54, 2, 56), (59, 1, 60), (59, 2, 61), (62, 1, 63), (62, 2, 64), (66, 1, 67), (66, 2, 68), (65, 0, 66), (69, 1, 70), (69, 2, 71), (65, 1, 69), (72, 1, 73), (72, 2, 74), (65, 2, 72), (41, 9, 42), (41, 10, 43), (41, 11, 48), (41, 12, 54), (41, 13, 57), (41, 14, 58), (41, 15, 59), (41, 16, 62), (41, 17, 65), (76, 0, 77), (76, 1, 78), (76, 2, 79), (80, 0, 81), (80, 1, 82), (80, 2, 83), (87, 1, 88), (87, 2, 89), (75, 5, 76), (75, 6, 80), (75, 8, 84), (75, 9, 85), (75, 10, 86), (75, 11, 87), (75, 12, 90), (75, 13, 91), (93, 0, 94), (93, 1, 95), (93, 2, 96), (97, 0, 98), (97, 1, 99), (97, 2, 100), (104, 1, 105), (104, 2, 106), (92, 5, 93), (92, 6, 97), (92, 8, 101), (92, 9, 102), (92, 10, 103), (92, 11, 104), (92, 12, 107), (92, 13, 108), (110, 0, 111), (110, 1, 112), (110, 2, 113), (114, 0, 115), (114, 1, 116), (114, 2, 117), (121, 1, 122), (121, 2, 123), (109, 5, 110), (109, 6, 114), (109, 8, 118), (109, 9, 119), (109, 10, 120), (109, 11, 121), (109, 12, 124), (109, 13, 125), (128, 2, 129), (128, 3, 130), (128, 4, 131), (128, 5, 132), (128, 6, 133), (134, 1, 135), (134, 2, 136), (134, 3, 137), (138, 1, 139), (138, 2, 140), (138, 3, 141), (138, 4, 142), (138, 5, 143), (144, 1, 145), (144, 2, 146), (0, 0, 1), (0, 2, 2), (0, 5, 75), (0, 6, 92), (0, 7, 109), (0, 9, 126), (0, 10, 127), (0, 11, 128), (0, 12, 134), (0, 13, 138), (0, 14, 144), (0, 15, 147), (0, 16, 148), (2, 2, 3), (2, 3, 5), (3, 4, 1), (3, 7, 4), (5, 0, 3), (5, 3, 6)]
/-- the class's cells and final pointers -/
def XW (ly : Ly) (R : Nat → Nat → Option Nat) : Prop := (∀ k, k < 149 → ly[k]? = xLy[k]?) ∧ ∀ q ∈ xFin, R q.1 q.2.1 = some q.2.2
theorem xc0 {ly : Ly} {R : Nat → Nat → Option Nat} (h : XW ly R) : ly[0]? = some (.inr 11) := h.1 0 (by decide)
theorem xc1 {ly : Ly} {R : Nat → Nat → Option Nat} (h : XW ly R) : ly[1]? = some (.inl (1, 700)) := h.1 1 (by decide)
theorem xc2 {ly : Ly} {R : Nat → Nat → Option Nat} (h : XW ly R) : ly[2]? = some (.inr 6) := h.1 2 (by decide)
theorem xc3 {ly : Ly} {R : Nat → Nat → Option Nat} (h : XW ly R) : ly[3]? = some (.inr 8) := h.1 3 (by decide)
theorem xc4 {ly : Ly} {R : Nat → Nat → Option Nat} (h : XW ly R) : ly[4]? = some (.inl (0, 25)) := h.1 4 (by decide)
theorem xc5 {ly : Ly} {R : Nat → Nat → Option Nat} (h : XW ly R) : ly[5]? = some (.inr 3) := h.1 5 (by decide)
theorem xc6 {ly : Ly} {R : Nat → Nat → Option Nat} (h : XW ly R) : ly[6]? = some (.inl (0, 72)) := h.1 6 (by decide)
theorem xc7 {ly : Ly} {R : Nat → Nat → Option Nat} (h : XW ly R) : ly[7]? = some (.inr 7) := h.1 7 (by decide)
theorem xc8 {ly : Ly} {R : Nat → Nat → Option Nat} (h : XW ly R) : ly[8]? = some (.inl (0, 4)) := h.1 8 (by decide)
theorem xc9 {ly : Ly} {R : Nat → Nat → Option Nat} (h : XW ly R) : ly[9]? = some (.inl (4, 4)) := h.1 9 (by decide)
theorem xc10 {ly : Ly} {R : Nat → Nat → Option Nat} (h : XW ly R) : ly[10]? = some (.inl (0, 6)) := h.1 10 (by decide)
theorem xc11 {ly : Ly} {R : Nat → Nat → Option Nat} (h : XW ly R) : ly[11]? = some (.inl (0, 6)) := h.1 11 (by decide)
theorem xc12 {ly : Ly} {R : Nat → Nat → Option Nat} (h : XW ly R) : ly[12]? = some (.inl (0, 6)) := h.1 12 (by decide)
theorem xc13 {ly : Ly} {R : Nat → Nat → Option Nat} (h : XW ly R) : ly[13]? = some (.inl (0, 6)) := h.1 13 (by decide)
theorem xc14 {ly : Ly} {R : Nat → Nat → Option Nat} (h : XW ly R) : ly[14]? = some (.inr 0) := h.1 14 (by decide)
theorem xc15 {ly : Ly} {R : Nat → Nat → Option Nat} (h : XW ly R) : ly[15]? = some (.inl (0, 6)) := h.1 15 (by decide)
theorem xc16 {ly : Ly} {R : Nat → Nat → Option Nat} (h : XW ly R) : ly[16]? = some (.inl (0, 6)) := h.1 16 (by decide)
theorem xc17 {ly : Ly} {R : Nat → Nat → Option Nat} (h : XW ly R) : ly[17]? = some (.inl (0, 6)) := h.1 17 (by decide)
theorem xc18 {ly : Ly} {R : Nat → Nat → Option Nat} (h : XW ly R) : ly[18]? = some (.inl (0, 6)) := h.1 18 (by decide)
theorem xc19 {ly : Ly} {R : Nat → Nat → Option Nat} (h : XW ly R) : ly[19]? = some (.inl (0, 6)) := h.1 19 (by decide)
theorem xc20 {ly : Ly} {R : Nat → Nat → Option Nat} (h : XW ly R) : ly[20]? = some (.inr 2) := h.1 20 (by decide)
theorem xc21 {ly : Ly} {R : Nat → Nat → Option Nat} (h : XW ly R) : ly[21]? = some (.inl (0, 8)) := h.1 21 (by decide)
theorem xc22 {ly : Ly} {R : Nat → Nat → Option Nat} (h : XW ly R) : ly[22]? = some (.inl (0, 8)) := h.1 22 (by decide)
theorem xc23 {ly : Ly} {R : Nat → Nat → Option Nat} (h : XW ly R) : ly[23]? = some (.inl (0, 4)) := h.1 23 (by decide)
theorem xc24 {ly : Ly} {R : Nat → Nat → Option Nat} (h : XW ly R) : ly[24]? = some (.inl (0, 4)) := h.1 24 (by decide)
theorem xc25 {ly : Ly} {R : Nat → Nat → Option Nat} (h : XW ly R) : ly[25]? = some (.inr 5) := h.1 25 (by decide)
theorem xc26 {ly : Ly} {R : Nat → Nat → Option Nat} (h : XW ly R) : ly[26]? = some (.inl (0, 64)) := h.1 26 (by decide)
theorem xc27 {ly : Ly} {R : Nat → Nat → Option Nat} (h : XW ly R) : ly[27]? = some (.inl (3, 64)) := h.1 27 (by decide)
theorem xc28 {ly : Ly} {R : Nat → Nat → Option Nat} (h : XW ly R) : ly[28]? = some (.inr 5) := h.1 28 (by decide)
theorem xc29 {ly : Ly} {R : Nat → Nat → Option Nat} (h : XW ly R) : ly[29]? = some (.inl (0, 64)) := h.1 29 (by decide)
theorem xc30 {ly : Ly} {R : Nat → Nat → Option Nat} (h : XW ly R) : ly[30]? = some (.inl (3, 64)) := h.1 30 (by decide)
theorem xc31 {ly : Ly} {R : Nat → Nat → Option Nat} (h : XW ly R) : ly[31]? = some (.inl (5, 3)) := h.1 31 (by decide)
theorem xc32 {ly : Ly} {R : Nat → Nat → Option Nat} (h : XW ly R) : ly[32]? = some (.inr 5) := h.1 32 (by decide)
theorem xc33 {ly : Ly} {R : Nat → Nat → Option Nat} (h : XW ly R) : ly[33]? = some (.inl (0, 64)) := h.1 33 (by decide)
theorem xc34 {ly : Ly} {R : Nat → Nat → Option Nat} (h : XW ly R) : ly[34]? = some (.inl (3, 64)) := h.1 34 (by decide)
theorem xc35 {ly : Ly} {R : Nat → Nat → Option Nat} (h : XW ly R) : ly[35]? = some (.inr 5) := h.1 35 (by decide)
theorem xc36 {ly : Ly} {R : Nat → Nat → Option Nat} (h : XW ly R) : ly[36]? = some (.inl (0, 64)) := h.1 36 (by decide)
theorem xc37 {ly : Ly} {R : Nat → Nat → Option Nat} (h : XW ly R) : ly[37]? = some (.inl (3, 64)) := h.1 37 (by decide)
theorem xc38 {ly : Ly} {R : Nat → Nat → Option Nat} (h : XW ly R) : ly[38]? = some (.inr 5) := h.1 38 (by decide)
theorem xc39 {ly : Ly} {R : Nat → Nat → Option Nat} (h : XW ly R) : ly[39]? = some (.inl (0, 64)) := h.1 39 (by decide)
theorem xc40 {ly : Ly} {R : Nat → Nat → Option Nat} (h : XW ly R) : ly[40]? = some (.inl (3, 64)) := h.1 40 (by decide)
theorem xc41 {ly : Ly} {R : Nat → Nat → Option Nat} (h : XW ly R) : ly[41]? = some (.inr 7) := h.1 41 (by decide)
theorem xc42 {ly : Ly} {R : Nat → Nat → Option Nat} (h : XW ly R) : ly[42]? = some (.inl (0, 4)) := h.1 42 (by decide)
theorem xc43 {ly : Ly} {R : Nat → Nat → Option Nat} (h : XW ly R) : ly[43]? = some (.inl (4, 4)) := h.1 43 (by decide)
theorem xc44 {ly : Ly} {R : Nat → Nat → Option Nat} (h : XW ly R) : ly[44]? = some (.inl (0, 6)) := h.1 44 (by decide)
theorem xc45 {ly : Ly} {R : Nat → Nat → Option Nat} (h : XW ly R) : ly[45]? = some (.inl (0, 6)) := h.1 45 (by decide)
theorem xc46 {ly : Ly} {R : Nat → Nat → Option Nat} (h : XW ly R) : ly[46]? = some (.inl (0, 6)) := h.1 46 (by decide)
theorem xc47 {ly : Ly} {R : Nat → Nat → Option Nat} (h : XW ly R) : ly[47]? = some (.inl (0, 6)) := h.1 47 (by decide)
theorem xc48 {ly : Ly} {R : Nat → Nat → Option Nat} (h : XW ly R) : ly[48]? = some (.inr 0) := h.1 48 (by decide)
theorem xc49 {ly : Ly} {R : Nat → Nat → Option Nat} (h : XW ly R) : ly[49]? = some (.inl (0, 6)) := h.1 49 (by decide)
theorem xc50 {ly : Ly} {R : Nat → Nat → Option Nat} (h : XW ly R) : ly[50]? = some (.inl (0, 6)) := h.1 50 (by decide)
theorem xc51 {ly : Ly} {R : Nat → Nat → Option Nat} (h : XW ly R) : ly[51]? = some (.inl (0, 6)) := h.1 51 (by decide)
theorem xc52 {ly : Ly} {R : Nat → Nat → Option Nat} (h : XW ly R) : ly[52]? = some (.inl (0, 6)) := h.1 52 (by decide)
theorem xc53 {ly : Ly} {R : Nat → Nat → Option Nat} (h : XW ly R) : ly[53]? = some (.inl (0, 6)) := h.1 53 (by decide)
theorem xc54 {ly : Ly} {R : Nat → Nat → Option Nat} (h : XW ly R) : ly[54]? = some (.inr 2) := h.1 54 (by decide)
theorem xc55 {ly : Ly} {R : Nat → Nat → Option Nat} (h : XW ly R) : ly[55]? = some (.inl (0, 8)) := h.1 55 (by decide)
theorem xc56 {ly : Ly} {R : Nat → Nat → Option Nat} (h : XW ly R) : ly[56]? = some (.inl (0, 8)) := h.1 56 (by decide)
theorem xc57 {ly : Ly} {R : Nat → Nat → Option Nat} (h : XW ly R) : ly[57]? = some (.inl (0, 4)) := h.1 57 (by decide)
theorem xc58 {ly : Ly} {R : Nat → Nat → Option Nat} (h : XW ly R) : ly[58]? = some (.inl (0, 4)) := h.1 58 (by decide)
theorem xc59 {ly : Ly} {R : Nat → Nat → Option Nat} (h : XW ly R) : ly[59]? = some (.inr 5) := h.1 59 (by decide)
theorem xc60 {ly : Ly} {R : Nat → Nat → Option Nat} (h : XW ly R) : ly[60]? = some (.inl (0, 64)) := h.1 60 (by decide)
theorem xc61 {ly : Ly} {R : Nat → Nat → Option Nat} (h : XW ly R) : ly[61]? = some (.inl (3, 64)) := h.1 61 (by decide)
theorem xc62 {ly : Ly} {R : Nat → Nat → Option Nat} (h : XW ly R) : ly[62]? = some (.inr 5) := h.1 62 (by decide)
theorem xc63 {ly : Ly} {R : Nat → Nat → Option Nat} (h : XW ly R) : ly[63]? = some (.inl (0, 64)) := h.1 63 (by decide)
theorem xc64 {ly : Ly} {R : Nat → Nat → Option Nat} (h : XW ly R) : ly[64]? = some (.inl (3, 64)) := h.1 64 (by decide)
theorem xc65 {ly : Ly} {R : Nat → Nat → Option Nat} (h : XW ly R) : ly[65]? = some (.inl (5, 3)) := h.1 65 (by decide)
theorem xc66 {ly : Ly} {R : Nat → Nat → Option Nat} (h : XW ly R) : ly[66]? = some (.inr 5) := h.1 66 (by decide)
theorem xc67 {ly : Ly} {R : Nat → Nat → Option Nat} (h : XW ly R) : ly[67]? = some (.inl (0, 64)) := h.1 67 (by decide)
theorem xc68 {ly : Ly} {R : Nat → Nat → Option Nat} (h : XW ly R) : ly[68]? = some (.inl (3, 64)) := h.1 68 (by decide)
theorem xc69 {ly : Ly} {R : Nat → Nat → Option Nat} (h : XW ly R) : ly[69]? = some (.inr 5) := h.1 69 (by decide)
theorem xc70 {ly : Ly} {R : Nat → Nat → Option Nat} (h : XW ly R) : ly[70]? = some (.inl (0, 64)) := h.1 70 (by decide)
theorem xc71 {ly : Ly} {R : Nat → Nat → Option Nat} (h : XW ly R) : ly[71]? = some (.inl (3, 64)) := h.1 71 (by decide)
theorem xc72 {ly : Ly} {R : Nat → Nat → Option Nat} (h : XW ly R) : ly[72]? = some (.inr 5) := h.1 72 (by decide)
theorem xc73 {ly : Ly} {R : Nat → Nat → Option Nat} (h : XW ly R) : ly[73]? = some (.inl (0, 64)) := h.1 73 (by decide)
theorem xc74 {ly : Ly} {R : Nat → Nat → Option Nat} (h : XW ly R) : ly[74]? = some (.inl (3, 64)) := h.1 74 (by decide)
theorem xc75 {ly : Ly} {R : Nat → Nat → Option Nat} (h : XW ly R) : ly[75]? = some (.inr 9) := h.1 75 (by decide)
theorem xc76 {ly : Ly} {R : Nat → Nat → Option Nat} (h : XW ly R) : ly[76]? = some (.inr 10) := h.1 76 (by decide)
theorem xc77 {ly : Ly} {R : Nat → Nat → Option Nat} (h : XW ly R) : ly[77]? = some (.inl (0, 12)) := h.1 77 (by decide)
theorem xc78 {ly : Ly} {R : Nat → Nat → Option Nat} (h : XW ly R) : ly[78]? = some (.inl (0, 12)) := h.1 78 (by decide)
theorem xc79 {ly : Ly} {R : Nat → Nat → Option Nat} (h : XW ly R) : ly[79]? = some (.inl (0, 12)) := h.1 79 (by decide)
theorem xc80 {ly : Ly} {R : Nat → Nat → Option Nat} (h : XW ly R) : ly[80]? = some (.inr 10) := h.1 80 (by decide)
theorem xc81 {ly : Ly} {R : Nat → Nat → Option Nat} (h : XW ly R) : ly[81]? = some (.inl (0, 12)) := h.1 81 (by decide)
theorem xc82 {ly : Ly} {R : Nat → Nat → Option Nat} (h : XW ly R) : ly[82]? = some (.inl (0, 12)) := h.1 82 (by decide)
theorem xc83 {ly : Ly} {R : Nat → Nat → Option Nat} (h : XW ly R) : ly[83]? = some (.inl (0, 12)) := h.1 83 (by decide)
theorem xc84 {ly : Ly} {R : Nat → Nat → Option Nat} (h : XW ly R) : ly[84]? = some (.inl (0, 6)) := h.1 84 (by decide)
theorem xc85 {ly : Ly} {R : Nat → Nat → Option Nat} (h : XW ly R) : ly[85]? = some (.inl (0, 6)) := h.1 85 (by decide)
theorem xc86 {ly : Ly} {R : Nat → Nat → Option Nat} (h : XW ly R) : ly[86]? = some (.inl (0, 6)) := h.1 86 (by decide)
theorem xc87 {ly : Ly} {R : Nat → Nat → Option Nat} (h : XW ly R) : ly[87]? = some (.inr 2) := h.1 87 (by decide)
theorem xc88 {ly : Ly} {R : Nat → Nat → Option Nat} (h : XW ly R) : ly[88]? = some (.inl (0, 8)) := h.1 88 (by decide)
theorem xc89 {ly : Ly} {R : Nat → Nat → Option Nat} (h : XW ly R) : ly[89]? = some (.inl (0, 8)) := h.1 89 (by decide)
theorem xc90 {ly : Ly} {R : Nat → Nat → Option Nat} (h : XW ly R) : ly[90]? = some (.inl (0, 12)) := h.1 90 (by decide)
theorem xc91 {ly : Ly} {R : Nat → Nat → Option Nat} (h : XW ly R) : ly[91]? = some (.inl (0, 6)) := h.1 91 (by decide)
theorem xc92 {ly : Ly} {R : Nat → Nat → Option Nat} (h : XW ly R) : ly[92]? = some (.inr 9) := h.1 92 (by decide)
theorem xc93 {ly : Ly} {R : Nat → Nat → Option Nat} (h : XW ly R) : ly[93]? = some (.inr 10) := h.1 93 (by decide)
theorem xc94 {ly : Ly} {R : Nat → Nat → Option Nat} (h : XW ly R) : ly[94]? = some (.inl (0, 12)) := h.1 94 (by decide)
theorem xc95 {ly : Ly} {R : Nat → Nat → Option Nat} (h : XW ly R) : ly[95]? = some (.inl (0, 12)) := h.1 95 (by decide)
theorem xc96 {ly : Ly} {R : Nat → Nat → Option Nat} (h : XW ly R) : ly[96]? = some (.inl (0, 12)) := h.1 96 (by decide)
theorem xc97 {ly : Ly} {R : Nat → Nat → Option Nat} (h : XW ly R) : ly[97]? = some (.inr 10) := h.1 97 (by decide)
theorem xc98 {ly : Ly} {R : Nat → Nat → Option Nat} (h : XW ly R) : ly[98]? = some (.inl (0, 12)) := h.1 98 (by decide)
theorem xc99 {ly : Ly} {R : Nat → Nat → Option Nat} (h : XW ly R) : ly[99]? = some (.inl (0, 12)) := h.1 99 (by decide)
theorem xc100 {ly : Ly} {R : Nat → Nat → Option Nat} (h : XW ly R) : ly[100]? = some (.inl (0, 12)) := h.1 100 (by decide)
theorem xc101 {ly : Ly} {R : Nat → Nat → Option Nat} (h : XW ly R) : ly[101]? = some (.inl (0, 6)) := h.1 101 (by decide)
theorem xc102 {ly : Ly} {R : Nat → Nat → Option Nat} (h : XW ly R) : ly[102]? = some (.inl (0, 6)) := h.1 102 (by decide)
theorem xc103 {ly : Ly} {R : Nat → Nat → Option Nat} (h : XW ly R) : ly[103]? = some (.inl (0, 6)) := h.1 103 (by decide)
theorem xc104 {ly : Ly} {R : Nat → Nat → Option Nat} (h : XW ly R) : ly[104]? = some (.inr 2) := h.1 104 (by decide)
theorem xc105 {ly : Ly} {R : Nat → Nat → Option Nat} (h : XW ly R) : ly[105]? = some (.inl (0, 8)) := h.1 105 (by decide)
theorem xc106 {ly : Ly} {R : Nat → Nat → Option Nat} (h : XW ly R) : ly[106]? = some (.inl (0, 8)) := h.1 106 (by decide)
theorem xc107 {ly : Ly} {R : Nat → Nat → Option Nat} (h : XW ly R) : ly[107]? = some (.inl (0, 12)) := h.1 107 (by decide)
theorem xc108 {ly : Ly} {R : Nat → Nat → Option Nat} (h : XW ly R) : ly[108]? = some (.inl (0, 6)) := h.1 108 (by decide)
theorem xc109 {ly : Ly} {R : Nat → Nat → Option Nat} (h : XW ly R) : ly[109]? = some (.inr 9) := h.1 109 (by decide)
theorem xc110 {ly : Ly} {R : Nat → Nat → Option Nat} (h : XW ly R) : ly[110]? = some (.inr 10) := h.1 110 (by decide)
theorem xc111 {ly : Ly} {R : Nat → Nat → Option Nat} (h : XW ly R) : ly[111]? = some (.inl (0, 12)) := h.1 111 (by decide)
theorem xc112 {ly : Ly} {R : Nat → Nat → Option Nat} (h : XW ly R) : ly[112]? = some (.inl (0, 12)) := h.1 112 (by decide)
theorem xc113 {ly : Ly} {R : Nat → Nat → Option Nat} (h : XW ly R) : ly[113]? = some (.inl (0, 12)) := h.1 113 (by decide)
theorem xc114 {ly : Ly} {R : Nat → Nat → Option Nat} (h : XW ly R) : ly[114]? = some (.inr 10) := h.1 114 (by decide)
theorem xc115 {ly : Ly} {R : Nat → Nat → Option Nat} (h : XW ly R) : ly[115]? = some (.inl (0, 12)) := h.1 115 (by decide)
theorem xc116 {ly : Ly} {R : Nat → Nat → Option Nat} (h : XW ly R) : ly[116]? = some (.inl (0, 12)) := h.1 116 (by decide)
theorem xc117 {ly : Ly} {R : Nat → Nat → Option Nat} (h : XW ly R) : ly[117]? = some (.inl (0, 12)) := h.1 117 (by decide)
theorem xc118 {ly : Ly} {R : Nat → Nat → Option Nat} (h : XW ly R) : ly[118]? = some (.inl (0, 6)) := h.1 118 (by decide)
theorem xc119 {ly : Ly} {R : Nat → Nat → Option Nat} (h : XW ly R) : ly[119]? = some (.inl (0, 6)) := h.1 119 (by decide)
theorem xc120 {ly : Ly} {R : Nat → Nat → Option Nat} (h : XW ly R) : ly[120]? = some (.inl (0, 6)) := h.1 120 (by decide)
theorem xc121 {ly : Ly} {R : Nat → Nat → Option Nat} (h : XW ly R) : ly[121]? = some (.inr 2) := h.1 121 (by decide)
theorem xc122 {ly : Ly} {R : Nat → Nat → Option Nat} (h : XW ly R) : ly[122]? = some (.inl (0, 8)) := h.1 122 (by decide)
theorem xc123 {ly : Ly} {R : Nat → Nat → Option Nat} (h : XW ly R) : ly[123]? = some (.inl (0, 8)) := h.1 123 (by decide)
theorem xc124 {ly : Ly} {R : Nat → Nat → Option Nat} (h : XW ly R) : ly[124]? = some (.inl (0, 12)) := h.1 124 (by decide)
theorem xc125 {ly : Ly} {R : Nat → Nat → Option Nat} (h : XW ly R) : ly[125]? = some (.inl (0, 6)) := h.1 125 (by decide)
theorem xc126 {ly : Ly} {R : Nat → Nat → Option Nat} (h : XW ly R) : ly[126]? = some (.inl (0, 60)) := h.1 126 (by decide)
theorem xc127 {ly : Ly} {R : Nat → Nat → Option Nat} (h : XW ly R) : ly[127]? = some (.inl (0, 60)) := h.1 127 (by decide)
theorem xc128 {ly : Ly} {R : Nat → Nat → Option Nat} (h : XW ly R) : ly[128]? = some (.inr 4) := h.1 128 (by decide)
theorem xc129 {ly : Ly} {R : Nat → Nat → Option Nat} (h : XW ly R) : ly[129]? = some (.inl (0, 24)) := h.1 129 (by decide)
theorem xc130 {ly : Ly} {R : Nat → Nat → Option Nat} (h : XW ly R) : ly[130]? = some (.inl (0, 24)) := h.1 130 (by decide)
theorem xc131 {ly : Ly} {R : Nat → Nat → Option Nat} (h : XW ly R) : ly[131]? = some (.inl (0, 24)) := h.1 131 (by decide)
theorem xc132 {ly : Ly} {R : Nat → Nat → Option Nat} (h : XW ly R) : ly[132]? = some (.inl (2, 24)) := h.1 132 (by decide)
theorem xc133 {ly : Ly} {R : Nat → Nat → Option Nat} (h : XW ly R) : ly[133]? = some (.inl (0, 24)) := h.1 133 (by decide)
theorem xc134 {ly : Ly} {R : Nat → Nat → Option Nat} (h : XW ly R) : ly[134]? = some (.inr 1) := h.1 134 (by decide)
theorem xc135 {ly : Ly} {R : Nat → Nat → Option Nat} (h : XW ly R) : ly[135]? = some (.inl (0, 20)) := h.1 135 (by decide)
theorem xc136 {ly : Ly} {R : Nat → Nat → Option Nat} (h : XW ly R) : ly[136]? = some (.inl (0, 20)) := h.1 136 (by decide)
theorem xc137 {ly : Ly} {R : Nat → Nat → Option Nat} (h : XW ly R) : ly[137]? = some (.inl (0, 20)) := h.1 137 (by decide)
theorem xc138 {ly : Ly} {R : Nat → Nat → Option Nat} (h : XW ly R) : ly[138]? = some (.inr 0) := h.1 138 (by decide)
theorem xc139 {ly : Ly} {R : Nat → Nat → Option Nat} (h : XW ly R) : ly[139]? = some (.inl (0, 6)) := h.1 139 (by decide)
theorem xc140 {ly : Ly} {R : Nat → Nat → Option Nat} (h : XW ly R) : ly[140]? = some (.inl (0, 6)) := h.1 140 (by decide)
theorem xc141 {ly : Ly} {R : Nat → Nat → Option Nat} (h : XW ly R) : ly[141]? = some (.inl (0, 6)) := h.1 141 (by decide)
theorem xc142 {ly : Ly} {R : Nat → Nat → Option Nat} (h : XW ly R) : ly[142]? = some (.inl (0, 6)) := h.1 142 (by decide)
theorem xc143 {ly : Ly} {R : Nat → Nat → Option Nat} (h : XW ly R) : ly[143]? = some (.inl (0, 6)) := h.1 143 (by decide)
theorem xc144 {ly : Ly} {R : Nat → Nat → Option Nat} (h : XW ly R) : ly[144]? = some (.inr 5) := h.1 144 (by decide)
theorem xc145 {ly : Ly} {R : Nat → Nat → Option Nat} (h : XW ly R) : ly[145]? = some (.inl (0, 64)) := h.1 145 (by decide)
theorem xc146 {ly : Ly} {R : Nat → Nat → Option Nat} (h : XW ly R) : ly[146]? = some (.inl (3, 64)) := h.1 146 (by decide)
theorem xc147 {ly : Ly} {R : Nat → Nat → Option Nat} (h : XW ly R) : ly[147]? = some (.inl (0, 3)) := h.1 147 (by decide)
theorem xc148 {ly : Ly} {R : Nat → Nat → Option Nat} (h : XW ly R) : ly[148]? = some (.inl (0, 3)) := h.1 148 (by decide)
theorem xp9_0 {ly : Ly} {R : Nat → Nat → Option Nat} (h : XW ly R) : R 9 0 = some 10 := h.2 (9, 0, 10) (by decide)
theorem xp9_1 {ly : Ly} {R : Nat → Nat → Option Nat} (h : XW ly R) : R 9 1 = some 11 := h.2 (9, 1, 11) (by decide)
theorem xp9_2 {ly : Ly} {R : Nat → Nat → Option Nat} (h : XW ly R) : R 9 2 = some 12 := h.2 (9, 2, 12) (by decide)
theorem xp9_3 {ly : Ly} {R : Nat → Nat → Option Nat} (h : XW ly R) : R 9 3 = some 13 := h.2 (9, 3, 13) (by decide)
theorem xp14_1 {ly : Ly} {R : Nat → Nat → Option Nat} (h : XW ly R) : R 14 1 = some 15 := h.2 (14, 1, 15) (by decide)
theorem xp14_2 {ly : Ly} {R : Nat → Nat → Option Nat} (h : XW ly R) : R 14 2 = some 16 := h.2 (14, 2, 16) (by decide)
theorem xp14_3 {ly : Ly} {R : Nat → Nat → Option Nat} (h : XW ly R) : R 14 3 = some 17 := h.2 (14, 3, 17) (by decide)
theorem xp14_4 {ly : Ly} {R : Nat → Nat → Option Nat} (h : XW ly R) : R 14 4 = some 18 := h.2 (14, 4, 18) (by decide)
theorem xp14_5 {ly : Ly} {R : Nat → Nat → Option Nat} (h : XW ly R) : R 14 5 = some 19 := h.2 (14, 5, 19) (by decide)
theorem xp20_1 {ly : Ly} {R : Nat → Nat → Option Nat} (h : XW ly R) : R 20 1 = some 21 := h.2 (20, 1, 21) (by decide)
theorem xp20_2 {ly : Ly} {R : Nat → Nat → Option Nat} (h : XW ly R) : R 20 2 = some 22 := h.2 (20, 2, 22) (by decide)
theorem xp25_1 {ly : Ly} {R : Nat → Nat → Option Nat} (h : XW ly R) : R 25 1 = some 26 := h.2 (25, 1, 26) (by decide)
theorem xp25_2 {ly : Ly} {R : Nat → Nat → Option Nat} (h : XW ly R) : R 25 2 = some 27 := h.2 (25, 2, 27) (by decide)
theorem xp28_1 {ly : Ly} {R : Nat → Nat → Option Nat} (h : XW ly R) : R 28 1 = some 29 := h.2 (28, 1, 29) (by decide)
theorem xp28_2 {ly : Ly} {R : Nat → Nat → Option Nat} (h : XW ly R) : R 28 2 = some 30 := h.2 (28, 2, 30) (by decide)
theorem xp32_1 {ly : Ly} {R : Nat → Nat → Option Nat} (h : XW ly R) : R 32 1 = some 33 := h.2 (32, 1, 33) (by decide)
theorem xp32_2 {ly : Ly} {R : Nat → Nat → Option Nat} (h : XW ly R) : R 32 2 = some 34 := h.2 (32, 2, 34) (by decide)
theorem xp31_0 {ly : Ly} {R : Nat → Nat → Option Nat} (h : XW ly R) : R 31 0 = some 32 := h.2 (31, 0, 32) (by decide)
theorem xp35_1 {ly : Ly} {R : Nat → Nat → Option Nat} (h : XW ly R) : R 35 1 = some 36 := h.2 (35, 1, 36) (by decide)
theorem xp35_2 {ly : Ly} {R : Nat → Nat → Option Nat} (h : XW ly R) : R 35 2 = some 37 := h.2 (35, 2, 37) (by decide)
theorem xp31_1 {ly : Ly} {R : Nat → Nat → Option Nat} (h : XW ly R) : R 31 1 = some 35 := h.2 (31, 1, 35) (by decide)
theorem xp38_1 {ly : Ly} {R : Nat → Nat → Option Nat} (h : XW ly R) : R 38 1 = some 39 := h.2 (38, 1, 39) (by decide)
theorem xp38_2 {ly : Ly} {R : Nat → Nat → Option Nat} (h : XW ly R) : R 38 2 = some 40 := h.2 (38, 2, 40) (by decide)
theorem xp31_2 {ly : Ly} {R : Nat → Nat → Option Nat} (h : XW ly R) : R 31 2 = some 38 := h.2 (31, 2, 38) (by decide)
theorem xp7_9 {ly : Ly} {R : Nat → Nat → Option Nat} (h : XW ly R) : R 7 9 = some 8 := h.2 (7, 9, 8) (by decide)
theorem xp7_10 {ly : Ly} {R : Nat → Nat → Option Nat} (h : XW ly R) : R 7 10 = some 9 := h.2 (7, 10, 9) (by decide)
theorem xp7_11 {ly : Ly} {R : Nat → Nat → Option Nat} (h : XW ly R) : R 7 11 = some 14 := h.2 (7, 11, 14) (by decide)
theorem xp7_12 {ly : Ly} {R : Nat → Nat → Option Nat} (h : XW ly R) : R 7 12 = some 20 := h.2 (7, 12, 20) (by decide)
theorem xp7_13 {ly : Ly} {R : Nat → Nat → Option Nat} (h : XW ly R) : R 7 13 = some 23 := h.2 (7, 13, 23) (by decide)
theorem xp7_14 {ly : Ly} {R : Nat → Nat → Option Nat} (h : XW ly R) : R 7 14 = some 24 := h.2 (7, 14, 24) (by decide)
theorem xp7_15 {ly : Ly} {R : Nat → Nat → Option Nat} (h : XW ly R) : R 7 15 = some 25 := h.2 (7, 15, 25) (by decide)
theorem xp7_16 {ly : Ly} {R : Nat → Nat → Option Nat} (h : XW ly R) : R 7 16 = some 28 := h.2 (7, 16, 28) (by decide)
theorem xp7_17 {ly : Ly} {R : Nat → Nat → Option Nat} (h : XW ly R) : R 7 17 = some 31 := h.2 (7, 17, 31) (by decide)
theorem xp43_0 {ly : Ly} {R : Nat → Nat → Option Nat} (h : XW ly R) : R 43 0 = some 44 := h.2 (43, 0, 44) (by decide)
theorem xp43_1 {ly : Ly} {R : Nat → Nat → Option Nat} (h : XW ly R) : R 43 1 = some 45 := h.2 (43, 1, 45) (by decide)
theorem xp43_2 {ly : Ly} {R : Nat → Nat → Option Nat} (h : XW ly R) : R 43 2 = some 46 := h.2 (43, 2, 46) (by decide)
theorem xp43_3 {ly : Ly} {R : Nat → Nat → Option Nat} (h : XW ly R) : R 43 3 = some 47 := h.2 (43, 3, 47) (by decide)
theorem xp48_1 {ly : Ly} {R : Nat → Nat → Option Nat} (h : XW ly R) : R 48 1 = some 49 := h.2 (48, 1, 49) (by decide)
theorem xp48_2 {ly : Ly} {R : Nat → Nat → Option Nat} (h : XW ly R) : R 48 2 = some 50 := h.2 (48, 2, 50) (by decide)
theorem xp48_3 {ly : Ly} {R : Nat → Nat → Option Nat} (h : XW ly R) : R 48 3 = some 51 := h.2 (48, 3, 51) (by decide)
theorem xp48_4 {ly : Ly} {R : Nat → Nat → Option Nat} (h : XW ly R) : R 48 4 = some 52 := h.2 (48, 4, 52) (by decide)
theorem xp48_5 {ly : Ly} {R : Nat → Nat → Option Nat} (h : XW ly R) : R 48 5 = some 53 := h.2 (48, 5, 53) (by decide)
theorem xp54_1 {ly : Ly} {R : Nat → Nat → Option Nat} (h : XW ly R) : R 54 1 = some 55 := h.2 (54, 1, 55) (by decide)
theorem xp54_2 {ly : Ly} {R : Nat → Nat → Option Nat} (h : XW ly R) : R 54 2 = some 56 := h.2 (54, 2, 56) (by decide)
theorem xp59_1 {ly : Ly} {R : Nat → Nat → Option Nat} (h : XW ly R) : R 59 1 = some 60 := h.2 (59, 1, 60) (by decide)
theorem xp59_2 {ly : Ly} {R : Nat → Nat → Option Nat} (h : XW ly R) : R 59 2 = some 61 := h.2 (59, 2, 61) (by decide)
theorem xp62_1 {ly : Ly} {R : Nat → Nat → Option Nat} (h : XW ly R) : R 62 1 = some 63 := h.2 (62, 1, 63) (by decide)
theorem xp62_2 {ly : Ly} {R : Nat → Nat → Option Nat} (h : XW ly R) : R 62 2 = some 64 := h.2 (62, 2, 64) (by decide)
theorem xp66_1 {ly : Ly} {R : Nat → Nat → Option Nat} (h : XW ly R) : R 66 1 = some 67 := h.2 (66, 1, 67) (by decide)
theorem xp66_2 {ly : Ly} {R : Nat → Nat → Option Nat} (h : XW ly R) : R 66 2 = some 68 := h.2 (66, 2, 68) (by decide)
theorem xp65_0 {ly : Ly} {R : Nat → Nat → Option Nat} (h : XW ly R) : R 65 0 = some 66 := h.2 (65, 0, 66) (by decide)
theorem xp69_1 {ly : Ly} {R : Nat → Nat → Option Nat} (h : XW ly R) : R 69 1 = some 70 := h.2 (69, 1, 70) (by decide)
theorem xp69_2 {ly : Ly} {R : Nat → Nat → Option Nat} (h : XW ly R) : R 69 2 = some 71 := h.2 (69, 2, 71) (by decide)
theorem xp65_1 {ly : Ly} {R : Nat → Nat → Option Nat} (h : XW ly R) : R 65 1 = some 69 := h.2 (65, 1, 69) (by decide)
theorem xp72_1 {ly : Ly} {R : Nat → Nat → Option Nat} (h : XW ly R) : R 72 1 = some 73 := h.2 (72, 1, 73) (by decide)
theorem xp72_2 {ly : Ly} {R : Nat → Nat → Option Nat} (h : XW ly R) : R 72 2 = some 74 := h.2 (72, 2, 74) (by decide)
theorem xp65_2 {ly : Ly} {R : Nat → Nat → Option Nat} (h : XW ly R) : R 65 2 = some 72 := h.2 (65, 2, 72) (by decide)
theorem xp41_9 {ly : Ly} {R : Nat → Nat → Option Nat} (h : XW ly R) : R 41 9 = some 42 := h.2 (41, 9, 42) (by decide)
theorem xp41_10 {ly : Ly} {R : Nat → Nat → Option Nat} (h : XW ly R) : R 41 10 = some 43 := h.2 (41, 10, 43) (by decide)
theorem xp41_11 {ly : Ly} {R : Nat → Nat → Option Nat} (h : XW ly R) : R 41 11 = some 48 := h.2 (41, 11, 48) (by decide)
theorem xp41_12 {ly : Ly} {R : Nat → Nat → Option Nat} (h : XW ly R) : R 41 12 = some 54 := h.2 (41, 12, 54) (by decide)
theorem xp41_13 {ly : Ly} {R : Nat → Nat → Option Nat} (h : XW ly R) : R 41 13 = some 57 := h.2 (41, 13, 57) (by decide)
theorem xp41_14 {ly : Ly} {R : Nat → Nat → Option Nat} (h : XW ly R) : R 41 14 = some 58 := h.2 (41, 14, 58) (by decide)
theorem xp41_15 {ly : Ly} {R : Nat → Nat → Option Nat} (h : XW ly R) : R 41 15 = some 59 := h.2 (41, 15, 59) (by decide)
theorem xp41_16 {ly : Ly} {R : Nat → Nat → Option Nat} (h : XW ly R) : R 41 16 = some 62 := h.2 (41, 16, 62) (by decide)
theorem xp41_17 {ly : Ly} {R : Nat → Nat → Option Nat} (h : XW ly R) : R 41 17 = some 65 := h.2 (41, 17, 65) (by decide)
theorem xp76_0 {ly : Ly} {R : Nat → Nat → Option Nat} (h : XW ly R) : R 76 0 = some 77 := h.2 (76, 0, 77) (by decide)
theorem xp76_1 {ly : Ly} {R : Nat → Nat → Option Nat} (h : XW ly R) : R 76 1 = some 78 := h.2 (76, 1, 78) (by decide)
theorem xp76_2 {ly : Ly} {R : Nat → Nat → Option Nat} (h : XW ly R) : R 76 2 = some 79 := h.2 (76, 2, 79) (by decide)
theorem xp80_0 {ly : Ly} {R : Nat → Nat → Option Nat} (h : XW ly R) : R 80 0 = some 81 := h.2 (80, 0, 81) (by decide)
theorem xp80_1 {ly : Ly} {R : Nat → Nat → Option Nat} (h : XW ly R) : R 80 1 = some 82 := h.2 (80, 1, 82) (by decide)
theorem xp80_2 {ly : Ly} {R : Nat → Nat → Option Nat} (h : XW ly R) : R 80 2 = some 83 := h.2 (80, 2, 83) (by decide)
theorem xp87_1 {ly : Ly} {R : Nat → Nat → Option Nat} (h : XW ly R) : R 87 1 = some 88 := h.2 (87, 1, 88) (by decide)
theorem xp87_2 {ly : Ly} {R : Nat → Nat → Option Nat} (h : XW ly R) : R 87 2 = some 89 := h.2 (87, 2, 89) (by decide)
theorem xp75_5 {ly : Ly} {R : Nat → Nat → Option Nat} (h : XW ly R) : R 75 5 = some 76 := h.2 (75, 5, 76) (by decide)
theorem xp75_6 {ly : Ly} {R : Nat → Nat → Option Nat} (h : XW ly R) : R 75 6 = some 80 := h.2 (75, 6, 80) (by decide)
theorem xp75_8 {ly : Ly} {R : Nat → Nat → Option Nat} (h : XW ly R) : R 75 8 = some 84 := h.2 (75, 8, 84) (by decide)
theorem xp75_9 {ly : Ly} {R : Nat → Nat → Option Nat} (h : XW ly R) : R 75 9 = some 85 := h.2 (75, 9, 85) (by decide)
theorem xp75_10 {ly : Ly} {R : Nat → Nat → Option Nat} (h : XW ly R) : R 75 10 = some 86 := h.2 (75, 10, 86) (by decide)
theorem xp75_11 {ly : Ly} {R : Nat → Nat → Option Nat} (h : XW ly R) : R 75 11 = some 87 := h.2 (75, 11, 87) (by decide)
theorem xp75_12 {ly : Ly} {R : Nat → Nat → Option Nat} (h : XW ly R) : R 75 12 = some 90 := h.2 (75, 12, 90) (by decide)
theorem xp75_13 {ly : Ly} {R : Nat → Nat → Option Nat} (h : XW ly R) : R 75 13 = some 91 := h.2 (75, 13, 91) (by decide)
theorem xp93_0 {ly : Ly} {R : Nat → Nat → Option Nat} (h : XW ly R) : R 93 0 = some 94 := h.2 (93, 0, 94) (by decide)
theorem xp93_1 {ly : Ly} {R : Nat → Nat → Option Nat} (h : XW ly R) : R 93 1 = some 95 := h.2 (93, 1, 95) (by decide)
theorem xp93_2 {ly : Ly} {R : Nat → Nat → Option Nat} (h : XW ly R) : R 93 2 = some 96 := h.2 (93, 2, 96) (by decide)
theorem xp97_0 {ly : Ly} {R : Nat → Nat → Option Nat} (h : XW ly R) : R 97 0 = some 98 := h.2 (97, 0, 98) (by decide)
theorem xp97_1 {ly : Ly} {R : Nat → Nat → Option Nat} (h : XW ly R) : R 97 1 = some 99 := h.2 (97, 1, 99) (by decide)
theorem xp97_2 {ly : Ly} {R : Nat → Nat → Option Nat} (h : XW ly R) : R 97 2 = some 100 := h.2 (97, 2, 100) (by decide)
theorem xp104_1 {ly : Ly} {R : Nat → Nat → Option Nat} (h : XW ly R) : R 104 1 = some 105 := h.2 (104, 1, 105) (by decide)
theorem xp104_2 {ly : Ly} {R : Nat → Nat → Option Nat} (h : XW ly R) : R 104 2 = some 106 := h.2 (104, 2, 106) (by decide)
theorem xp92_5 {ly : Ly} {R : Nat → Nat → Option Nat} (h : XW ly R) : R 92 5 = some 93 := h.2 (92, 5, 93) (by decide)
theorem xp92_6 {ly : Ly} {R : Nat → Nat → Option Nat} (h : XW ly R) : R 92 6 = some 97 := h.2 (92, 6, 97) (by decide)
theorem xp92_8 {ly : Ly} {R : Nat → Nat → Option Nat} (h : XW ly R) : R 92 8 = some 101 := h.2 (92, 8, 101) (by decide)
theorem xp92_9 {ly : Ly} {R : Nat → Nat → Option Nat} (h : XW ly R) : R 92 9 = some 102 := h.2 (92, 9, 102) (by decide)
theorem xp92_10 {ly : Ly} {R : Nat → Nat → Option Nat} (h : XW ly R) : R 92 10 = some 103 := h.2 (92, 10, 103) (by decide)
theorem xp92_11 {ly : Ly} {R : Nat → Nat → Option Nat} (h : XW ly R) : R 92 11 = some 104 := h.2 (92, 11, 104) (by decide)
theorem xp92_12 {ly : Ly} {R : Nat → Nat → Option Nat} (h : XW ly R) : R 92 12 = some 107 := h.2 (92, 12, 107) (by decide)
theorem xp92_13 {ly : Ly} {R : Nat → Nat → Option Nat} (h : XW ly R) : R 92 13 = some 108 := h.2 (92, 13, 108) (by decide)
theorem xp110_0 {ly : Ly} {R : Nat → Nat → Option Nat} (h : XW ly R) : R 110 0 = some 111 := h.2 (110, 0, 111) (by decide)
theorem xp110_1 {ly : Ly} {R : Nat → Nat → Option Nat} (h : XW ly R) : R 110 1 = some 112 := h.2 (110, 1, 112) (by decide)
theorem xp110_2 {ly : Ly} {R : Nat → Nat → Option Nat} (h : XW ly R) : R 110 2 = some 113 := h.2 (110, 2, 113) (by decide)
theorem xp114_0 {ly : Ly} {R : Nat → Nat → Option Nat} (h : XW ly R) : R 114 0 = some 115 := h.2 (114, 0, 115) (by decide)
theorem xp114_1 {ly : Ly} {R : Nat → Nat → Option Nat} (h : XW ly R) : R 114 1 = some 116 := h.2 (114, 1, 116) (by decide)
theorem xp114_2 {ly : Ly} {R : Nat → Nat → Option Nat} (h : XW ly R) : R 114 2 = some 117 := h.2 (114, 2, 117) (by decide)
theorem xp121_1 {ly : Ly} {R : Nat → Nat → Option Nat} (h : XW ly R) : R 121 1 = some 122 := h.2 (121, 1, 122) (by decide)
theorem xp121_2 {ly : Ly} {R : Nat → Nat → Option Nat} (h : XW ly R) : R 121 2 = some 123 := h.2 (121, 2, 123) (by decide)
theorem xp109_5 {ly : Ly} {R : Nat → Nat → Option Nat} (h : XW ly R) : R 109 5 = some 110 := h.2 (109, 5, 110) (by decide)
theorem xp109_6 {ly : Ly} {R : Nat → Nat → Option Nat} (h : XW ly R) : R 109 6 = some 114 := h.2 (109, 6, 114) (by decide)
theorem xp109_8 {ly : Ly} {R : Nat → Nat → Option Nat} (h : XW ly R) : R 109 8 = some 118 := h.2 (109, 8, 118) (by decide)
theorem xp109_9 {ly : Ly} {R : Nat → Nat → Option Nat} (h : XW ly R) : R 109 9 = some 119 := h.2 (109, 9, 119) (by decide)
theorem xp109_10 {ly : Ly} {R : Nat → Nat → Option Nat} (h : XW ly R) : R 109 10 = some 120 := h.2 (109, 10, 120) (by decide)
theorem xp109_11 {ly : Ly} {R : Nat → Nat → Option Nat} (h : XW ly R) : R 109 11 = some 121 := h.2 (109, 11, 121) (by decide)
theorem xp109_12 {ly : Ly} {R : Nat → Nat → Option Nat} (h : XW ly R) : R 109 12 = some 124 := h.2 (109, 12, 124) (by decide)
theorem xp109_13 {ly : Ly} {R : Nat → Nat → Option Nat} (h : XW ly R) : R 109 13 = some 125 := h.2 (109, 13, 125) (by decide)
theorem xp128_2 {ly : Ly} {R : Nat → Nat → Option Nat} (h : XW ly R) : R 128 2 = some 129 := h.2 (128, 2, 129) (by decide)
theorem xp128_3 {ly : Ly} {R : Nat → Nat → Option Nat} (h : XW ly R) : R 128 3 = some 130 := h.2 (128, 3, 130) (by decide)
theorem xp128_4 {ly : Ly} {R : Nat → Nat → Option Nat} (h : XW ly R) : R 128 4 = some 131 := h.2 (128, 4, 131) (by decide)
theorem xp128_5 {ly : Ly} {R : Nat → Nat → Option Nat} (h : XW ly R) : R 128 5 = some 132 := h.2 (128, 5, 132) (by decide)
theorem xp128_6 {ly : Ly} {R : Nat → Nat → Option Nat} (h : XW ly R) : R 128 6 = some 133 := h.2 (128, 6, 133) (by decide)
theorem xp134_1 {ly : Ly} {R : Nat → Nat → Option Nat} (h : XW ly R) : R 134 1 = some 135 := h.2 (134, 1, 135) (by decide)
theorem xp134_2 {ly : Ly} {R : Nat → Nat → Option Nat} (h : XW ly R) : R 134 2 = some 136 := h.2 (134, 2, 136) (by decide)
theorem xp134_3 {ly : Ly} {R : Nat → Nat → Option Nat} (h : XW ly R) : R 134 3 = some 137 := h.2 (134, 3, 137) (by decide)
theorem xp138_1 {ly : Ly} {R : Nat → Nat → Option Nat} (h : XW ly R) : R 138 1 = some 139 := h.2 (138, 1, 139) (by decide)
theorem xp138_2 {ly : Ly} {R : Nat → Nat → Option Nat} (h : XW ly R) : R 138 2 = some 140 := h.2 (138, 2, 140) (by decide)
theorem xp138_3 {ly : Ly} {R : Nat → Nat → Option Nat} (h : XW ly R) : R 138 3 = some 141 := h.2 (138, 3, 141) (by decide)
theorem xp138_4 {ly : Ly} {R : Nat → Nat → Option Nat} (h : XW ly R) : R 138 4 = some 142 := h.2 (138, 4, 142) (by decide)
theorem xp138_5 {ly : Ly} {R : Nat → Nat → Option Nat} (h : XW ly R) : R 138 5 = some 143 := h.2 (138, 5, 143) (by decide)
theorem xp144_1 {ly : Ly} {R : Nat → Nat → Option Nat} (h : XW ly R) : R 144 1 = some 145 := h.2 (144, 1, 145) (by decide)
theorem xp144_2 {ly : Ly} {R : Nat → Nat → Option Nat} (h : XW ly R) : R 144 2 = some 146 := h.2 (144, 2, 146) (by decide)
theorem xp0_0 {ly : Ly} {R : Nat → Nat → Option Nat} (h : XW ly R) : R 0 0 = some 1 := h.2 (0, 0, 1) (by decide)
theorem xp0_2 {ly : Ly} {R : Nat → Nat → Option Nat} (h : XW ly R) : R 0 2 = some 2 := h.2 (0, 2, 2) (by decide)
theorem xp0_5 {ly : Ly} {R : Nat → Nat → Option Nat} (h : XW ly R) : R 0 5 = some 75 := h.2 (0, 5, 75) (by decide)
theorem xp0_6 {ly : Ly} {R : Nat → Nat → Option Nat} (h : XW ly R) : R 0 6 = some 92 := h.2 (0, 6, 92) (by decide)
theorem xp0_7 {ly : Ly} {R : Nat → Nat → Option Nat} (h : XW ly R) : R 0 7 = some 109 := h.2 (0, 7, 109) (by decide)
theorem xp0_9 {ly : Ly} {R : Nat → Nat → Option Nat} (h : XW ly R) : R 0 9 = some 126 := h.2 (0, 9, 126) (by decide)
theorem xp0_10 {ly : Ly} {R : Nat → Nat → Option Nat} (h : XW ly R) : R 0 10 = some 127 := h.2 (0, 10, 127) (by decide)
theorem xp0_11 {ly : Ly} {R : Nat → Nat → Option Nat} (h : XW ly R) : R 0 11 = some 128 := h.2 (0, 11, 128) (by decide)
theorem xp0_12 {ly : Ly} {R : Nat → Nat → Option Nat} (h : XW ly R) : R 0 12 = some 134 := h.2 (0, 12, 134) (by decide)
theorem xp0_13 {ly : Ly} {R : Nat → Nat → Option Nat} (h : XW ly R) : R 0 13 = some 138 := h.2 (0, 13, 138) (by decide)
theorem xp0_14 {ly : Ly} {R : Nat → Nat → Option Nat} (h : XW ly R) : R 0 14 = some 144 := h.2 (0, 14, 144) (by decide)
theorem xp0_15 {ly : Ly} {R : Nat → Nat → Option Nat} (h : XW ly R) : R 0 15 = some 147 := h.2 (0, 15, 147) (by decide)
theorem xp0_16 {ly : Ly} {R : Nat → Nat → Option Nat} (h : XW ly R) : R 0 16 = some 148 := h.2 (0, 16, 148) (by decide)
theorem xp2_2 {ly : Ly} {R : Nat → Nat → Option Nat} (h : XW ly R) : R 2 2 = some 3 := h.2 (2, 2, 3) (by decide)
theorem xp2_3 {ly : Ly} {R : Nat → Nat → Option Nat} (h : XW ly R) : R 2 3 = some 5 := h.2 (2, 3, 5) (by decide)
theorem xp3_4 {ly : Ly} {R : Nat → Nat → Option Nat} (h : XW ly R) : R 3 4 = some 1 := h.2 (3, 4, 1) (by decide)
theorem xp3_7 {ly : Ly} {R : Nat → Nat → Option Nat} (h : XW ly R) : R 3 7 = some 4 := h.2 (3, 7, 4) (by decide)
theorem xp5_0 {ly : Ly} {R : Nat → Nat → Option Nat} (h : XW ly R) : R 5 0 = some 3 := h.2 (5, 0, 3) (by decide)
theorem xp5_3 {ly : Ly} {R : Nat → Nat → Option Nat} (h : XW ly R) : R 5 3 = some 6 := h.2 (5, 3, 6) (by decide)
def iPlan (ly : Ly) (M : Mm) (p : Nat) : Prop := ly[p]? = some (.inr 7) ∧ ly[p + 1]? = some (.inl (0, 4)) ∧ ly[p + 2]? = some (.inl (4, 4)) ∧ ly[p + 3]? = some (.inl (0, 6)) ∧ ly[p + 4]? = some (.inl (0, 6)) ∧ ly[p + 5]? = some (.inl (0, 6)) ∧ ly[p + 6]? = some (.inl (0, 6)) ∧ ly[p + 7]? = some (.inr 0) ∧ ly[p + 8]? = some (.inl (0, 6)) ∧ ly[p + 9]? = some (.inl (0, 6)) ∧ ly[p + 10]? = some (.inl (0, 6)) ∧ ly[p + 11]? = some (.inl (0, 6)) ∧ ly[p + 12]? = some (.inl (0, 6)) ∧ ly[p + 13]? = some (.inr 2) ∧ ly[p + 14]? = some (.inl (0, 8)) ∧ ly[p + 15]? = some (.inl (0, 8)) ∧ ly[p + 16]? = some (.inl (0, 4)) ∧ ly[p + 17]? = some (.inl (0, 4)) ∧ ly[p + 18]? = some (.inr 5) ∧ ly[p + 19]? = some (.inl (0, 64)) ∧ ly[p + 20]? = some (.inl (3, 64)) ∧ ly[p + 21]? = some (.inr 5) ∧ ly[p + 22]? = some (.inl (0, 64)) ∧ ly[p + 23]? = some (.inl (3, 64)) ∧ ly[p + 24]? = some (.inl (5, 3)) ∧ ly[p + 25]? = some (.inr 5) ∧ ly[p + 26]? = some (.inl (0, 64)) ∧ ly[p + 27]? = some (.inl (3, 64)) ∧ ly[p + 28]? = some (.inr 5) ∧ ly[p + 29]? = some (.inl (0, 64)) ∧ ly[p + 30]? = some (.inl (3, 64)) ∧ ly[p + 31]? = some (.inr 5) ∧ ly[p + 32]? = some (.inl (0, 64)) ∧ ly[p + 33]? = some (.inl (3, 64)) ∧ M.2.2 (p + 2) 0 = some (p + 3) ∧ M.2.2 (p + 2) 1 = some (p + 4) ∧ M.2.2 (p + 2) 2 = some (p + 5) ∧ M.2.2 (p + 2) 3 = some (p + 6) ∧ M.2.2 (p + 7) 1 = some (p + 8) ∧ M.2.2 (p + 7) 2 = some (p + 9) ∧ M.2.2 (p + 7) 3 = some (p + 10) ∧ M.2.2 (p + 7) 4 = some (p + 11) ∧ M.2.2 (p + 7) 5 = some (p + 12) ∧ M.2.2 (p + 13) 1 = some (p + 14) ∧ M.2.2 (p + 13) 2 = some (p + 15) ∧ M.2.2 (p + 18) 1 = some (p + 19) ∧ M.2.2 (p + 18) 2 = some (p + 20) ∧ M.2.2 (p + 21) 1 = some (p + 22) ∧ M.2.2 (p + 21) 2 = some (p + 23) ∧ M.2.2 (p + 25) 1 = some (p + 26) ∧ M.2.2 (p + 25) 2 = some (p + 27) ∧ M.2.2 (p + 24) 0 = some (p + 25) ∧ M.2.2 (p + 28) 1 = some (p + 29) ∧ M.2.2 (p + 28) 2 = some (p + 30) ∧ M.2.2 (p + 24) 1 = some (p + 28) ∧ M.2.2 (p + 31) 1 = some (p + 32) ∧ M.2.2 (p + 31) 2 = some (p + 33) ∧ M.2.2 (p + 24) 2 = some (p + 31) ∧ M.2.2 p 9 = some (p + 1) ∧ M.2.2 p 10 = some (p + 2) ∧ M.2.2 p 11 = some (p + 7) ∧ M.2.2 p 12 = some (p + 13) ∧ M.2.2 p 13 = some (p + 16) ∧ M.2.2 p 14 = some (p + 17) ∧ M.2.2 p 15 = some (p + 18) ∧ M.2.2 p 16 = some (p + 21) ∧ M.2.2 p 17 = some (p + 24)
theorem xScene75 {ly : Ly} {M : Mm} (h : XW ly M.2.2) : iScene ly M 75 := ⟨xc75 h, xc76 h, xc77 h, xc78 h, xc79 h, xc80 h, xc81 h, xc82 h, xc83 h, xc84 h, xc85 h, xc86 h, xc87 h, xc88 h, xc89 h, xc90 h, xc91 h, xp75_5 h, xp75_6 h, xp75_8 h, xp75_9 h, xp75_10 h, xp75_11 h, xp75_12 h, xp75_13 h, xp76_0 h, xp76_1 h, xp76_2 h, xp80_0 h, xp80_1 h, xp80_2 h, xp87_1 h, xp87_2 h⟩
theorem xScene92 {ly : Ly} {M : Mm} (h : XW ly M.2.2) : iScene ly M 92 := ⟨xc92 h, xc93 h, xc94 h, xc95 h, xc96 h, xc97 h, xc98 h, xc99 h, xc100 h, xc101 h, xc102 h, xc103 h, xc104 h, xc105 h, xc106 h, xc107 h, xc108 h, xp92_5 h, xp92_6 h, xp92_8 h, xp92_9 h, xp92_10 h, xp92_11 h, xp92_12 h, xp92_13 h, xp93_0 h, xp93_1 h, xp93_2 h, xp97_0 h, xp97_1 h, xp97_2 h, xp104_1 h, xp104_2 h⟩
theorem xScene109 {ly : Ly} {M : Mm} (h : XW ly M.2.2) : iScene ly M 109 := ⟨xc109 h, xc110 h, xc111 h, xc112 h, xc113 h, xc114 h, xc115 h, xc116 h, xc117 h, xc118 h, xc119 h, xc120 h, xc121 h, xc122 h, xc123 h, xc124 h, xc125 h, xp109_5 h, xp109_6 h, xp109_8 h, xp109_9 h, xp109_10 h, xp109_11 h, xp109_12 h, xp109_13 h, xp110_0 h, xp110_1 h, xp110_2 h, xp114_0 h, xp114_1 h, xp114_2 h, xp121_1 h, xp121_2 h⟩
theorem xPlan7 {ly : Ly} {M : Mm} (h : XW ly M.2.2) : iPlan ly M 7 := ⟨xc7 h, xc8 h, xc9 h, xc10 h, xc11 h, xc12 h, xc13 h, xc14 h, xc15 h, xc16 h, xc17 h, xc18 h, xc19 h, xc20 h, xc21 h, xc22 h, xc23 h, xc24 h, xc25 h, xc26 h, xc27 h, xc28 h, xc29 h, xc30 h, xc31 h, xc32 h, xc33 h, xc34 h, xc35 h, xc36 h, xc37 h, xc38 h, xc39 h, xc40 h, xp9_0 h, xp9_1 h, xp9_2 h, xp9_3 h, xp14_1 h, xp14_2 h, xp14_3 h, xp14_4 h, xp14_5 h, xp20_1 h, xp20_2 h, xp25_1 h, xp25_2 h, xp28_1 h, xp28_2 h, xp32_1 h, xp32_2 h, xp31_0 h, xp35_1 h, xp35_2 h, xp31_1 h, xp38_1 h, xp38_2 h, xp31_2 h, xp7_9 h, xp7_10 h, xp7_11 h, xp7_12 h, xp7_13 h, xp7_14 h, xp7_15 h, xp7_16 h, xp7_17 h⟩
theorem xPlan41 {ly : Ly} {M : Mm} (h : XW ly M.2.2) : iPlan ly M 41 := ⟨xc41 h, xc42 h, xc43 h, xc44 h, xc45 h, xc46 h, xc47 h, xc48 h, xc49 h, xc50 h, xc51 h, xc52 h, xc53 h, xc54 h, xc55 h, xc56 h, xc57 h, xc58 h, xc59 h, xc60 h, xc61 h, xc62 h, xc63 h, xc64 h, xc65 h, xc66 h, xc67 h, xc68 h, xc69 h, xc70 h, xc71 h, xc72 h, xc73 h, xc74 h, xp43_0 h, xp43_1 h, xp43_2 h, xp43_3 h, xp48_1 h, xp48_2 h, xp48_3 h, xp48_4 h, xp48_5 h, xp54_1 h, xp54_2 h, xp59_1 h, xp59_2 h, xp62_1 h, xp62_2 h, xp66_1 h, xp66_2 h, xp65_0 h, xp69_1 h, xp69_2 h, xp65_1 h, xp72_1 h, xp72_2 h, xp65_2 h, xp41_9 h, xp41_10 h, xp41_11 h, xp41_12 h, xp41_13 h, xp41_14 h, xp41_15 h, xp41_16 h, xp41_17 h⟩
theorem xCrowd14 {ly : Ly} {M : Mm} (h : XW ly M.2.2) : iCrowd ly M 14 := ⟨xc14 h, xc15 h, xc16 h, xc17 h, xc18 h, xc19 h, xp14_1 h, xp14_2 h, xp14_3 h, xp14_4 h, xp14_5 h⟩
theorem xCrowd48 {ly : Ly} {M : Mm} (h : XW ly M.2.2) : iCrowd ly M 48 := ⟨xc48 h, xc49 h, xc50 h, xc51 h, xc52 h, xc53 h, xp48_1 h, xp48_2 h, xp48_3 h, xp48_4 h, xp48_5 h⟩
theorem xCrowd138 {ly : Ly} {M : Mm} (h : XW ly M.2.2) : iCrowd ly M 138 := ⟨xc138 h, xc139 h, xc140 h, xc141 h, xc142 h, xc143 h, xp138_1 h, xp138_2 h, xp138_3 h, xp138_4 h, xp138_5 h⟩
theorem xLaw25 {ly : Ly} {M : Mm} (h : XW ly M.2.2) : iLaw ly M 25 := ⟨xc25 h, xc26 h, xc27 h, xp25_1 h, xp25_2 h⟩
theorem xLaw28 {ly : Ly} {M : Mm} (h : XW ly M.2.2) : iLaw ly M 28 := ⟨xc28 h, xc29 h, xc30 h, xp28_1 h, xp28_2 h⟩
theorem xLaw32 {ly : Ly} {M : Mm} (h : XW ly M.2.2) : iLaw ly M 32 := ⟨xc32 h, xc33 h, xc34 h, xp32_1 h, xp32_2 h⟩
theorem xLaw35 {ly : Ly} {M : Mm} (h : XW ly M.2.2) : iLaw ly M 35 := ⟨xc35 h, xc36 h, xc37 h, xp35_1 h, xp35_2 h⟩
theorem xLaw38 {ly : Ly} {M : Mm} (h : XW ly M.2.2) : iLaw ly M 38 := ⟨xc38 h, xc39 h, xc40 h, xp38_1 h, xp38_2 h⟩
theorem xLaw59 {ly : Ly} {M : Mm} (h : XW ly M.2.2) : iLaw ly M 59 := ⟨xc59 h, xc60 h, xc61 h, xp59_1 h, xp59_2 h⟩
theorem xLaw62 {ly : Ly} {M : Mm} (h : XW ly M.2.2) : iLaw ly M 62 := ⟨xc62 h, xc63 h, xc64 h, xp62_1 h, xp62_2 h⟩
theorem xLaw66 {ly : Ly} {M : Mm} (h : XW ly M.2.2) : iLaw ly M 66 := ⟨xc66 h, xc67 h, xc68 h, xp66_1 h, xp66_2 h⟩
theorem xLaw69 {ly : Ly} {M : Mm} (h : XW ly M.2.2) : iLaw ly M 69 := ⟨xc69 h, xc70 h, xc71 h, xp69_1 h, xp69_2 h⟩
theorem xLaw72 {ly : Ly} {M : Mm} (h : XW ly M.2.2) : iLaw ly M 72 := ⟨xc72 h, xc73 h, xc74 h, xp72_1 h, xp72_2 h⟩
theorem xLaw144 {ly : Ly} {M : Mm} (h : XW ly M.2.2) : iLaw ly M 144 := ⟨xc144 h, xc145 h, xc146 h, xp144_1 h, xp144_2 h⟩
theorem xGroans {ly : Ly} {M : Mm} (h : XW ly M.2.2) : iGroans ly M 128 := ⟨xc128 h, xc129 h, xc130 h, xc131 h, xc132 h, xc133 h, xp128_2 h, xp128_3 h, xp128_4 h, xp128_5 h, xp128_6 h⟩
theorem xDeeds {ly : Ly} {M : Mm} (h : XW ly M.2.2) : iDeeds ly M 134 := ⟨xc134 h, xc135 h, xc136 h, xc137 h, xp134_1 h, xp134_2 h, xp134_3 h⟩
/-- a plan's parts -/
theorem iPlan.crowd {ly : Ly} {M : Mm} {p : Nat} (h : XW ly M.2.2) (hp : p = 7 ∨ p = 41) : iCrowd ly M (p + 7) := by rcases hp with rfl | rfl; exact xCrowd14 h; exact xCrowd48 h
theorem iPlan.push {ly : Ly} {M : Mm} {p : Nat} (h : XW ly M.2.2) (hp : p = 7 ∨ p = 41) : iLaw ly M (p + 18) := by rcases hp with rfl | rfl; exact xLaw25 h; exact xLaw59 h
theorem iPlan.side {ly : Ly} {M : Mm} {p : Nat} (h : XW ly M.2.2) (hp : p = 7 ∨ p = 41) : iLaw ly M (p + 21) := by rcases hp with rfl | rfl; exact xLaw28 h; exact xLaw62 h
theorem iPlan.of {ly : Ly} {M : Mm} {p : Nat} (h : XW ly M.2.2) (hp : p = 7 ∨ p = 41) : iPlan ly M p := by rcases hp with rfl | rfl; exact xPlan7 h; exact xPlan41 h
theorem pc0 {ly : Ly} {R : Nat → Nat → Option Nat} {p : Nat} (h : XW ly R) (hp : p = 7 ∨ p = 41) : ly[p]? = some (.inr 7) := by rcases hp with rfl | rfl; exact xc7 h; exact xc41 h
theorem pc1 {ly : Ly} {R : Nat → Nat → Option Nat} {p : Nat} (h : XW ly R) (hp : p = 7 ∨ p = 41) : ly[p + 1]? = some (.inl (0, 4)) := by rcases hp with rfl | rfl; exact xc8 h; exact xc42 h
theorem pc2 {ly : Ly} {R : Nat → Nat → Option Nat} {p : Nat} (h : XW ly R) (hp : p = 7 ∨ p = 41) : ly[p + 2]? = some (.inl (4, 4)) := by rcases hp with rfl | rfl; exact xc9 h; exact xc43 h
theorem pc3 {ly : Ly} {R : Nat → Nat → Option Nat} {p : Nat} (h : XW ly R) (hp : p = 7 ∨ p = 41) : ly[p + 3]? = some (.inl (0, 6)) := by rcases hp with rfl | rfl; exact xc10 h; exact xc44 h
theorem pc4 {ly : Ly} {R : Nat → Nat → Option Nat} {p : Nat} (h : XW ly R) (hp : p = 7 ∨ p = 41) : ly[p + 4]? = some (.inl (0, 6)) := by rcases hp with rfl | rfl; exact xc11 h; exact xc45 h
theorem pc5 {ly : Ly} {R : Nat → Nat → Option Nat} {p : Nat} (h : XW ly R) (hp : p = 7 ∨ p = 41) : ly[p + 5]? = some (.inl (0, 6)) := by rcases hp with rfl | rfl; exact xc12 h; exact xc46 h
theorem pc6 {ly : Ly} {R : Nat → Nat → Option Nat} {p : Nat} (h : XW ly R) (hp : p = 7 ∨ p = 41) : ly[p + 6]? = some (.inl (0, 6)) := by rcases hp with rfl | rfl; exact xc13 h; exact xc47 h
theorem pc7 {ly : Ly} {R : Nat → Nat → Option Nat} {p : Nat} (h : XW ly R) (hp : p = 7 ∨ p = 41) : ly[p + 7]? = some (.inr 0) := by rcases hp with rfl | rfl; exact xc14 h; exact xc48 h
theorem pc8 {ly : Ly} {R : Nat → Nat → Option Nat} {p : Nat} (h : XW ly R) (hp : p = 7 ∨ p = 41) : ly[p + 8]? = some (.inl (0, 6)) := by rcases hp with rfl | rfl; exact xc15 h; exact xc49 h
theorem pc9 {ly : Ly} {R : Nat → Nat → Option Nat} {p : Nat} (h : XW ly R) (hp : p = 7 ∨ p = 41) : ly[p + 9]? = some (.inl (0, 6)) := by rcases hp with rfl | rfl; exact xc16 h; exact xc50 h
theorem pc10 {ly : Ly} {R : Nat → Nat → Option Nat} {p : Nat} (h : XW ly R) (hp : p = 7 ∨ p = 41) : ly[p + 10]? = some (.inl (0, 6)) := by rcases hp with rfl | rfl; exact xc17 h; exact xc51 h
theorem pc11 {ly : Ly} {R : Nat → Nat → Option Nat} {p : Nat} (h : XW ly R) (hp : p = 7 ∨ p = 41) : ly[p + 11]? = some (.inl (0, 6)) := by rcases hp with rfl | rfl; exact xc18 h; exact xc52 h
theorem pc12 {ly : Ly} {R : Nat → Nat → Option Nat} {p : Nat} (h : XW ly R) (hp : p = 7 ∨ p = 41) : ly[p + 12]? = some (.inl (0, 6)) := by rcases hp with rfl | rfl; exact xc19 h; exact xc53 h
theorem pc13 {ly : Ly} {R : Nat → Nat → Option Nat} {p : Nat} (h : XW ly R) (hp : p = 7 ∨ p = 41) : ly[p + 13]? = some (.inr 2) := by rcases hp with rfl | rfl; exact xc20 h; exact xc54 h
theorem pc14 {ly : Ly} {R : Nat → Nat → Option Nat} {p : Nat} (h : XW ly R) (hp : p = 7 ∨ p = 41) : ly[p + 14]? = some (.inl (0, 8)) := by rcases hp with rfl | rfl; exact xc21 h; exact xc55 h
theorem pc15 {ly : Ly} {R : Nat → Nat → Option Nat} {p : Nat} (h : XW ly R) (hp : p = 7 ∨ p = 41) : ly[p + 15]? = some (.inl (0, 8)) := by rcases hp with rfl | rfl; exact xc22 h; exact xc56 h
theorem pc16 {ly : Ly} {R : Nat → Nat → Option Nat} {p : Nat} (h : XW ly R) (hp : p = 7 ∨ p = 41) : ly[p + 16]? = some (.inl (0, 4)) := by rcases hp with rfl | rfl; exact xc23 h; exact xc57 h
theorem pc17 {ly : Ly} {R : Nat → Nat → Option Nat} {p : Nat} (h : XW ly R) (hp : p = 7 ∨ p = 41) : ly[p + 17]? = some (.inl (0, 4)) := by rcases hp with rfl | rfl; exact xc24 h; exact xc58 h
theorem pc18 {ly : Ly} {R : Nat → Nat → Option Nat} {p : Nat} (h : XW ly R) (hp : p = 7 ∨ p = 41) : ly[p + 18]? = some (.inr 5) := by rcases hp with rfl | rfl; exact xc25 h; exact xc59 h
theorem pc19 {ly : Ly} {R : Nat → Nat → Option Nat} {p : Nat} (h : XW ly R) (hp : p = 7 ∨ p = 41) : ly[p + 19]? = some (.inl (0, 64)) := by rcases hp with rfl | rfl; exact xc26 h; exact xc60 h
theorem pc20 {ly : Ly} {R : Nat → Nat → Option Nat} {p : Nat} (h : XW ly R) (hp : p = 7 ∨ p = 41) : ly[p + 20]? = some (.inl (3, 64)) := by rcases hp with rfl | rfl; exact xc27 h; exact xc61 h
theorem pc21 {ly : Ly} {R : Nat → Nat → Option Nat} {p : Nat} (h : XW ly R) (hp : p = 7 ∨ p = 41) : ly[p + 21]? = some (.inr 5) := by rcases hp with rfl | rfl; exact xc28 h; exact xc62 h
theorem pc22 {ly : Ly} {R : Nat → Nat → Option Nat} {p : Nat} (h : XW ly R) (hp : p = 7 ∨ p = 41) : ly[p + 22]? = some (.inl (0, 64)) := by rcases hp with rfl | rfl; exact xc29 h; exact xc63 h
theorem pc23 {ly : Ly} {R : Nat → Nat → Option Nat} {p : Nat} (h : XW ly R) (hp : p = 7 ∨ p = 41) : ly[p + 23]? = some (.inl (3, 64)) := by rcases hp with rfl | rfl; exact xc30 h; exact xc64 h
theorem pc24 {ly : Ly} {R : Nat → Nat → Option Nat} {p : Nat} (h : XW ly R) (hp : p = 7 ∨ p = 41) : ly[p + 24]? = some (.inl (5, 3)) := by rcases hp with rfl | rfl; exact xc31 h; exact xc65 h
theorem pc25 {ly : Ly} {R : Nat → Nat → Option Nat} {p : Nat} (h : XW ly R) (hp : p = 7 ∨ p = 41) : ly[p + 25]? = some (.inr 5) := by rcases hp with rfl | rfl; exact xc32 h; exact xc66 h
theorem pc26 {ly : Ly} {R : Nat → Nat → Option Nat} {p : Nat} (h : XW ly R) (hp : p = 7 ∨ p = 41) : ly[p + 26]? = some (.inl (0, 64)) := by rcases hp with rfl | rfl; exact xc33 h; exact xc67 h
theorem pc27 {ly : Ly} {R : Nat → Nat → Option Nat} {p : Nat} (h : XW ly R) (hp : p = 7 ∨ p = 41) : ly[p + 27]? = some (.inl (3, 64)) := by rcases hp with rfl | rfl; exact xc34 h; exact xc68 h
theorem pc28 {ly : Ly} {R : Nat → Nat → Option Nat} {p : Nat} (h : XW ly R) (hp : p = 7 ∨ p = 41) : ly[p + 28]? = some (.inr 5) := by rcases hp with rfl | rfl; exact xc35 h; exact xc69 h
theorem pc29 {ly : Ly} {R : Nat → Nat → Option Nat} {p : Nat} (h : XW ly R) (hp : p = 7 ∨ p = 41) : ly[p + 29]? = some (.inl (0, 64)) := by rcases hp with rfl | rfl; exact xc36 h; exact xc70 h
theorem pc30 {ly : Ly} {R : Nat → Nat → Option Nat} {p : Nat} (h : XW ly R) (hp : p = 7 ∨ p = 41) : ly[p + 30]? = some (.inl (3, 64)) := by rcases hp with rfl | rfl; exact xc37 h; exact xc71 h
theorem pc31 {ly : Ly} {R : Nat → Nat → Option Nat} {p : Nat} (h : XW ly R) (hp : p = 7 ∨ p = 41) : ly[p + 31]? = some (.inr 5) := by rcases hp with rfl | rfl; exact xc38 h; exact xc72 h
theorem pc32 {ly : Ly} {R : Nat → Nat → Option Nat} {p : Nat} (h : XW ly R) (hp : p = 7 ∨ p = 41) : ly[p + 32]? = some (.inl (0, 64)) := by rcases hp with rfl | rfl; exact xc39 h; exact xc73 h
theorem pc33 {ly : Ly} {R : Nat → Nat → Option Nat} {p : Nat} (h : XW ly R) (hp : p = 7 ∨ p = 41) : ly[p + 33]? = some (.inl (3, 64)) := by rcases hp with rfl | rfl; exact xc40 h; exact xc74 h
theorem pp2_0 {ly : Ly} {R : Nat → Nat → Option Nat} {p : Nat} (h : XW ly R) (hp : p = 7 ∨ p = 41) : R (p + 2) 0 = some (p + 3) := by rcases hp with rfl | rfl; exact xp9_0 h; exact xp43_0 h
theorem pp2_1 {ly : Ly} {R : Nat → Nat → Option Nat} {p : Nat} (h : XW ly R) (hp : p = 7 ∨ p = 41) : R (p + 2) 1 = some (p + 4) := by rcases hp with rfl | rfl; exact xp9_1 h; exact xp43_1 h
theorem pp2_2 {ly : Ly} {R : Nat → Nat → Option Nat} {p : Nat} (h : XW ly R) (hp : p = 7 ∨ p = 41) : R (p + 2) 2 = some (p + 5) := by rcases hp with rfl | rfl; exact xp9_2 h; exact xp43_2 h
theorem pp2_3 {ly : Ly} {R : Nat → Nat → Option Nat} {p : Nat} (h : XW ly R) (hp : p = 7 ∨ p = 41) : R (p + 2) 3 = some (p + 6) := by rcases hp with rfl | rfl; exact xp9_3 h; exact xp43_3 h
theorem pp7_1 {ly : Ly} {R : Nat → Nat → Option Nat} {p : Nat} (h : XW ly R) (hp : p = 7 ∨ p = 41) : R (p + 7) 1 = some (p + 8) := by rcases hp with rfl | rfl; exact xp14_1 h; exact xp48_1 h
theorem pp7_2 {ly : Ly} {R : Nat → Nat → Option Nat} {p : Nat} (h : XW ly R) (hp : p = 7 ∨ p = 41) : R (p + 7) 2 = some (p + 9) := by rcases hp with rfl | rfl; exact xp14_2 h; exact xp48_2 h
theorem pp7_3 {ly : Ly} {R : Nat → Nat → Option Nat} {p : Nat} (h : XW ly R) (hp : p = 7 ∨ p = 41) : R (p + 7) 3 = some (p + 10) := by rcases hp with rfl | rfl; exact xp14_3 h; exact xp48_3 h
theorem pp7_4 {ly : Ly} {R : Nat → Nat → Option Nat} {p : Nat} (h : XW ly R) (hp : p = 7 ∨ p = 41) : R (p + 7) 4 = some (p + 11) := by rcases hp with rfl | rfl; exact xp14_4 h; exact xp48_4 h
theorem pp7_5 {ly : Ly} {R : Nat → Nat → Option Nat} {p : Nat} (h : XW ly R) (hp : p = 7 ∨ p = 41) : R (p + 7) 5 = some (p + 12) := by rcases hp with rfl | rfl; exact xp14_5 h; exact xp48_5 h
theorem pp13_1 {ly : Ly} {R : Nat → Nat → Option Nat} {p : Nat} (h : XW ly R) (hp : p = 7 ∨ p = 41) : R (p + 13) 1 = some (p + 14) := by rcases hp with rfl | rfl; exact xp20_1 h; exact xp54_1 h
theorem pp13_2 {ly : Ly} {R : Nat → Nat → Option Nat} {p : Nat} (h : XW ly R) (hp : p = 7 ∨ p = 41) : R (p + 13) 2 = some (p + 15) := by rcases hp with rfl | rfl; exact xp20_2 h; exact xp54_2 h
theorem pp18_1 {ly : Ly} {R : Nat → Nat → Option Nat} {p : Nat} (h : XW ly R) (hp : p = 7 ∨ p = 41) : R (p + 18) 1 = some (p + 19) := by rcases hp with rfl | rfl; exact xp25_1 h; exact xp59_1 h
theorem pp18_2 {ly : Ly} {R : Nat → Nat → Option Nat} {p : Nat} (h : XW ly R) (hp : p = 7 ∨ p = 41) : R (p + 18) 2 = some (p + 20) := by rcases hp with rfl | rfl; exact xp25_2 h; exact xp59_2 h
theorem pp21_1 {ly : Ly} {R : Nat → Nat → Option Nat} {p : Nat} (h : XW ly R) (hp : p = 7 ∨ p = 41) : R (p + 21) 1 = some (p + 22) := by rcases hp with rfl | rfl; exact xp28_1 h; exact xp62_1 h
theorem pp21_2 {ly : Ly} {R : Nat → Nat → Option Nat} {p : Nat} (h : XW ly R) (hp : p = 7 ∨ p = 41) : R (p + 21) 2 = some (p + 23) := by rcases hp with rfl | rfl; exact xp28_2 h; exact xp62_2 h
theorem pp25_1 {ly : Ly} {R : Nat → Nat → Option Nat} {p : Nat} (h : XW ly R) (hp : p = 7 ∨ p = 41) : R (p + 25) 1 = some (p + 26) := by rcases hp with rfl | rfl; exact xp32_1 h; exact xp66_1 h
theorem pp25_2 {ly : Ly} {R : Nat → Nat → Option Nat} {p : Nat} (h : XW ly R) (hp : p = 7 ∨ p = 41) : R (p + 25) 2 = some (p + 27) := by rcases hp with rfl | rfl; exact xp32_2 h; exact xp66_2 h
theorem pp24_0 {ly : Ly} {R : Nat → Nat → Option Nat} {p : Nat} (h : XW ly R) (hp : p = 7 ∨ p = 41) : R (p + 24) 0 = some (p + 25) := by rcases hp with rfl | rfl; exact xp31_0 h; exact xp65_0 h
theorem pp28_1 {ly : Ly} {R : Nat → Nat → Option Nat} {p : Nat} (h : XW ly R) (hp : p = 7 ∨ p = 41) : R (p + 28) 1 = some (p + 29) := by rcases hp with rfl | rfl; exact xp35_1 h; exact xp69_1 h
theorem pp28_2 {ly : Ly} {R : Nat → Nat → Option Nat} {p : Nat} (h : XW ly R) (hp : p = 7 ∨ p = 41) : R (p + 28) 2 = some (p + 30) := by rcases hp with rfl | rfl; exact xp35_2 h; exact xp69_2 h
theorem pp24_1 {ly : Ly} {R : Nat → Nat → Option Nat} {p : Nat} (h : XW ly R) (hp : p = 7 ∨ p = 41) : R (p + 24) 1 = some (p + 28) := by rcases hp with rfl | rfl; exact xp31_1 h; exact xp65_1 h
theorem pp31_1 {ly : Ly} {R : Nat → Nat → Option Nat} {p : Nat} (h : XW ly R) (hp : p = 7 ∨ p = 41) : R (p + 31) 1 = some (p + 32) := by rcases hp with rfl | rfl; exact xp38_1 h; exact xp72_1 h
theorem pp31_2 {ly : Ly} {R : Nat → Nat → Option Nat} {p : Nat} (h : XW ly R) (hp : p = 7 ∨ p = 41) : R (p + 31) 2 = some (p + 33) := by rcases hp with rfl | rfl; exact xp38_2 h; exact xp72_2 h
theorem pp24_2 {ly : Ly} {R : Nat → Nat → Option Nat} {p : Nat} (h : XW ly R) (hp : p = 7 ∨ p = 41) : R (p + 24) 2 = some (p + 31) := by rcases hp with rfl | rfl; exact xp31_2 h; exact xp65_2 h
theorem pp0_9 {ly : Ly} {R : Nat → Nat → Option Nat} {p : Nat} (h : XW ly R) (hp : p = 7 ∨ p = 41) : R p 9 = some (p + 1) := by rcases hp with rfl | rfl; exact xp7_9 h; exact xp41_9 h
theorem pp0_10 {ly : Ly} {R : Nat → Nat → Option Nat} {p : Nat} (h : XW ly R) (hp : p = 7 ∨ p = 41) : R p 10 = some (p + 2) := by rcases hp with rfl | rfl; exact xp7_10 h; exact xp41_10 h
theorem pp0_11 {ly : Ly} {R : Nat → Nat → Option Nat} {p : Nat} (h : XW ly R) (hp : p = 7 ∨ p = 41) : R p 11 = some (p + 7) := by rcases hp with rfl | rfl; exact xp7_11 h; exact xp41_11 h
theorem pp0_12 {ly : Ly} {R : Nat → Nat → Option Nat} {p : Nat} (h : XW ly R) (hp : p = 7 ∨ p = 41) : R p 12 = some (p + 13) := by rcases hp with rfl | rfl; exact xp7_12 h; exact xp41_12 h
theorem pp0_13 {ly : Ly} {R : Nat → Nat → Option Nat} {p : Nat} (h : XW ly R) (hp : p = 7 ∨ p = 41) : R p 13 = some (p + 16) := by rcases hp with rfl | rfl; exact xp7_13 h; exact xp41_13 h
theorem pp0_14 {ly : Ly} {R : Nat → Nat → Option Nat} {p : Nat} (h : XW ly R) (hp : p = 7 ∨ p = 41) : R p 14 = some (p + 17) := by rcases hp with rfl | rfl; exact xp7_14 h; exact xp41_14 h
theorem pp0_15 {ly : Ly} {R : Nat → Nat → Option Nat} {p : Nat} (h : XW ly R) (hp : p = 7 ∨ p = 41) : R p 15 = some (p + 18) := by rcases hp with rfl | rfl; exact xp7_15 h; exact xp41_15 h
theorem pp0_16 {ly : Ly} {R : Nat → Nat → Option Nat} {p : Nat} (h : XW ly R) (hp : p = 7 ∨ p = 41) : R p 16 = some (p + 21) := by rcases hp with rfl | rfl; exact xp7_16 h; exact xp41_16 h
theorem pp0_17 {ly : Ly} {R : Nat → Nat → Option Nat} {p : Nat} (h : XW ly R) (hp : p = 7 ∨ p = 41) : R p 17 = some (p + 24) := by rcases hp with rfl | rfl; exact xp7_17 h; exact xp41_17 h
