/-! the class: how its cells hang together; what the class and the reference hold of one another -/
def cRefs : List (Nat × Nat × Int) := [(29, 0, 30), (29, 1, 76), (29, 2, 122), (29, 3, 131), (29, 4, 137), (29, 5, 138), (29, 6, 140), (30, 0, 31), (30, 1, 32), (30, 2, 33), (30, 3, 36), (30, 4, 37), (30, 5, 38), (31, 0, 40), (31, 1, 45), (31, 2, 50), (31, 3, 55), (32, 0, 60), (32, 1, 62), (32, 2, 64), (32, 3, 66), (32, 4, 68), (32, 5, 70), (32, 6, 72), (32, 7, 74), (33, 0, 34), (33, 1, 35), (38, 0, 39), (40, 0, 41), (40, 1, 42), (40, 2, 43), (40, 3, 44), (45, 0, 46), (45, 1, 47), (45, 2, 48), (45, 3, 49), (50, 0, 51), (50, 1, 52), (50, 2, 53), (50, 3, 54), (55, 0, 56), (55, 1, 57), (55, 2, 58), (55, 3, 59), (60, 0, 61), (62, 0, 63), (64, 0, 65), (66, 0, 67), (68, 0, 69), (70, 0, 71), (72, 0, 73), (74, 0, 75), (76, 0, 77), (76, 1, 78), (76, 2, 79), (76, 3, 82), (76, 4, 83), (76, 5, 84), (77, 0, 86), (77, 1, 91), (77, 2, 96), (77, 3, 101), (78, 0, 106), (78, 1, 108), (78, 2, 110), (78, 3, 112), (78, 4, 114), (78, 5, 116), (78, 6, 118), (78, 7, 120), (79, 0, 80), (79, 1, 81), (84, 0, 85), (86, 0, 87), (86, 1, 88), (86, 2, 89), (86, 3, 90), (91, 0, 92), (91, 1, 93), (91, 2, 94), (91, 3, 95), (96, 0, 97), (96, 1, 98), (96, 2, 99), (96, 3, 100), (101, 0, 102), (101, 1, 103), (101, 2, 104), (101, 3, 105), (106, 0, 107), (108, 0, 109), (110, 0, 111), (112, 0, 113), (114, 0, 115), (116, 0, 117), (118, 0, 119), (120, 0, 121), (122, 0, 123), (122, 1, 124), (122, 2, 125), (122, 3, 126), (122, 4, 127), (127, 0, 128), (127, 1, 129), (127, 2, 130), (131, 0, 132), (131, 1, 133), (131, 2, 134), (131, 3, 135), (131, 4, 136), (138, 0, 139), (140, 0, 141)]
def CS (c : Nat → Nat → Int) : Prop := (∀ q ∈ cRefs, c q.1 q.2.1 = q.2.2) ∧ ∀ k, k < 49 → c 137 k = 238
/-- what a question may change -/
def cScr (o k : Nat) : Bool := (o == 131 && decide (5 ≤ k)) || (decide (132 ≤ o) && decide (o ≤ 136)) || ((o == 40 || o == 45 || o == 50 || o == 55) && decide (6 ≤ k)) || (o == 44 || o == 49 || o == 54 || o == 59) || ((o == 138 || o == 140) && k == 1) || o == 139 || o == 141 || decide (159 ≤ o) || (decide (124 ≤ o) && decide (o ≤ 126)) || (o == 127 && decide (3 ≤ k)) || (decide (128 ≤ o) && decide (o ≤ 130)) || (o == 122 && decide (8 ≤ k))
def FrC (c c' : Nat → Nat → Int) : Prop := ∀ o k, cScr o k = false → c' o k = c o k
theorem FrC.rf (c : Nat → Nat → Int) : FrC c c := fun _ _ _ => rfl
theorem FrC.tr {a b c : Nat → Nat → Int} (h1 : FrC a b) (h2 : FrC b c) : FrC a c := fun o k h => (h2 o k h).trans (h1 o k h)
theorem FrC.u {a b : Nat → Nat → Int} (h : FrC a b) {o k : Nat} (v : Int) (hk : cScr o k = true) : FrC a (u2 b o k v) := h.tr fun o' k' g => u2_n (fun q => by rw [q.1, q.2, hk] at g; cases g)
theorem cRefs_ok : (cRefs.all fun q => !cScr q.1 q.2.1) = true := by decide +kernel
theorem FrC.cs {c c' : Nat → Nat → Int} (h : FrC c c') (hc : CS c) : CS c' := ⟨fun q hq => (h _ _ (by have := List.all_eq_true.mp cRefs_ok q hq; simpa using this)).trans (hc.1 q hq), fun k hk => (h 137 k (by simp [cScr])).trans (hc.2 k hk)⟩
theorem CS_29_0 {c : Nat → Nat → Int} (h : CS c) : c 29 0 = 30 := h.1 (29, 0, 30) (by decide)
theorem CS_29_1 {c : Nat → Nat → Int} (h : CS c) : c 29 1 = 76 := h.1 (29, 1, 76) (by decide)
theorem CS_29_2 {c : Nat → Nat → Int} (h : CS c) : c 29 2 = 122 := h.1 (29, 2, 122) (by decide)
theorem CS_29_3 {c : Nat → Nat → Int} (h : CS c) : c 29 3 = 131 := h.1 (29, 3, 131) (by decide)
theorem CS_29_4 {c : Nat → Nat → Int} (h : CS c) : c 29 4 = 137 := h.1 (29, 4, 137) (by decide)
theorem CS_29_5 {c : Nat → Nat → Int} (h : CS c) : c 29 5 = 138 := h.1 (29, 5, 138) (by decide)
theorem CS_29_6 {c : Nat → Nat → Int} (h : CS c) : c 29 6 = 140 := h.1 (29, 6, 140) (by decide)
theorem CS_30_0 {c : Nat → Nat → Int} (h : CS c) : c 30 0 = 31 := h.1 (30, 0, 31) (by decide)
theorem CS_30_1 {c : Nat → Nat → Int} (h : CS c) : c 30 1 = 32 := h.1 (30, 1, 32) (by decide)
theorem CS_30_2 {c : Nat → Nat → Int} (h : CS c) : c 30 2 = 33 := h.1 (30, 2, 33) (by decide)
theorem CS_30_3 {c : Nat → Nat → Int} (h : CS c) : c 30 3 = 36 := h.1 (30, 3, 36) (by decide)
theorem CS_30_4 {c : Nat → Nat → Int} (h : CS c) : c 30 4 = 37 := h.1 (30, 4, 37) (by decide)
theorem CS_30_5 {c : Nat → Nat → Int} (h : CS c) : c 30 5 = 38 := h.1 (30, 5, 38) (by decide)
theorem CS_31_0 {c : Nat → Nat → Int} (h : CS c) : c 31 0 = 40 := h.1 (31, 0, 40) (by decide)
theorem CS_31_1 {c : Nat → Nat → Int} (h : CS c) : c 31 1 = 45 := h.1 (31, 1, 45) (by decide)
theorem CS_31_2 {c : Nat → Nat → Int} (h : CS c) : c 31 2 = 50 := h.1 (31, 2, 50) (by decide)
theorem CS_31_3 {c : Nat → Nat → Int} (h : CS c) : c 31 3 = 55 := h.1 (31, 3, 55) (by decide)
theorem CS_32_0 {c : Nat → Nat → Int} (h : CS c) : c 32 0 = 60 := h.1 (32, 0, 60) (by decide)
theorem CS_32_1 {c : Nat → Nat → Int} (h : CS c) : c 32 1 = 62 := h.1 (32, 1, 62) (by decide)
theorem CS_32_2 {c : Nat → Nat → Int} (h : CS c) : c 32 2 = 64 := h.1 (32, 2, 64) (by decide)
theorem CS_32_3 {c : Nat → Nat → Int} (h : CS c) : c 32 3 = 66 := h.1 (32, 3, 66) (by decide)
theorem CS_32_4 {c : Nat → Nat → Int} (h : CS c) : c 32 4 = 68 := h.1 (32, 4, 68) (by decide)
theorem CS_32_5 {c : Nat → Nat → Int} (h : CS c) : c 32 5 = 70 := h.1 (32, 5, 70) (by decide)
theorem CS_32_6 {c : Nat → Nat → Int} (h : CS c) : c 32 6 = 72 := h.1 (32, 6, 72) (by decide)
theorem CS_32_7 {c : Nat → Nat → Int} (h : CS c) : c 32 7 = 74 := h.1 (32, 7, 74) (by decide)
theorem CS_33_0 {c : Nat → Nat → Int} (h : CS c) : c 33 0 = 34 := h.1 (33, 0, 34) (by decide)
theorem CS_33_1 {c : Nat → Nat → Int} (h : CS c) : c 33 1 = 35 := h.1 (33, 1, 35) (by decide)
theorem CS_38_0 {c : Nat → Nat → Int} (h : CS c) : c 38 0 = 39 := h.1 (38, 0, 39) (by decide)
theorem CS_40_0 {c : Nat → Nat → Int} (h : CS c) : c 40 0 = 41 := h.1 (40, 0, 41) (by decide)
theorem CS_40_1 {c : Nat → Nat → Int} (h : CS c) : c 40 1 = 42 := h.1 (40, 1, 42) (by decide)
theorem CS_40_2 {c : Nat → Nat → Int} (h : CS c) : c 40 2 = 43 := h.1 (40, 2, 43) (by decide)
theorem CS_40_3 {c : Nat → Nat → Int} (h : CS c) : c 40 3 = 44 := h.1 (40, 3, 44) (by decide)
theorem CS_45_0 {c : Nat → Nat → Int} (h : CS c) : c 45 0 = 46 := h.1 (45, 0, 46) (by decide)
theorem CS_45_1 {c : Nat → Nat → Int} (h : CS c) : c 45 1 = 47 := h.1 (45, 1, 47) (by decide)
theorem CS_45_2 {c : Nat → Nat → Int} (h : CS c) : c 45 2 = 48 := h.1 (45, 2, 48) (by decide)
theorem CS_45_3 {c : Nat → Nat → Int} (h : CS c) : c 45 3 = 49 := h.1 (45, 3, 49) (by decide)
theorem CS_50_0 {c : Nat → Nat → Int} (h : CS c) : c 50 0 = 51 := h.1 (50, 0, 51) (by decide)
theorem CS_50_1 {c : Nat → Nat → Int} (h : CS c) : c 50 1 = 52 := h.1 (50, 1, 52) (by decide)
theorem CS_50_2 {c : Nat → Nat → Int} (h : CS c) : c 50 2 = 53 := h.1 (50, 2, 53) (by decide)
theorem CS_50_3 {c : Nat → Nat → Int} (h : CS c) : c 50 3 = 54 := h.1 (50, 3, 54) (by decide)
theorem CS_55_0 {c : Nat → Nat → Int} (h : CS c) : c 55 0 = 56 := h.1 (55, 0, 56) (by decide)
theorem CS_55_1 {c : Nat → Nat → Int} (h : CS c) : c 55 1 = 57 := h.1 (55, 1, 57) (by decide)
theorem CS_55_2 {c : Nat → Nat → Int} (h : CS c) : c 55 2 = 58 := h.1 (55, 2, 58) (by decide)
theorem CS_55_3 {c : Nat → Nat → Int} (h : CS c) : c 55 3 = 59 := h.1 (55, 3, 59) (by decide)
theorem CS_60_0 {c : Nat → Nat → Int} (h : CS c) : c 60 0 = 61 := h.1 (60, 0, 61) (by decide)
theorem CS_62_0 {c : Nat → Nat → Int} (h : CS c) : c 62 0 = 63 := h.1 (62, 0, 63) (by decide)
theorem CS_64_0 {c : Nat → Nat → Int} (h : CS c) : c 64 0 = 65 := h.1 (64, 0, 65) (by decide)
theorem CS_66_0 {c : Nat → Nat → Int} (h : CS c) : c 66 0 = 67 := h.1 (66, 0, 67) (by decide)
theorem CS_68_0 {c : Nat → Nat → Int} (h : CS c) : c 68 0 = 69 := h.1 (68, 0, 69) (by decide)
theorem CS_70_0 {c : Nat → Nat → Int} (h : CS c) : c 70 0 = 71 := h.1 (70, 0, 71) (by decide)
theorem CS_72_0 {c : Nat → Nat → Int} (h : CS c) : c 72 0 = 73 := h.1 (72, 0, 73) (by decide)
theorem CS_74_0 {c : Nat → Nat → Int} (h : CS c) : c 74 0 = 75 := h.1 (74, 0, 75) (by decide)
theorem CS_76_0 {c : Nat → Nat → Int} (h : CS c) : c 76 0 = 77 := h.1 (76, 0, 77) (by decide)
theorem CS_76_1 {c : Nat → Nat → Int} (h : CS c) : c 76 1 = 78 := h.1 (76, 1, 78) (by decide)
theorem CS_76_2 {c : Nat → Nat → Int} (h : CS c) : c 76 2 = 79 := h.1 (76, 2, 79) (by decide)
theorem CS_76_3 {c : Nat → Nat → Int} (h : CS c) : c 76 3 = 82 := h.1 (76, 3, 82) (by decide)
theorem CS_76_4 {c : Nat → Nat → Int} (h : CS c) : c 76 4 = 83 := h.1 (76, 4, 83) (by decide)
theorem CS_76_5 {c : Nat → Nat → Int} (h : CS c) : c 76 5 = 84 := h.1 (76, 5, 84) (by decide)
theorem CS_77_0 {c : Nat → Nat → Int} (h : CS c) : c 77 0 = 86 := h.1 (77, 0, 86) (by decide)
theorem CS_77_1 {c : Nat → Nat → Int} (h : CS c) : c 77 1 = 91 := h.1 (77, 1, 91) (by decide)
theorem CS_77_2 {c : Nat → Nat → Int} (h : CS c) : c 77 2 = 96 := h.1 (77, 2, 96) (by decide)
theorem CS_77_3 {c : Nat → Nat → Int} (h : CS c) : c 77 3 = 101 := h.1 (77, 3, 101) (by decide)
theorem CS_78_0 {c : Nat → Nat → Int} (h : CS c) : c 78 0 = 106 := h.1 (78, 0, 106) (by decide)
theorem CS_78_1 {c : Nat → Nat → Int} (h : CS c) : c 78 1 = 108 := h.1 (78, 1, 108) (by decide)
theorem CS_78_2 {c : Nat → Nat → Int} (h : CS c) : c 78 2 = 110 := h.1 (78, 2, 110) (by decide)
theorem CS_78_3 {c : Nat → Nat → Int} (h : CS c) : c 78 3 = 112 := h.1 (78, 3, 112) (by decide)
theorem CS_78_4 {c : Nat → Nat → Int} (h : CS c) : c 78 4 = 114 := h.1 (78, 4, 114) (by decide)
theorem CS_78_5 {c : Nat → Nat → Int} (h : CS c) : c 78 5 = 116 := h.1 (78, 5, 116) (by decide)
theorem CS_78_6 {c : Nat → Nat → Int} (h : CS c) : c 78 6 = 118 := h.1 (78, 6, 118) (by decide)
theorem CS_78_7 {c : Nat → Nat → Int} (h : CS c) : c 78 7 = 120 := h.1 (78, 7, 120) (by decide)
theorem CS_79_0 {c : Nat → Nat → Int} (h : CS c) : c 79 0 = 80 := h.1 (79, 0, 80) (by decide)
theorem CS_79_1 {c : Nat → Nat → Int} (h : CS c) : c 79 1 = 81 := h.1 (79, 1, 81) (by decide)
theorem CS_84_0 {c : Nat → Nat → Int} (h : CS c) : c 84 0 = 85 := h.1 (84, 0, 85) (by decide)
theorem CS_86_0 {c : Nat → Nat → Int} (h : CS c) : c 86 0 = 87 := h.1 (86, 0, 87) (by decide)
theorem CS_86_1 {c : Nat → Nat → Int} (h : CS c) : c 86 1 = 88 := h.1 (86, 1, 88) (by decide)
theorem CS_86_2 {c : Nat → Nat → Int} (h : CS c) : c 86 2 = 89 := h.1 (86, 2, 89) (by decide)
theorem CS_86_3 {c : Nat → Nat → Int} (h : CS c) : c 86 3 = 90 := h.1 (86, 3, 90) (by decide)
theorem CS_91_0 {c : Nat → Nat → Int} (h : CS c) : c 91 0 = 92 := h.1 (91, 0, 92) (by decide)
theorem CS_91_1 {c : Nat → Nat → Int} (h : CS c) : c 91 1 = 93 := h.1 (91, 1, 93) (by decide)
theorem CS_91_2 {c : Nat → Nat → Int} (h : CS c) : c 91 2 = 94 := h.1 (91, 2, 94) (by decide)
theorem CS_91_3 {c : Nat → Nat → Int} (h : CS c) : c 91 3 = 95 := h.1 (91, 3, 95) (by decide)
theorem CS_96_0 {c : Nat → Nat → Int} (h : CS c) : c 96 0 = 97 := h.1 (96, 0, 97) (by decide)
theorem CS_96_1 {c : Nat → Nat → Int} (h : CS c) : c 96 1 = 98 := h.1 (96, 1, 98) (by decide)
theorem CS_96_2 {c : Nat → Nat → Int} (h : CS c) : c 96 2 = 99 := h.1 (96, 2, 99) (by decide)
theorem CS_96_3 {c : Nat → Nat → Int} (h : CS c) : c 96 3 = 100 := h.1 (96, 3, 100) (by decide)
theorem CS_101_0 {c : Nat → Nat → Int} (h : CS c) : c 101 0 = 102 := h.1 (101, 0, 102) (by decide)
theorem CS_101_1 {c : Nat → Nat → Int} (h : CS c) : c 101 1 = 103 := h.1 (101, 1, 103) (by decide)
theorem CS_101_2 {c : Nat → Nat → Int} (h : CS c) : c 101 2 = 104 := h.1 (101, 2, 104) (by decide)
theorem CS_101_3 {c : Nat → Nat → Int} (h : CS c) : c 101 3 = 105 := h.1 (101, 3, 105) (by decide)
theorem CS_106_0 {c : Nat → Nat → Int} (h : CS c) : c 106 0 = 107 := h.1 (106, 0, 107) (by decide)
theorem CS_108_0 {c : Nat → Nat → Int} (h : CS c) : c 108 0 = 109 := h.1 (108, 0, 109) (by decide)
theorem CS_110_0 {c : Nat → Nat → Int} (h : CS c) : c 110 0 = 111 := h.1 (110, 0, 111) (by decide)
theorem CS_112_0 {c : Nat → Nat → Int} (h : CS c) : c 112 0 = 113 := h.1 (112, 0, 113) (by decide)
theorem CS_114_0 {c : Nat → Nat → Int} (h : CS c) : c 114 0 = 115 := h.1 (114, 0, 115) (by decide)
theorem CS_116_0 {c : Nat → Nat → Int} (h : CS c) : c 116 0 = 117 := h.1 (116, 0, 117) (by decide)
theorem CS_118_0 {c : Nat → Nat → Int} (h : CS c) : c 118 0 = 119 := h.1 (118, 0, 119) (by decide)
theorem CS_120_0 {c : Nat → Nat → Int} (h : CS c) : c 120 0 = 121 := h.1 (120, 0, 121) (by decide)
theorem CS_122_0 {c : Nat → Nat → Int} (h : CS c) : c 122 0 = 123 := h.1 (122, 0, 123) (by decide)
theorem CS_122_1 {c : Nat → Nat → Int} (h : CS c) : c 122 1 = 124 := h.1 (122, 1, 124) (by decide)
theorem CS_122_2 {c : Nat → Nat → Int} (h : CS c) : c 122 2 = 125 := h.1 (122, 2, 125) (by decide)
theorem CS_122_3 {c : Nat → Nat → Int} (h : CS c) : c 122 3 = 126 := h.1 (122, 3, 126) (by decide)
theorem CS_122_4 {c : Nat → Nat → Int} (h : CS c) : c 122 4 = 127 := h.1 (122, 4, 127) (by decide)
theorem CS_127_0 {c : Nat → Nat → Int} (h : CS c) : c 127 0 = 128 := h.1 (127, 0, 128) (by decide)
theorem CS_127_1 {c : Nat → Nat → Int} (h : CS c) : c 127 1 = 129 := h.1 (127, 1, 129) (by decide)
theorem CS_127_2 {c : Nat → Nat → Int} (h : CS c) : c 127 2 = 130 := h.1 (127, 2, 130) (by decide)
theorem CS_131_0 {c : Nat → Nat → Int} (h : CS c) : c 131 0 = 132 := h.1 (131, 0, 132) (by decide)
theorem CS_131_1 {c : Nat → Nat → Int} (h : CS c) : c 131 1 = 133 := h.1 (131, 1, 133) (by decide)
theorem CS_131_2 {c : Nat → Nat → Int} (h : CS c) : c 131 2 = 134 := h.1 (131, 2, 134) (by decide)
theorem CS_131_3 {c : Nat → Nat → Int} (h : CS c) : c 131 3 = 135 := h.1 (131, 3, 135) (by decide)
theorem CS_131_4 {c : Nat → Nat → Int} (h : CS c) : c 131 4 = 136 := h.1 (131, 4, 136) (by decide)
theorem CS_138_0 {c : Nat → Nat → Int} (h : CS c) : c 138 0 = 139 := h.1 (138, 0, 139) (by decide)
theorem CS_140_0 {c : Nat → Nat → Int} (h : CS c) : c 140 0 = 141 := h.1 (140, 0, 141) (by decide)
theorem n4 {m : Nat} (h : m < 4) : m = 0 ∨ m = 1 ∨ m = 2 ∨ m = 3 := by omega
theorem n8 {m : Nat} (h : m < 8) : m = 0 ∨ m = 1 ∨ m = 2 ∨ m = 3 ∨ m = 4 ∨ m = 5 ∨ m = 6 ∨ m = 7 := by omega
theorem CS_31 {c : Nat → Nat → Int} (h : CS c) {m : Nat} (hm : m < 4) : c 31 m = ((40 + 5 * m : Nat) : Int) := by
  rcases n4 hm with rfl | rfl | rfl | rfl
  · exact CS_31_0 h
  · exact CS_31_1 h
  · exact CS_31_2 h
  · exact CS_31_3 h
theorem CS_32 {c : Nat → Nat → Int} (h : CS c) {m : Nat} (hm : m < 8) : c 32 m = ((60 + 2 * m : Nat) : Int) := by
  rcases n8 hm with rfl | rfl | rfl | rfl | rfl | rfl | rfl | rfl
  · exact CS_32_0 h
  · exact CS_32_1 h
  · exact CS_32_2 h
  · exact CS_32_3 h
  · exact CS_32_4 h
  · exact CS_32_5 h
  · exact CS_32_6 h
  · exact CS_32_7 h
theorem CS_77 {c : Nat → Nat → Int} (h : CS c) {m : Nat} (hm : m < 4) : c 77 m = ((86 + 5 * m : Nat) : Int) := by
  rcases n4 hm with rfl | rfl | rfl | rfl
  · exact CS_77_0 h
  · exact CS_77_1 h
  · exact CS_77_2 h
  · exact CS_77_3 h
theorem CS_78 {c : Nat → Nat → Int} (h : CS c) {m : Nat} (hm : m < 8) : c 78 m = ((106 + 2 * m : Nat) : Int) := by
  rcases n8 hm with rfl | rfl | rfl | rfl | rfl | rfl | rfl | rfl
  · exact CS_78_0 h
  · exact CS_78_1 h
  · exact CS_78_2 h
  · exact CS_78_3 h
  · exact CS_78_4 h
  · exact CS_78_5 h
  · exact CS_78_6 h
  · exact CS_78_7 h
theorem chN {s : List (Nat × Nat)} {c : Nat → Nat → Int} (hs : SpL s) (h : CS c) {m : Nat} (hm : m < 4) : CH s c (40 + 5 * m) := by
  rcases n4 hm with rfl | rfl | rfl | rfl
  · exact ⟨⟨sC40 hs, sC41 hs, sC42 hs, sC43 hs, sC44 hs⟩, CS_40_0 h, CS_40_1 h, CS_40_2 h, CS_40_3 h⟩
  · exact ⟨⟨sC45 hs, sC46 hs, sC47 hs, sC48 hs, sC49 hs⟩, CS_45_0 h, CS_45_1 h, CS_45_2 h, CS_45_3 h⟩
  · exact ⟨⟨sC50 hs, sC51 hs, sC52 hs, sC53 hs, sC54 hs⟩, CS_50_0 h, CS_50_1 h, CS_50_2 h, CS_50_3 h⟩
  · exact ⟨⟨sC55 hs, sC56 hs, sC57 hs, sC58 hs, sC59 hs⟩, CS_55_0 h, CS_55_1 h, CS_55_2 h, CS_55_3 h⟩
theorem chK {s : List (Nat × Nat)} {c : Nat → Nat → Int} (hs : SpL s) (h : CS c) {m : Nat} (hm : m < 4) : CH s c (86 + 5 * m) := by
  rcases n4 hm with rfl | rfl | rfl | rfl
  · exact ⟨⟨sC86 hs, sC87 hs, sC88 hs, sC89 hs, sC90 hs⟩, CS_86_0 h, CS_86_1 h, CS_86_2 h, CS_86_3 h⟩
  · exact ⟨⟨sC91 hs, sC92 hs, sC93 hs, sC94 hs, sC95 hs⟩, CS_91_0 h, CS_91_1 h, CS_91_2 h, CS_91_3 h⟩
  · exact ⟨⟨sC96 hs, sC97 hs, sC98 hs, sC99 hs, sC100 hs⟩, CS_96_0 h, CS_96_1 h, CS_96_2 h, CS_96_3 h⟩
  · exact ⟨⟨sC101 hs, sC102 hs, sC103 hs, sC104 hs, sC105 hs⟩, CS_101_0 h, CS_101_1 h, CS_101_2 h, CS_101_3 h⟩
/-- what judge says: steps in the order in which they are done; values and truths on two piles -/
def farV (v : Int) : Int := if 1000000000 < v then 1000000000 else if v < -1000000000 then -1000000000 else v
def twoV (o x y : Int) : Int := farV (if o = 3 then x + y else if o = 4 then x - y else x * y)
def soV (o x y : Int) : Bool := if o = 10 then decide (x < y) else if o = 11 then decide (x ≤ y) else if o = 12 then decide (y < x) else if o = 13 then decide (y ≤ x) else if o = 14 then decide (x = y) else decide (x ≠ y)
def stepM (nm : Int → Int) (o v : Int) (vs : List Int) (ts : List Bool) : Option (List Int × List Bool) :=
  if o = 0 then some (v :: vs, ts) else if o = 1 then some (nm v :: vs, ts)
  else if o = 2 then (match vs with | a :: r => some (-a :: r, ts) | _ => none)
  else if o < 10 then (match vs with | y :: x :: r => some (twoV o x y :: r, ts) | _ => none)
  else if o < 20 then (match vs with | [y, x] => some ([], soV o x y :: ts) | _ => none)
  else if o = 20 then (match vs, ts with | [], t :: r => some ([], (!t) :: r) | _, _ => none)
  else (match vs, ts with | [], u :: t :: r => some ([], (if o = 21 then t && u else t || u) :: r) | _, _ => none)
def runM (nm : Int → Int) : List (Int × Int) → List Int → List Bool → Option (List Int × List Bool)
  | [], vs, ts => some (vs, ts)
  | q :: r, vs, ts => (stepM nm q.1 q.2 vs ts).bind fun w => runM nm r w.1 w.2
def nmF (a b x y : Int) : Int → Int := fun v => if v = 0 then a else if v = 1 then b else if v = 2 then x else y
/-- the steps of a text of the reference -/
def codeOf (tx : Nat → Int) (k : Nat) : List (Int × Int) := (List.range (tx (800 * k + 4)).toNat).map fun i => (tx (800 * k + 10 + 2 * i), tx (800 * k + 11 + 2 * i))
def okOp (q : Int × Int) : Bool := (q.1 == 0 && decide (0 ≤ q.2) && decide (q.2 ≤ 9999)) || (q.1 == 1 && decide (0 ≤ q.2) && decide (q.2 ≤ 3)) || q.1 == 2 || q.1 == 3 || q.1 == 4 || q.1 == 5 || (decide (10 ≤ q.1) && decide (q.1 ≤ 15)) || q.1 == 20 || q.1 == 21 || q.1 == 22
/-- what a SHOWING says of an opening -/
def jud (tx : Nat → Int) (k : Nat) (a b x y : Int) : Bool := if tx (800 * k) = 0 then true else match runM (nmF a b x y) (codeOf tx k) [] [] with | some ([], [t]) => t | _ => false
def codeOK (tx : Nat → Int) (k : Nat) : Prop := (tx (800 * k) = 0 ∨ tx (800 * k) = 1) ∧ (0 ≤ tx (800 * k + 4) ∧ tx (800 * k + 4) ≤ 300) ∧ (tx (800 * k) = 1 → (∀ q ∈ codeOf tx k, okOp q = true) ∧ ∀ nm : Int → Int, ∃ t, runM nm (codeOf tx k) [] [] = some ([], [t]))
def ShRel (tx : Nat → Int) (c : Nat → Nat → Int) (q k : Nat) : Prop := (c q 1 = tx (800 * k + 1) ∧ c q 2 = tx (800 * k + 3) ∧ c q 3 = tx (800 * k + 2)) ∧ (tx (800 * k + 1) = 1 ∨ tx (800 * k + 1) = 2 ∨ tx (800 * k + 1) = 3 ∨ tx (800 * k + 1) = 6) ∧ (tx (800 * k + 2) = 0 ∨ tx (800 * k + 2) = 1) ∧ (0 ≤ tx (800 * k + 3) ∧ tx (800 * k + 3) ≤ 2) ∧ codeOK tx k ∧
  ∀ x y, 0 ≤ x → x < 7 → 0 ≤ y → y < 7 → (0 ≤ c (q + 1) (7 * x + y).toNat ∧ c (q + 1) (7 * x + y).toNat < 512) ∧ ∀ a b, 0 ≤ a → a < 3 → 0 ≤ b → b < 3 → bt (c (q + 1) (7 * x + y).toNat) (3 * a + b) = jud tx k a b x y
def SeeRel (f : Nat → Int) (c : Nat → Nat → Int) (b : Nat) : Prop := ∀ n l, 0 ≤ n → n < 20 → 0 ≤ l → l < 7 → (0 ≤ c (b + 4) n.toNat ∧ c (b + 4) n.toNat < 128) ∧ (-1 ≤ f (150 + 7 * n + l).toNat ∧ f (150 + 7 * n + l).toNat ≤ 2) ∧ bt (c (b + 4) n.toNat) l = decide (0 ≤ f (150 + 7 * n + l).toNat) ∧ (0 ≤ f (150 + 7 * n + l).toNat → c (b + 5) (7 * n + l).toNat = f (150 + 7 * n + l).toNat)
def BoxRel (f : Nat → Int) (c : Nat → Nat → Int) (b : Nat) : Prop := (f 4 = 0 ∧ c (b + 6) 0 = -1) ∨ (f 4 = 1 ∧ (0 ≤ f 5 ∧ f 5 < f 0) ∧ c (b + 6) 0 = f 5 ∧ (0 ≤ c (b + 6) 1 ∧ c (b + 6) 1 < 16384) ∧ (0 ≤ c (b + 6) 2 ∧ c (b + 6) 2 < 128) ∧ ∀ l, 0 ≤ l → l < 7 → f (310 + l).toNat = b2i (bt (c (b + 6) 2) l) ∧ (l < f (20 + f 5).toNat → (0 ≤ f (300 + l).toNat ∧ f (300 + l).toNat ≤ 2) ∧ pin (c (b + 6) 1) l = f (300 + l).toNat) ∧ (f (20 + f 5).toNat ≤ l → bt (c (b + 6) 2) l = false))
def LockRel (f : Nat → Int) (c : Nat → Nat → Int) (b : Nat) : Prop := (c (b + 7) 0 = f 10 ∧ c (b + 7) 1 = f 11 ∧ c (b + 7) 2 = f 12 ∧ c (b + 7) 3 = f 13 ∧ c (b + 7) 4 = f 14) ∧ (0 ≤ f 10 ∧ f 10 ≤ 63) ∧ (0 ≤ f 11 ∧ f 11 ≤ 63) ∧ (0 ≤ f 12 ∧ f 12 ≤ 63) ∧ (1 ≤ f 13 ∧ f 13 ≤ 64) ∧ (1 ≤ f 14 ∧ f 14 ≤ 32)
def RidRel (f : Nat → Int) (c : Nat → Nat → Int) (b : Nat) : Prop := (c (b + 8) 1 = f 3 ∧ c (b + 8) 2 = f 2) ∧ (1 ≤ f 3 ∧ f 3 ≤ 3) ∧ (0 ≤ f 2 ∧ f 2 ≤ 3) ∧ ∀ i, 0 ≤ i → i < 3 * f 2 → c (b + 9) i.toNat = f (320 + i).toNat ∧ f (320 + i).toNat ≠ 0 ∧ -(f 3) ≤ f (320 + i).toNat ∧ f (320 + i).toNat ≤ f 3
def StRel (f tx : Nat → Int) (c : Nat → Nat → Int) (b : Nat) : Prop := (c b 6 = f 0 ∧ 0 ≤ f 0 ∧ f 0 ≤ 4) ∧ (∀ m : Nat, (m : Int) < f 0 → MapRel f c (b + 10 + 5 * m) m) ∧ (∀ m : Nat, m < 4 → f 0 ≤ (m : Int) → f (24 + (m : Int)).toNat = 0) ∧ (c b 7 = f 1 ∧ 0 ≤ f 1 ∧ f 1 ≤ 8) ∧ (∀ k : Nat, (k : Int) < f 1 → ShRel tx c (b + 30 + 2 * k) k) ∧ SeeRel f c b ∧ BoxRel f c b ∧ LockRel f c b ∧ RidRel f c b
def TapeRel (c : Nat → Nat → Int) : Prop := (c 122 5 = c 142 9 ∧ 0 ≤ c 142 9 ∧ c 142 9 ≤ 300) ∧ (∀ i, 0 ≤ i → i < c 142 9 → c 123 i.toNat = c 150 i.toNat ∧ 0 ≤ c 150 i.toNat ∧ c 150 i.toNat ≤ 255) ∧ c 122 6 = c 142 10 ∧ c 122 7 = c 142 11
/-- all that holds between two calls of the law -/
def Inv (s : List (Nat × Nat)) (c : Nat → Nat → Int) (n : Nat) : Prop := SpN s n ∧ Xt c ∧ MS c ∧ CS c ∧ StRel (c 143) (c 145) c 30 ∧ StRel (c 144) (c 145) c 76 ∧ c 144 1 ≤ c 143 1 ∧ RefI c n ∧ AnsI s c ∧ TapeRel c
