/-! each method: its words by their places in lw_tbl -/
theorem in_t1 {w : Jvm.Cond} (h : w ∈ tables_1_1) : w ∈ lw_tbl := List.mem_append_right _ (show w ∈ tables_1 from List.mem_append_left _ h)
theorem in_t2 {w : Jvm.Cond} (h : w ∈ tables_1_2) : w ∈ lw_tbl := List.mem_append_right _ (show w ∈ tables_1 from List.mem_append_right _ (List.mem_append_left _ h))
theorem in_t3 {w : Jvm.Cond} (h : w ∈ tables_1_3) : w ∈ lw_tbl := List.mem_append_right _ (show w ∈ tables_1 from List.mem_append_right _ (List.mem_append_right _ (List.mem_append_left _ h)))
theorem in_t4 {w : Jvm.Cond} (h : w ∈ tables_1_4) : w ∈ lw_tbl := List.mem_append_right _ (show w ∈ tables_1 from List.mem_append_right _ (List.mem_append_right _ (List.mem_append_right _ (List.mem_append_left _ h))))
theorem in_t5 {w : Jvm.Cond} (h : w ∈ tables_1_5) : w ∈ lw_tbl := List.mem_append_right _ (show w ∈ tables_1 from List.mem_append_right _ (List.mem_append_right _ (List.mem_append_right _ (List.mem_append_right _ (List.mem_append_left _ h)))))
theorem in_t6 {w : Jvm.Cond} (h : w ∈ tables_1_6) : w ∈ lw_tbl := List.mem_append_right _ (show w ∈ tables_1 from List.mem_append_right _ (List.mem_append_right _ (List.mem_append_right _ (List.mem_append_right _ (List.mem_append_right _ (List.mem_append_left _ h))))))
theorem in_t7 {w : Jvm.Cond} (h : w ∈ tables_1_7) : w ∈ lw_tbl := List.mem_append_right _ (show w ∈ tables_1 from List.mem_append_right _ (List.mem_append_right _ (List.mem_append_right _ (List.mem_append_right _ (List.mem_append_right _ (List.mem_append_right _ (List.mem_append_left _ h)))))))
theorem in_t8 {w : Jvm.Cond} (h : w ∈ tables_1_8) : w ∈ lw_tbl := List.mem_append_right _ (show w ∈ tables_1 from List.mem_append_right _ (List.mem_append_right _ (List.mem_append_right _ (List.mem_append_right _ (List.mem_append_right _ (List.mem_append_right _ (List.mem_append_right _ (h))))))))
def cwP (z : Nat) : Prop := Jvm.Cond.code (mName z) (mByt z) (mMl z) (mRet z) ∈ lw_tbl
set_option maxRecDepth 20000 in
theorem cw_0 : cwP 0 := in_t1 (List.mem_of_getElem? (i := 58) rfl)
set_option maxRecDepth 20000 in
theorem cw_1 : cwP 1 := in_t5 (List.mem_of_getElem? (i := 3) rfl)
set_option maxRecDepth 20000 in
theorem cw_2 : cwP 2 := in_t5 (List.mem_of_getElem? (i := 217) rfl)
set_option maxRecDepth 20000 in
theorem cw_3 : cwP 3 := in_t5 (List.mem_of_getElem? (i := 11) rfl)
set_option maxRecDepth 20000 in
theorem cw_4 : cwP 4 := in_t5 (List.mem_of_getElem? (i := 20) rfl)
set_option maxRecDepth 20000 in
theorem cw_5 : cwP 5 := in_t5 (List.mem_of_getElem? (i := 25) rfl)
set_option maxRecDepth 20000 in
theorem cw_6 : cwP 6 := in_t1 (List.mem_of_getElem? (i := 116) rfl)
set_option maxRecDepth 20000 in
theorem cw_7 : cwP 7 := in_t2 (List.mem_of_getElem? (i := 172) rfl)
set_option maxRecDepth 20000 in
theorem cw_8 : cwP 8 := in_t5 (List.mem_of_getElem? (i := 200) rfl)
set_option maxRecDepth 20000 in
theorem cw_9 : cwP 9 := in_t2 (List.mem_of_getElem? (i := 184) rfl)
set_option maxRecDepth 20000 in
theorem cw_10 : cwP 10 := in_t2 (List.mem_of_getElem? (i := 191) rfl)
set_option maxRecDepth 20000 in
theorem cw_11 : cwP 11 := in_t2 (List.mem_of_getElem? (i := 227) rfl)
set_option maxRecDepth 20000 in
theorem cw_12 : cwP 12 := in_t2 (List.mem_of_getElem? (i := 212) rfl)
set_option maxRecDepth 20000 in
theorem cw_13 : cwP 13 := in_t2 (List.mem_of_getElem? (i := 199) rfl)
set_option maxRecDepth 20000 in
theorem cw_14 : cwP 14 := in_t2 (List.mem_of_getElem? (i := 219) rfl)
set_option maxRecDepth 20000 in
theorem cw_15 : cwP 15 := in_t4 (List.mem_of_getElem? (i := 117) rfl)
set_option maxRecDepth 20000 in
theorem cw_16 : cwP 16 := in_t5 (List.mem_of_getElem? (i := 98) rfl)
set_option maxRecDepth 20000 in
theorem cw_17 : cwP 17 := in_t3 (List.mem_of_getElem? (i := 3) rfl)
set_option maxRecDepth 20000 in
theorem cw_18 : cwP 18 := in_t3 (List.mem_of_getElem? (i := 7) rfl)
set_option maxRecDepth 20000 in
theorem cw_19 : cwP 19 := in_t3 (List.mem_of_getElem? (i := 27) rfl)
set_option maxRecDepth 20000 in
theorem cw_20 : cwP 20 := in_t3 (List.mem_of_getElem? (i := 15) rfl)
set_option maxRecDepth 20000 in
theorem cw_21 : cwP 21 := in_t3 (List.mem_of_getElem? (i := 19) rfl)
set_option maxRecDepth 20000 in
theorem cw_22 : cwP 22 := in_t3 (List.mem_of_getElem? (i := 23) rfl)
set_option maxRecDepth 20000 in
theorem cw_23 : cwP 23 := in_t1 (List.mem_of_getElem? (i := 228) rfl)
set_option maxRecDepth 20000 in
theorem cw_24 : cwP 24 := in_t4 (List.mem_of_getElem? (i := 18) rfl)
set_option maxRecDepth 20000 in
theorem cw_25 : cwP 25 := in_t3 (List.mem_of_getElem? (i := 51) rfl)
set_option maxRecDepth 20000 in
theorem cw_26 : cwP 26 := in_t3 (List.mem_of_getElem? (i := 236) rfl)
set_option maxRecDepth 20000 in
theorem cw_27 : cwP 27 := in_t4 (List.mem_of_getElem? (i := 26) rfl)
set_option maxRecDepth 20000 in
theorem cw_28 : cwP 28 := in_t4 (List.mem_of_getElem? (i := 30) rfl)
set_option maxRecDepth 20000 in
theorem cw_29 : cwP 29 := in_t4 (List.mem_of_getElem? (i := 34) rfl)
set_option maxRecDepth 20000 in
theorem cw_30 : cwP 30 := in_t4 (List.mem_of_getElem? (i := 15) rfl)
set_option maxRecDepth 20000 in
theorem cw_31 : cwP 31 := in_t4 (List.mem_of_getElem? (i := 39) rfl)
set_option maxRecDepth 20000 in
theorem cw_32 : cwP 32 := in_t4 (List.mem_of_getElem? (i := 42) rfl)
set_option maxRecDepth 20000 in
theorem cw_33 : cwP 33 := in_t4 (List.mem_of_getElem? (i := 45) rfl)
set_option maxRecDepth 20000 in
theorem cw_34 : cwP 34 := in_t1 (List.mem_of_getElem? (i := 76) rfl)
set_option maxRecDepth 20000 in
theorem cw_35 : cwP 35 := in_t5 (List.mem_of_getElem? (i := 38) rfl)
set_option maxRecDepth 20000 in
theorem cw_36 : cwP 36 := in_t5 (List.mem_of_getElem? (i := 35) rfl)
set_option maxRecDepth 20000 in
theorem cw_37 : cwP 37 := in_t5 (List.mem_of_getElem? (i := 221) rfl)
set_option maxRecDepth 20000 in
theorem cw_38 : cwP 38 := in_t5 (List.mem_of_getElem? (i := 46) rfl)
set_option maxRecDepth 20000 in
theorem cw_39 : cwP 39 := in_t5 (List.mem_of_getElem? (i := 54) rfl)
set_option maxRecDepth 20000 in
theorem cw_40 : cwP 40 := in_t5 (List.mem_of_getElem? (i := 62) rfl)
set_option maxRecDepth 20000 in
theorem cw_41 : cwP 41 := in_t5 (List.mem_of_getElem? (i := 59) rfl)
set_option maxRecDepth 20000 in
theorem cw_42 : cwP 42 := in_t5 (List.mem_of_getElem? (i := 66) rfl)
set_option maxRecDepth 20000 in
theorem cw_43 : cwP 43 := in_t5 (List.mem_of_getElem? (i := 70) rfl)
set_option maxRecDepth 20000 in
theorem cw_44 : cwP 44 := in_t2 (List.mem_of_getElem? (i := 66) rfl)
set_option maxRecDepth 20000 in
theorem cw_45 : cwP 45 := in_t4 (List.mem_of_getElem? (i := 77) rfl)
set_option maxRecDepth 20000 in
theorem cw_46 : cwP 46 := in_t4 (List.mem_of_getElem? (i := 84) rfl)
set_option maxRecDepth 20000 in
theorem cw_47 : cwP 47 := in_t4 (List.mem_of_getElem? (i := 105) rfl)
set_option maxRecDepth 20000 in
theorem cw_48 : cwP 48 := in_t4 (List.mem_of_getElem? (i := 91) rfl)
set_option maxRecDepth 20000 in
theorem cw_49 : cwP 49 := in_t4 (List.mem_of_getElem? (i := 101) rfl)
set_option maxRecDepth 20000 in
theorem cw_50 : cwP 50 := in_t4 (List.mem_of_getElem? (i := 109) rfl)
set_option maxRecDepth 20000 in
theorem cw_51 : cwP 51 := in_t4 (List.mem_of_getElem? (i := 139) rfl)
set_option maxRecDepth 20000 in
theorem cw_52 : cwP 52 := in_t4 (List.mem_of_getElem? (i := 145) rfl)
set_option maxRecDepth 20000 in
theorem cw_53 : cwP 53 := in_t4 (List.mem_of_getElem? (i := 175) rfl)
set_option maxRecDepth 20000 in
theorem cw_54 : cwP 54 := in_t4 (List.mem_of_getElem? (i := 184) rfl)
set_option maxRecDepth 20000 in
theorem cw_55 : cwP 55 := in_t4 (List.mem_of_getElem? (i := 179) rfl)
set_option maxRecDepth 20000 in
theorem cw_56 : cwP 56 := in_t4 (List.mem_of_getElem? (i := 188) rfl)
set_option maxRecDepth 20000 in
theorem cw_57 : cwP 57 := in_t4 (List.mem_of_getElem? (i := 206) rfl)
set_option maxRecDepth 20000 in
theorem cw_58 : cwP 58 := in_t4 (List.mem_of_getElem? (i := 227) rfl)
set_option maxRecDepth 20000 in
theorem cw_59 : cwP 59 := in_t4 (List.mem_of_getElem? (i := 233) rfl)
set_option maxRecDepth 20000 in
theorem cw_60 : cwP 60 := in_t5 (List.mem_of_getElem? (i := 80) rfl)
set_option maxRecDepth 20000 in
theorem cw_61 : cwP 61 := in_t5 (List.mem_of_getElem? (i := 85) rfl)
set_option maxRecDepth 20000 in
theorem cw_62 : cwP 62 := in_t2 (List.mem_of_getElem? (i := 134) rfl)
set_option maxRecDepth 20000 in
theorem cw_63 : cwP 63 := in_t4 (List.mem_of_getElem? (i := 158) rfl)
set_option maxRecDepth 20000 in
theorem cw_64 : cwP 64 := in_t4 (List.mem_of_getElem? (i := 163) rfl)
set_option maxRecDepth 20000 in
theorem cw_65 : cwP 65 := in_t4 (List.mem_of_getElem? (i := 167) rfl)
set_option maxRecDepth 20000 in
theorem cw_66 : cwP 66 := in_t1 (List.mem_of_getElem? (i := 222) rfl)
set_option maxRecDepth 20000 in
theorem cw_67 : cwP 67 := in_t3 (List.mem_of_getElem? (i := 35) rfl)
set_option maxRecDepth 20000 in
theorem cw_68 : cwP 68 := in_t4 (List.mem_of_getElem? (i := 22) rfl)
set_option maxRecDepth 20000 in
theorem cw_69 : cwP 69 := in_t3 (List.mem_of_getElem? (i := 47) rfl)
set_option maxRecDepth 20000 in
theorem cw_70 : cwP 70 := in_t3 (List.mem_of_getElem? (i := 207) rfl)
set_option maxRecDepth 20000 in
theorem cw_71 : cwP 71 := in_t3 (List.mem_of_getElem? (i := 212) rfl)
set_option maxRecDepth 20000 in
theorem cw_72 : cwP 72 := in_t3 (List.mem_of_getElem? (i := 203) rfl)
set_option maxRecDepth 20000 in
theorem cw_73 : cwP 73 := in_t3 (List.mem_of_getElem? (i := 216) rfl)
set_option maxRecDepth 20000 in
theorem cw_74 : cwP 74 := in_t3 (List.mem_of_getElem? (i := 220) rfl)
set_option maxRecDepth 20000 in
theorem cw_75 : cwP 75 := in_t3 (List.mem_of_getElem? (i := 224) rfl)
set_option maxRecDepth 20000 in
theorem cw_76 : cwP 76 := in_t3 (List.mem_of_getElem? (i := 228) rfl)
set_option maxRecDepth 20000 in
theorem cw_77 : cwP 77 := in_t3 (List.mem_of_getElem? (i := 232) rfl)
set_option maxRecDepth 20000 in
theorem cw_78 : cwP 78 := in_t4 (List.mem_of_getElem? (i := 0) rfl)
set_option maxRecDepth 20000 in
theorem cw_79 : cwP 79 := in_t4 (List.mem_of_getElem? (i := 4) rfl)
set_option maxRecDepth 20000 in
theorem cw_80 : cwP 80 := in_t4 (List.mem_of_getElem? (i := 8) rfl)
set_option maxRecDepth 20000 in
theorem cw_81 : cwP 81 := in_t4 (List.mem_of_getElem? (i := 12) rfl)
set_option maxRecDepth 20000 in
theorem cw_82 : cwP 82 := in_t3 (List.mem_of_getElem? (i := 55) rfl)
set_option maxRecDepth 20000 in
theorem cw_83 : cwP 83 := in_t3 (List.mem_of_getElem? (i := 59) rfl)
set_option maxRecDepth 20000 in
theorem cw_84 : cwP 84 := in_t3 (List.mem_of_getElem? (i := 66) rfl)
set_option maxRecDepth 20000 in
theorem cw_85 : cwP 85 := in_t3 (List.mem_of_getElem? (i := 197) rfl)
set_option maxRecDepth 20000 in
theorem cw_86 : cwP 86 := in_t3 (List.mem_of_getElem? (i := 70) rfl)
set_option maxRecDepth 20000 in
theorem cw_87 : cwP 87 := in_t3 (List.mem_of_getElem? (i := 160) rfl)
set_option maxRecDepth 20000 in
theorem cw_88 : cwP 88 := in_t3 (List.mem_of_getElem? (i := 62) rfl)
set_option maxRecDepth 20000 in
theorem cw_89 : cwP 89 := in_t3 (List.mem_of_getElem? (i := 193) rfl)
set_option maxRecDepth 20000 in
theorem cw_90 : cwP 90 := in_t1 (List.mem_of_getElem? (i := 99) rfl)
set_option maxRecDepth 20000 in
theorem cw_91 : cwP 91 := in_t5 (List.mem_of_getElem? (i := 112) rfl)
set_option maxRecDepth 20000 in
theorem cw_92 : cwP 92 := in_t5 (List.mem_of_getElem? (i := 225) rfl)
set_option maxRecDepth 20000 in
theorem cw_93 : cwP 93 := in_t5 (List.mem_of_getElem? (i := 124) rfl)
set_option maxRecDepth 20000 in
theorem cw_94 : cwP 94 := in_t5 (List.mem_of_getElem? (i := 120) rfl)
set_option maxRecDepth 20000 in
theorem cw_95 : cwP 95 := in_t5 (List.mem_of_getElem? (i := 136) rfl)
set_option maxRecDepth 20000 in
theorem cw_96 : cwP 96 := in_t5 (List.mem_of_getElem? (i := 153) rfl)
set_option maxRecDepth 20000 in
theorem cw_97 : cwP 97 := in_t5 (List.mem_of_getElem? (i := 157) rfl)
set_option maxRecDepth 20000 in
theorem cw_98 : cwP 98 := in_t5 (List.mem_of_getElem? (i := 132) rfl)
set_option maxRecDepth 20000 in
theorem cw_99 : cwP 99 := in_t5 (List.mem_of_getElem? (i := 140) rfl)
set_option maxRecDepth 20000 in
theorem cw_100 : cwP 100 := in_t5 (List.mem_of_getElem? (i := 144) rfl)
set_option maxRecDepth 20000 in
theorem cw_101 : cwP 101 := in_t5 (List.mem_of_getElem? (i := 161) rfl)
set_option maxRecDepth 20000 in
theorem cw_102 : cwP 102 := in_t5 (List.mem_of_getElem? (i := 165) rfl)
set_option maxRecDepth 20000 in
theorem cw_103 : cwP 103 := in_t5 (List.mem_of_getElem? (i := 168) rfl)
set_option maxRecDepth 20000 in
theorem cw_104 : cwP 104 := in_t1 (List.mem_of_getElem? (i := 162) rfl)
set_option maxRecDepth 20000 in
theorem cw_105 : cwP 105 := in_t5 (List.mem_of_getElem? (i := 207) rfl)
set_option maxRecDepth 20000 in
theorem cw_106 : cwP 106 := in_t1 (List.mem_of_getElem? (i := 44) rfl)
set_option maxRecDepth 20000 in
theorem cw_107 : cwP 107 := in_t4 (List.mem_of_getElem? (i := 196) rfl)
set_option maxRecDepth 20000 in
theorem cw_108 : cwP 108 := in_t5 (List.mem_of_getElem? (i := 212) rfl)
set_option maxRecDepth 20000 in
theorem cw_109 : cwP 109 := in_t5 (List.mem_of_getElem? (i := 238) rfl)
set_option maxRecDepth 20000 in
theorem cw_110 : cwP 110 := in_t4 (List.mem_of_getElem? (i := 210) rfl)
set_option maxRecDepth 20000 in
theorem cw_111 : cwP 111 := in_t4 (List.mem_of_getElem? (i := 214) rfl)
set_option maxRecDepth 20000 in
theorem cw_112 : cwP 112 := in_t1 (List.mem_of_getElem? (i := 34) rfl)
set_option maxRecDepth 20000 in
theorem cw_113 : cwP 113 := in_t2 (List.mem_of_getElem? (i := 180) rfl)
set_option maxRecDepth 20000 in
theorem cw_114 : cwP 114 := in_t4 (List.mem_of_getElem? (i := 73) rfl)
set_option maxRecDepth 20000 in
theorem cw_115 : cwP 115 := in_t5 (List.mem_of_getElem? (i := 196) rfl)
set_option maxRecDepth 20000 in
theorem cw_116 : cwP 116 := in_t1 (List.mem_of_getElem? (i := 26) rfl)
set_option maxRecDepth 20000 in
theorem cw_117 : cwP 117 := in_t2 (List.mem_of_getElem? (i := 168) rfl)
set_option maxRecDepth 20000 in
theorem cw_118 : cwP 118 := in_t2 (List.mem_of_getElem? (i := 176) rfl)
set_option maxRecDepth 20000 in
theorem cw_119 : cwP 119 := in_t2 (List.mem_of_getElem? (i := 195) rfl)
set_option maxRecDepth 20000 in
theorem cw_120 : cwP 120 := in_t2 (List.mem_of_getElem? (i := 223) rfl)
set_option maxRecDepth 20000 in
theorem cw_121 : cwP 121 := in_t2 (List.mem_of_getElem? (i := 239) rfl)
set_option maxRecDepth 20000 in
theorem cw_122 : cwP 122 := in_t3 (List.mem_of_getElem? (i := 11) rfl)
set_option maxRecDepth 20000 in
theorem cw_123 : cwP 123 := in_t3 (List.mem_of_getElem? (i := 31) rfl)
set_option maxRecDepth 20000 in
theorem cw_124 : cwP 124 := in_t3 (List.mem_of_getElem? (i := 39) rfl)
set_option maxRecDepth 20000 in
theorem cw_125 : cwP 125 := in_t3 (List.mem_of_getElem? (i := 43) rfl)
set_option maxRecDepth 20000 in
theorem cw_126 : cwP 126 := in_t4 (List.mem_of_getElem? (i := 61) rfl)
set_option maxRecDepth 20000 in
theorem cw_127 : cwP 127 := in_t4 (List.mem_of_getElem? (i := 65) rfl)
set_option maxRecDepth 20000 in
theorem cw_128 : cwP 128 := in_t4 (List.mem_of_getElem? (i := 97) rfl)
set_option maxRecDepth 20000 in
theorem cw_129 : cwP 129 := in_t4 (List.mem_of_getElem? (i := 135) rfl)
set_option maxRecDepth 20000 in
theorem cw_130 : cwP 130 := in_t4 (List.mem_of_getElem? (i := 149) rfl)
set_option maxRecDepth 20000 in
theorem cw_131 : cwP 131 := in_t4 (List.mem_of_getElem? (i := 171) rfl)
set_option maxRecDepth 20000 in
theorem cw_132 : cwP 132 := in_t4 (List.mem_of_getElem? (i := 192) rfl)
set_option maxRecDepth 20000 in
theorem cw_133 : cwP 133 := in_t4 (List.mem_of_getElem? (i := 200) rfl)
set_option maxRecDepth 20000 in
theorem cw_134 : cwP 134 := in_t4 (List.mem_of_getElem? (i := 223) rfl)
set_option maxRecDepth 20000 in
theorem cw_135 : cwP 135 := in_t4 (List.mem_of_getElem? (i := 238) rfl)
set_option maxRecDepth 20000 in
theorem cw_136 : cwP 136 := in_t5 (List.mem_of_getElem? (i := 7) rfl)
set_option maxRecDepth 20000 in
theorem cw_137 : cwP 137 := in_t5 (List.mem_of_getElem? (i := 16) rfl)
set_option maxRecDepth 20000 in
theorem cw_138 : cwP 138 := in_t5 (List.mem_of_getElem? (i := 31) rfl)
set_option maxRecDepth 20000 in
theorem cw_139 : cwP 139 := in_t5 (List.mem_of_getElem? (i := 42) rfl)
set_option maxRecDepth 20000 in
theorem cw_140 : cwP 140 := in_t5 (List.mem_of_getElem? (i := 50) rfl)
set_option maxRecDepth 20000 in
theorem cw_141 : cwP 141 := in_t5 (List.mem_of_getElem? (i := 76) rfl)
set_option maxRecDepth 20000 in
theorem cw_142 : cwP 142 := in_t5 (List.mem_of_getElem? (i := 90) rfl)
set_option maxRecDepth 20000 in
theorem cw_143 : cwP 143 := in_t5 (List.mem_of_getElem? (i := 108) rfl)
set_option maxRecDepth 20000 in
theorem cw_144 : cwP 144 := in_t5 (List.mem_of_getElem? (i := 116) rfl)
set_option maxRecDepth 20000 in
theorem cw_145 : cwP 145 := in_t5 (List.mem_of_getElem? (i := 128) rfl)
set_option maxRecDepth 20000 in
theorem cw_146 : cwP 146 := in_t5 (List.mem_of_getElem? (i := 175) rfl)
set_option maxRecDepth 20000 in
theorem cw_147 : cwP 147 := in_t5 (List.mem_of_getElem? (i := 192) rfl)
set_option maxRecDepth 20000 in
theorem cw_148 : cwP 148 := in_t5 (List.mem_of_getElem? (i := 230) rfl)
set_option maxRecDepth 20000 in
theorem cw_149 : cwP 149 := in_t5 (List.mem_of_getElem? (i := 234) rfl)
set_option maxRecDepth 20000 in
theorem cw_150 : cwP 150 := in_t6 (List.mem_of_getElem? (i := 3) rfl)
set_option maxRecDepth 20000 in
theorem cw_151 : cwP 151 := in_t6 (List.mem_of_getElem? (i := 7) rfl)
set_option maxRecDepth 20000 in
theorem cw_152 : cwP 152 := in_t4 (List.mem_of_getElem? (i := 69) rfl)
set_option maxRecDepth 20000 in
theorem cw_153 : cwP 153 := in_t4 (List.mem_of_getElem? (i := 154) rfl)
set_option maxRecDepth 20000 in
theorem cw_154 : cwP 154 := in_t5 (List.mem_of_getElem? (i := 94) rfl)
set_option maxRecDepth 20000 in
theorem cw_155 : cwP 155 := in_t5 (List.mem_of_getElem? (i := 103) rfl)
set_option maxRecDepth 20000 in
theorem cw_156 : cwP 156 := in_t5 (List.mem_of_getElem? (i := 179) rfl)
set_option maxRecDepth 20000 in
theorem cw_157 : cwP 157 := in_t5 (List.mem_of_getElem? (i := 182) rfl)
set_option maxRecDepth 20000 in
theorem cw_158 : cwP 158 := in_t5 (List.mem_of_getElem? (i := 188) rfl)
set_option maxRecDepth 20000 in
theorem cw_159 : cwP 159 := in_t4 (List.mem_of_getElem? (i := 56) rfl)
set_option maxRecDepth 20000 in
theorem cw_160 : cwP 160 := in_t4 (List.mem_of_getElem? (i := 87) rfl)
set_option maxRecDepth 20000 in
theorem cw_161 : cwP 161 := in_t2 (List.mem_of_getElem? (i := 230) rfl)
set_option maxRecDepth 20000 in
theorem cw_162 : cwP 162 := in_t4 (List.mem_of_getElem? (i := 80) rfl)
set_option maxRecDepth 20000 in
theorem cw_163 : cwP 163 := in_t2 (List.mem_of_getElem? (i := 202) rfl)
set_option maxRecDepth 20000 in
theorem cw_164 : cwP 164 := in_t2 (List.mem_of_getElem? (i := 208) rfl)
set_option maxRecDepth 20000 in
theorem cw_165 : cwP 165 := in_t2 (List.mem_of_getElem? (i := 215) rfl)
set_option maxRecDepth 20000 in
theorem cw_166 : cwP 166 := in_t4 (List.mem_of_getElem? (i := 120) rfl)
set_option maxRecDepth 20000 in
theorem cw_167 : cwP 167 := in_t2 (List.mem_of_getElem? (i := 233) rfl)
set_option maxRecDepth 20000 in
theorem cw_168 : cwP 168 := in_t4 (List.mem_of_getElem? (i := 112) rfl)
set_option maxRecDepth 20000 in
theorem cw_169 : cwP 169 := in_t2 (List.mem_of_getElem? (i := 187) rfl)
set_option maxRecDepth 20000 in
theorem cw_170 : cwP 170 := in_t6 (List.mem_of_getElem? (i := 12) rfl)
set_option maxRecDepth 20000 in
theorem cw_171 : cwP 171 := in_t6 (List.mem_of_getElem? (i := 16) rfl)
set_option maxRecDepth 20000 in
theorem cw_172 : cwP 172 := in_t6 (List.mem_of_getElem? (i := 156) rfl)
set_option maxRecDepth 20000 in
theorem cw_173 : cwP 173 := in_t6 (List.mem_of_getElem? (i := 164) rfl)
set_option maxRecDepth 20000 in
theorem cw_174 : cwP 174 := in_t6 (List.mem_of_getElem? (i := 208) rfl)
set_option maxRecDepth 20000 in
theorem cw_175 : cwP 175 := in_t6 (List.mem_of_getElem? (i := 153) rfl)
set_option maxRecDepth 20000 in
theorem cw_176 : cwP 176 := in_t6 (List.mem_of_getElem? (i := 172) rfl)
set_option maxRecDepth 20000 in
theorem cw_177 : cwP 177 := in_t6 (List.mem_of_getElem? (i := 176) rfl)
set_option maxRecDepth 20000 in
theorem cw_178 : cwP 178 := in_t6 (List.mem_of_getElem? (i := 168) rfl)
set_option maxRecDepth 20000 in
theorem cw_179 : cwP 179 := in_t6 (List.mem_of_getElem? (i := 160) rfl)
set_option maxRecDepth 20000 in
theorem cw_180 : cwP 180 := in_t6 (List.mem_of_getElem? (i := 188) rfl)
set_option maxRecDepth 20000 in
theorem cw_181 : cwP 181 := in_t6 (List.mem_of_getElem? (i := 196) rfl)
set_option maxRecDepth 20000 in
theorem cw_182 : cwP 182 := in_t6 (List.mem_of_getElem? (i := 192) rfl)
set_option maxRecDepth 20000 in
theorem cw_183 : cwP 183 := in_t6 (List.mem_of_getElem? (i := 184) rfl)
set_option maxRecDepth 20000 in
theorem cw_184 : cwP 184 := in_t6 (List.mem_of_getElem? (i := 180) rfl)
set_option maxRecDepth 20000 in
theorem cw_185 : cwP 185 := in_t6 (List.mem_of_getElem? (i := 204) rfl)
set_option maxRecDepth 20000 in
theorem cw_186 : cwP 186 := in_t6 (List.mem_of_getElem? (i := 200) rfl)
set_option maxRecDepth 20000 in
theorem cw_187 : cwP 187 := in_t6 (List.mem_of_getElem? (i := 220) rfl)
set_option maxRecDepth 20000 in
theorem cw_188 : cwP 188 := in_t6 (List.mem_of_getElem? (i := 216) rfl)
set_option maxRecDepth 20000 in
theorem cw_189 : cwP 189 := in_t6 (List.mem_of_getElem? (i := 212) rfl)
set_option maxRecDepth 20000 in
theorem cw_190 : cwP 190 := in_t6 (List.mem_of_getElem? (i := 228) rfl)
set_option maxRecDepth 20000 in
theorem cw_191 : cwP 191 := in_t6 (List.mem_of_getElem? (i := 224) rfl)
set_option maxRecDepth 20000 in
theorem cw_192 : cwP 192 := in_t6 (List.mem_of_getElem? (i := 236) rfl)
set_option maxRecDepth 20000 in
theorem cw_193 : cwP 193 := in_t6 (List.mem_of_getElem? (i := 232) rfl)
set_option maxRecDepth 20000 in
theorem cw_194 : cwP 194 := in_t7 (List.mem_of_getElem? (i := 0) rfl)
set_option maxRecDepth 20000 in
theorem cw_195 : cwP 195 := in_t7 (List.mem_of_getElem? (i := 16) rfl)
set_option maxRecDepth 20000 in
theorem cw_196 : cwP 196 := in_t7 (List.mem_of_getElem? (i := 23) rfl)
set_option maxRecDepth 20000 in
theorem cw_197 : cwP 197 := in_t7 (List.mem_of_getElem? (i := 19) rfl)
set_option maxRecDepth 20000 in
theorem cw_198 : cwP 198 := in_t7 (List.mem_of_getElem? (i := 12) rfl)
set_option maxRecDepth 20000 in
theorem cw_199 : cwP 199 := in_t7 (List.mem_of_getElem? (i := 37) rfl)
set_option maxRecDepth 20000 in
theorem cw_200 : cwP 200 := in_t7 (List.mem_of_getElem? (i := 44) rfl)
set_option maxRecDepth 20000 in
theorem cw_201 : cwP 201 := in_t7 (List.mem_of_getElem? (i := 34) rfl)
set_option maxRecDepth 20000 in
theorem cw_202 : cwP 202 := in_t7 (List.mem_of_getElem? (i := 41) rfl)
set_option maxRecDepth 20000 in
theorem cw_203 : cwP 203 := in_t7 (List.mem_of_getElem? (i := 78) rfl)
set_option maxRecDepth 20000 in
theorem cw_204 : cwP 204 := in_t7 (List.mem_of_getElem? (i := 82) rfl)
set_option maxRecDepth 20000 in
theorem cw_205 : cwP 205 := in_t7 (List.mem_of_getElem? (i := 86) rfl)
set_option maxRecDepth 20000 in
theorem cw_206 : cwP 206 := in_t7 (List.mem_of_getElem? (i := 74) rfl)
set_option maxRecDepth 20000 in
theorem cw_207 : cwP 207 := in_t7 (List.mem_of_getElem? (i := 94) rfl)
set_option maxRecDepth 20000 in
theorem cw_208 : cwP 208 := in_t7 (List.mem_of_getElem? (i := 90) rfl)
set_option maxRecDepth 20000 in
theorem cw_209 : cwP 209 := in_t7 (List.mem_of_getElem? (i := 66) rfl)
set_option maxRecDepth 20000 in
theorem cw_210 : cwP 210 := in_t7 (List.mem_of_getElem? (i := 62) rfl)
set_option maxRecDepth 20000 in
theorem cw_211 : cwP 211 := in_t7 (List.mem_of_getElem? (i := 70) rfl)
set_option maxRecDepth 20000 in
theorem cw_212 : cwP 212 := in_t7 (List.mem_of_getElem? (i := 58) rfl)
set_option maxRecDepth 20000 in
theorem cw_213 : cwP 213 := in_t7 (List.mem_of_getElem? (i := 102) rfl)
set_option maxRecDepth 20000 in
theorem cw_214 : cwP 214 := in_t7 (List.mem_of_getElem? (i := 54) rfl)
set_option maxRecDepth 20000 in
theorem cw_215 : cwP 215 := in_t7 (List.mem_of_getElem? (i := 50) rfl)
set_option maxRecDepth 20000 in
theorem cw_216 : cwP 216 := in_t7 (List.mem_of_getElem? (i := 31) rfl)
set_option maxRecDepth 20000 in
theorem cw_217 : cwP 217 := in_t7 (List.mem_of_getElem? (i := 27) rfl)
set_option maxRecDepth 20000 in
theorem cw_218 : cwP 218 := in_t7 (List.mem_of_getElem? (i := 8) rfl)
set_option maxRecDepth 20000 in
theorem cw_219 : cwP 219 := in_t7 (List.mem_of_getElem? (i := 4) rfl)
set_option maxRecDepth 20000 in
theorem cw_220 : cwP 220 := in_t7 (List.mem_of_getElem? (i := 107) rfl)
set_option maxRecDepth 20000 in
theorem cw_221 : cwP 221 := in_t7 (List.mem_of_getElem? (i := 115) rfl)
set_option maxRecDepth 20000 in
theorem cw_222 : cwP 222 := in_t7 (List.mem_of_getElem? (i := 119) rfl)
set_option maxRecDepth 20000 in
theorem cw_223 : cwP 223 := in_t7 (List.mem_of_getElem? (i := 162) rfl)
set_option maxRecDepth 20000 in
theorem cw_224 : cwP 224 := in_t7 (List.mem_of_getElem? (i := 123) rfl)
set_option maxRecDepth 20000 in
theorem cw_225 : cwP 225 := in_t7 (List.mem_of_getElem? (i := 131) rfl)
set_option maxRecDepth 20000 in
theorem cw_226 : cwP 226 := in_t7 (List.mem_of_getElem? (i := 135) rfl)
set_option maxRecDepth 20000 in
theorem cw_227 : cwP 227 := in_t7 (List.mem_of_getElem? (i := 145) rfl)
set_option maxRecDepth 20000 in
theorem cw_228 : cwP 228 := in_t7 (List.mem_of_getElem? (i := 142) rfl)
set_option maxRecDepth 20000 in
theorem cw_229 : cwP 229 := in_t7 (List.mem_of_getElem? (i := 150) rfl)
set_option maxRecDepth 20000 in
theorem cw_230 : cwP 230 := in_t7 (List.mem_of_getElem? (i := 139) rfl)
set_option maxRecDepth 20000 in
theorem cw_231 : cwP 231 := in_t7 (List.mem_of_getElem? (i := 127) rfl)
set_option maxRecDepth 20000 in
theorem cw_232 : cwP 232 := in_t7 (List.mem_of_getElem? (i := 166) rfl)
set_option maxRecDepth 20000 in
theorem cw_233 : cwP 233 := in_t7 (List.mem_of_getElem? (i := 111) rfl)
set_option maxRecDepth 20000 in
theorem cw_234 : cwP 234 := in_t7 (List.mem_of_getElem? (i := 158) rfl)
set_option maxRecDepth 20000 in
theorem cw_235 : cwP 235 := in_t7 (List.mem_of_getElem? (i := 154) rfl)
set_option maxRecDepth 20000 in
theorem cw_236 : cwP 236 := in_t7 (List.mem_of_getElem? (i := 174) rfl)
set_option maxRecDepth 20000 in
theorem cw_237 : cwP 237 := in_t7 (List.mem_of_getElem? (i := 170) rfl)
set_option maxRecDepth 20000 in
theorem cw_238 : cwP 238 := in_t7 (List.mem_of_getElem? (i := 182) rfl)
set_option maxRecDepth 20000 in
theorem cw_239 : cwP 239 := in_t7 (List.mem_of_getElem? (i := 187) rfl)
set_option maxRecDepth 20000 in
theorem cw_240 : cwP 240 := in_t7 (List.mem_of_getElem? (i := 178) rfl)
set_option maxRecDepth 20000 in
theorem cw_241 : cwP 241 := in_t7 (List.mem_of_getElem? (i := 207) rfl)
set_option maxRecDepth 20000 in
theorem cw_242 : cwP 242 := in_t7 (List.mem_of_getElem? (i := 203) rfl)
set_option maxRecDepth 20000 in
theorem cw_243 : cwP 243 := in_t7 (List.mem_of_getElem? (i := 211) rfl)
set_option maxRecDepth 20000 in
theorem cw_244 : cwP 244 := in_t7 (List.mem_of_getElem? (i := 199) rfl)
set_option maxRecDepth 20000 in
theorem cw_245 : cwP 245 := in_t7 (List.mem_of_getElem? (i := 195) rfl)
set_option maxRecDepth 20000 in
theorem cw_246 : cwP 246 := in_t7 (List.mem_of_getElem? (i := 191) rfl)
set_option maxRecDepth 20000 in
theorem cw_247 : cwP 247 := in_t7 (List.mem_of_getElem? (i := 215) rfl)
set_option maxRecDepth 20000 in
theorem cw_248 : cwP 248 := in_t7 (List.mem_of_getElem? (i := 232) rfl)
set_option maxRecDepth 20000 in
theorem cw_249 : cwP 249 := in_t7 (List.mem_of_getElem? (i := 228) rfl)
set_option maxRecDepth 20000 in
theorem cw_250 : cwP 250 := in_t7 (List.mem_of_getElem? (i := 224) rfl)
set_option maxRecDepth 20000 in
theorem cw_251 : cwP 251 := in_t7 (List.mem_of_getElem? (i := 219) rfl)
set_option maxRecDepth 20000 in
theorem cw_252 : cwP 252 := in_t8 (List.mem_of_getElem? (i := 0) rfl)
set_option maxRecDepth 20000 in
theorem cw_253 : cwP 253 := in_t7 (List.mem_of_getElem? (i := 236) rfl)
set_option maxRecDepth 20000 in
theorem cw_254 : cwP 254 := in_t8 (List.mem_of_getElem? (i := 4) rfl)
set_option maxRecDepth 20000 in
theorem cw_255 : cwP 255 := in_t8 (List.mem_of_getElem? (i := 12) rfl)
set_option maxRecDepth 20000 in
theorem cw_256 : cwP 256 := in_t8 (List.mem_of_getElem? (i := 8) rfl)
set_option maxRecDepth 20000 in
theorem cw_257 : cwP 257 := in_t8 (List.mem_of_getElem? (i := 20) rfl)
set_option maxRecDepth 20000 in
theorem cw_258 : cwP 258 := in_t8 (List.mem_of_getElem? (i := 16) rfl)
set_option maxRecDepth 20000 in
theorem cw_259 : cwP 259 := in_t8 (List.mem_of_getElem? (i := 24) rfl)
set_option maxRecDepth 20000 in
theorem cw_260 : cwP 260 := in_t8 (List.mem_of_getElem? (i := 32) rfl)
set_option maxRecDepth 20000 in
theorem cw_261 : cwP 261 := in_t8 (List.mem_of_getElem? (i := 28) rfl)
set_option maxRecDepth 20000 in
theorem cw_262 : cwP 262 := in_t8 (List.mem_of_getElem? (i := 48) rfl)
set_option maxRecDepth 20000 in
theorem cw_263 : cwP 263 := in_t8 (List.mem_of_getElem? (i := 40) rfl)
set_option maxRecDepth 20000 in
theorem cw_264 : cwP 264 := in_t8 (List.mem_of_getElem? (i := 44) rfl)
set_option maxRecDepth 20000 in
theorem cw_265 : cwP 265 := in_t8 (List.mem_of_getElem? (i := 36) rfl)
set_option maxRecDepth 20000 in
theorem cw_266 : cwP 266 := in_t8 (List.mem_of_getElem? (i := 52) rfl)
set_option maxRecDepth 20000 in
theorem cw_267 : cwP 267 := in_t8 (List.mem_of_getElem? (i := 56) rfl)
set_option maxRecDepth 20000 in
theorem cw_268 : cwP 268 := in_t8 (List.mem_of_getElem? (i := 60) rfl)
set_option maxRecDepth 20000 in
theorem cw_269 : cwP 269 := in_t8 (List.mem_of_getElem? (i := 68) rfl)
set_option maxRecDepth 20000 in
theorem cw_270 : cwP 270 := in_t8 (List.mem_of_getElem? (i := 64) rfl)
set_option maxRecDepth 20000 in
theorem cw_271 : cwP 271 := in_t8 (List.mem_of_getElem? (i := 80) rfl)
set_option maxRecDepth 20000 in
theorem cw_272 : cwP 272 := in_t8 (List.mem_of_getElem? (i := 83) rfl)
set_option maxRecDepth 20000 in
theorem cw_273 : cwP 273 := in_t8 (List.mem_of_getElem? (i := 76) rfl)
set_option maxRecDepth 20000 in
theorem cw_274 : cwP 274 := in_t8 (List.mem_of_getElem? (i := 87) rfl)
set_option maxRecDepth 20000 in
theorem cw_275 : cwP 275 := in_t8 (List.mem_of_getElem? (i := 72) rfl)
set_option maxRecDepth 20000 in
theorem cw_276 : cwP 276 := in_t8 (List.mem_of_getElem? (i := 95) rfl)
set_option maxRecDepth 20000 in
theorem cw_277 : cwP 277 := in_t8 (List.mem_of_getElem? (i := 99) rfl)
set_option maxRecDepth 20000 in
theorem cw_278 : cwP 278 := in_t8 (List.mem_of_getElem? (i := 91) rfl)
set_option maxRecDepth 20000 in
theorem cw_279 : cwP 279 := in_t8 (List.mem_of_getElem? (i := 103) rfl)
set_option maxRecDepth 20000 in
theorem cw_280 : cwP 280 := in_t8 (List.mem_of_getElem? (i := 107) rfl)
set_option maxRecDepth 20000 in
theorem cw_281 : cwP 281 := in_t8 (List.mem_of_getElem? (i := 115) rfl)
set_option maxRecDepth 20000 in
theorem cw_282 : cwP 282 := in_t8 (List.mem_of_getElem? (i := 111) rfl)
set_option maxRecDepth 20000 in
theorem cw_283 : cwP 283 := in_t4 (List.mem_of_getElem? (i := 124) rfl)
set_option maxRecDepth 20000 in
theorem cw_284 : cwP 284 := in_t4 (List.mem_of_getElem? (i := 128) rfl)
set_option maxRecDepth 20000 in
theorem cw_285 : cwP 285 := in_t5 (List.mem_of_getElem? (i := 147) rfl)
set_option maxRecDepth 20000 in
theorem cw_286 : cwP 286 := in_t3 (List.mem_of_getElem? (i := 102) rfl)
set_option maxRecDepth 20000 in
theorem cw_287 : cwP 287 := in_t4 (List.mem_of_getElem? (i := 53) rfl)
set_option maxRecDepth 20000 in
theorem cw_288 : cwP 288 := in_t2 (List.mem_of_getElem? (i := 205) rfl)
set_option maxRecDepth 20000 in
theorem cw_289 : cwP 289 := in_t4 (List.mem_of_getElem? (i := 50) rfl)
set_option maxRecDepth 20000 in
theorem cw_290 : cwP 290 := in_t3 (List.mem_of_getElem? (i := 89) rfl)
set_option maxRecDepth 20000 in
theorem cw_291 : cwP 291 := in_t3 (List.mem_of_getElem? (i := 165) rfl)
set_option maxRecDepth 20000 in
theorem cw_292 : cwP 292 := in_t3 (List.mem_of_getElem? (i := 75) rfl)
set_option maxRecDepth 20000 in
theorem cw_293 : cwP 293 := in_t3 (List.mem_of_getElem? (i := 79) rfl)
set_option maxRecDepth 20000 in
theorem cw_294 : cwP 294 := in_t3 (List.mem_of_getElem? (i := 93) rfl)
set_option maxRecDepth 20000 in
theorem cw_295 : cwP 295 := in_t3 (List.mem_of_getElem? (i := 83) rfl)
set_option maxRecDepth 20000 in
theorem cw_296 : cwP 296 := in_t3 (List.mem_of_getElem? (i := 171) rfl)
set_option maxRecDepth 20000 in
theorem cw_297 : cwP 297 := in_t3 (List.mem_of_getElem? (i := 168) rfl)
set_option maxRecDepth 20000 in
theorem cw_298 : cwP 298 := in_t3 (List.mem_of_getElem? (i := 99) rfl)
set_option maxRecDepth 20000 in
theorem cw_299 : cwP 299 := in_t3 (List.mem_of_getElem? (i := 96) rfl)
set_option maxRecDepth 20000 in
theorem cw_300 : cwP 300 := in_t3 (List.mem_of_getElem? (i := 106) rfl)
set_option maxRecDepth 20000 in
theorem cw_301 : cwP 301 := in_t3 (List.mem_of_getElem? (i := 174) rfl)
theorem cwc_0 : ∀ y ∈ [0, 1, 2, 3, 4, 5, 6, 7, 8, 9, 10, 11, 12, 13, 14, 15, 16, 17, 18, 19, 20, 21, 22, 23, 24], cwP y := List.forall_mem_cons.mpr ⟨cw_0, List.forall_mem_cons.mpr ⟨cw_1, List.forall_mem_cons.mpr ⟨cw_2, List.forall_mem_cons.mpr ⟨cw_3, List.forall_mem_cons.mpr ⟨cw_4, List.forall_mem_cons.mpr ⟨cw_5, List.forall_mem_cons.mpr ⟨cw_6, List.forall_mem_cons.mpr ⟨cw_7, List.forall_mem_cons.mpr ⟨cw_8, List.forall_mem_cons.mpr ⟨cw_9, List.forall_mem_cons.mpr ⟨cw_10, List.forall_mem_cons.mpr ⟨cw_11, List.forall_mem_cons.mpr ⟨cw_12, List.forall_mem_cons.mpr ⟨cw_13, List.forall_mem_cons.mpr ⟨cw_14, List.forall_mem_cons.mpr ⟨cw_15, List.forall_mem_cons.mpr ⟨cw_16, List.forall_mem_cons.mpr ⟨cw_17, List.forall_mem_cons.mpr ⟨cw_18, List.forall_mem_cons.mpr ⟨cw_19, List.forall_mem_cons.mpr ⟨cw_20, List.forall_mem_cons.mpr ⟨cw_21, List.forall_mem_cons.mpr ⟨cw_22, List.forall_mem_cons.mpr ⟨cw_23, List.forall_mem_cons.mpr ⟨cw_24, fun _ h => absurd h List.not_mem_nil⟩⟩⟩⟩⟩⟩⟩⟩⟩⟩⟩⟩⟩⟩⟩⟩⟩⟩⟩⟩⟩⟩⟩⟩⟩
theorem cwc_25 : ∀ y ∈ [25, 26, 27, 28, 29, 30, 31, 32, 33, 34, 35, 36, 37, 38, 39, 40, 41, 42, 43, 44, 45, 46, 47, 48, 49], cwP y := List.forall_mem_cons.mpr ⟨cw_25, List.forall_mem_cons.mpr ⟨cw_26, List.forall_mem_cons.mpr ⟨cw_27, List.forall_mem_cons.mpr ⟨cw_28, List.forall_mem_cons.mpr ⟨cw_29, List.forall_mem_cons.mpr ⟨cw_30, List.forall_mem_cons.mpr ⟨cw_31, List.forall_mem_cons.mpr ⟨cw_32, List.forall_mem_cons.mpr ⟨cw_33, List.forall_mem_cons.mpr ⟨cw_34, List.forall_mem_cons.mpr ⟨cw_35, List.forall_mem_cons.mpr ⟨cw_36, List.forall_mem_cons.mpr ⟨cw_37, List.forall_mem_cons.mpr ⟨cw_38, List.forall_mem_cons.mpr ⟨cw_39, List.forall_mem_cons.mpr ⟨cw_40, List.forall_mem_cons.mpr ⟨cw_41, List.forall_mem_cons.mpr ⟨cw_42, List.forall_mem_cons.mpr ⟨cw_43, List.forall_mem_cons.mpr ⟨cw_44, List.forall_mem_cons.mpr ⟨cw_45, List.forall_mem_cons.mpr ⟨cw_46, List.forall_mem_cons.mpr ⟨cw_47, List.forall_mem_cons.mpr ⟨cw_48, List.forall_mem_cons.mpr ⟨cw_49, fun _ h => absurd h List.not_mem_nil⟩⟩⟩⟩⟩⟩⟩⟩⟩⟩⟩⟩⟩⟩⟩⟩⟩⟩⟩⟩⟩⟩⟩⟩⟩
theorem cwc_50 : ∀ y ∈ [50, 51, 52, 53, 54, 55, 56, 57, 58, 59, 60, 61, 62, 63, 64, 65, 66, 67, 68, 69, 70, 71, 72, 73, 74], cwP y := List.forall_mem_cons.mpr ⟨cw_50, List.forall_mem_cons.mpr ⟨cw_51, List.forall_mem_cons.mpr ⟨cw_52, List.forall_mem_cons.mpr ⟨cw_53, List.forall_mem_cons.mpr ⟨cw_54, List.forall_mem_cons.mpr ⟨cw_55, List.forall_mem_cons.mpr ⟨cw_56, List.forall_mem_cons.mpr ⟨cw_57, List.forall_mem_cons.mpr ⟨cw_58, List.forall_mem_cons.mpr ⟨cw_59, List.forall_mem_cons.mpr ⟨cw_60, List.forall_mem_cons.mpr ⟨cw_61, List.forall_mem_cons.mpr ⟨cw_62, List.forall_mem_cons.mpr ⟨cw_63, List.forall_mem_cons.mpr ⟨cw_64, List.forall_mem_cons.mpr ⟨cw_65, List.forall_mem_cons.mpr ⟨cw_66, List.forall_mem_cons.mpr ⟨cw_67, List.forall_mem_cons.mpr ⟨cw_68, List.forall_mem_cons.mpr ⟨cw_69, List.forall_mem_cons.mpr ⟨cw_70, List.forall_mem_cons.mpr ⟨cw_71, List.forall_mem_cons.mpr ⟨cw_72, List.forall_mem_cons.mpr ⟨cw_73, List.forall_mem_cons.mpr ⟨cw_74, fun _ h => absurd h List.not_mem_nil⟩⟩⟩⟩⟩⟩⟩⟩⟩⟩⟩⟩⟩⟩⟩⟩⟩⟩⟩⟩⟩⟩⟩⟩⟩
theorem cwc_75 : ∀ y ∈ [75, 76, 77, 78, 79, 80, 81, 82, 83, 84, 85, 86, 87, 88, 89, 90, 91, 92, 93, 94, 95, 96, 97, 98, 99], cwP y := List.forall_mem_cons.mpr ⟨cw_75, List.forall_mem_cons.mpr ⟨cw_76, List.forall_mem_cons.mpr ⟨cw_77, List.forall_mem_cons.mpr ⟨cw_78, List.forall_mem_cons.mpr ⟨cw_79, List.forall_mem_cons.mpr ⟨cw_80, List.forall_mem_cons.mpr ⟨cw_81, List.forall_mem_cons.mpr ⟨cw_82, List.forall_mem_cons.mpr ⟨cw_83, List.forall_mem_cons.mpr ⟨cw_84, List.forall_mem_cons.mpr ⟨cw_85, List.forall_mem_cons.mpr ⟨cw_86, List.forall_mem_cons.mpr ⟨cw_87, List.forall_mem_cons.mpr ⟨cw_88, List.forall_mem_cons.mpr ⟨cw_89, List.forall_mem_cons.mpr ⟨cw_90, List.forall_mem_cons.mpr ⟨cw_91, List.forall_mem_cons.mpr ⟨cw_92, List.forall_mem_cons.mpr ⟨cw_93, List.forall_mem_cons.mpr ⟨cw_94, List.forall_mem_cons.mpr ⟨cw_95, List.forall_mem_cons.mpr ⟨cw_96, List.forall_mem_cons.mpr ⟨cw_97, List.forall_mem_cons.mpr ⟨cw_98, List.forall_mem_cons.mpr ⟨cw_99, fun _ h => absurd h List.not_mem_nil⟩⟩⟩⟩⟩⟩⟩⟩⟩⟩⟩⟩⟩⟩⟩⟩⟩⟩⟩⟩⟩⟩⟩⟩⟩
theorem cwc_100 : ∀ y ∈ [100, 101, 102, 103, 104, 105, 106, 107, 108, 109, 110, 111, 112, 113, 114, 115, 116, 117, 118, 119, 120, 121, 122, 123, 124], cwP y := List.forall_mem_cons.mpr ⟨cw_100, List.forall_mem_cons.mpr ⟨cw_101, List.forall_mem_cons.mpr ⟨cw_102, List.forall_mem_cons.mpr ⟨cw_103, List.forall_mem_cons.mpr ⟨cw_104, List.forall_mem_cons.mpr ⟨cw_105, List.forall_mem_cons.mpr ⟨cw_106, List.forall_mem_cons.mpr ⟨cw_107, List.forall_mem_cons.mpr ⟨cw_108, List.forall_mem_cons.mpr ⟨cw_109, List.forall_mem_cons.mpr ⟨cw_110, List.forall_mem_cons.mpr ⟨cw_111, List.forall_mem_cons.mpr ⟨cw_112, List.forall_mem_cons.mpr ⟨cw_113, List.forall_mem_cons.mpr ⟨cw_114, List.forall_mem_cons.mpr ⟨cw_115, List.forall_mem_cons.mpr ⟨cw_116, List.forall_mem_cons.mpr ⟨cw_117, List.forall_mem_cons.mpr ⟨cw_118, List.forall_mem_cons.mpr ⟨cw_119, List.forall_mem_cons.mpr ⟨cw_120, List.forall_mem_cons.mpr ⟨cw_121, List.forall_mem_cons.mpr ⟨cw_122, List.forall_mem_cons.mpr ⟨cw_123, List.forall_mem_cons.mpr ⟨cw_124, fun _ h => absurd h List.not_mem_nil⟩⟩⟩⟩⟩⟩⟩⟩⟩⟩⟩⟩⟩⟩⟩⟩⟩⟩⟩⟩⟩⟩⟩⟩⟩
theorem cwc_125 : ∀ y ∈ [125, 126, 127, 128, 129, 130, 131, 132, 133, 134, 135, 136, 137, 138, 139, 140, 141, 142, 143, 144, 145, 146, 147, 148, 149], cwP y := List.forall_mem_cons.mpr ⟨cw_125, List.forall_mem_cons.mpr ⟨cw_126, List.forall_mem_cons.mpr ⟨cw_127, List.forall_mem_cons.mpr ⟨cw_128, List.forall_mem_cons.mpr ⟨cw_129, List.forall_mem_cons.mpr ⟨cw_130, List.forall_mem_cons.mpr ⟨cw_131, List.forall_mem_cons.mpr ⟨cw_132, List.forall_mem_cons.mpr ⟨cw_133, List.forall_mem_cons.mpr ⟨cw_134, List.forall_mem_cons.mpr ⟨cw_135, List.forall_mem_cons.mpr ⟨cw_136, List.forall_mem_cons.mpr ⟨cw_137, List.forall_mem_cons.mpr ⟨cw_138, List.forall_mem_cons.mpr ⟨cw_139, List.forall_mem_cons.mpr ⟨cw_140, List.forall_mem_cons.mpr ⟨cw_141, List.forall_mem_cons.mpr ⟨cw_142, List.forall_mem_cons.mpr ⟨cw_143, List.forall_mem_cons.mpr ⟨cw_144, List.forall_mem_cons.mpr ⟨cw_145, List.forall_mem_cons.mpr ⟨cw_146, List.forall_mem_cons.mpr ⟨cw_147, List.forall_mem_cons.mpr ⟨cw_148, List.forall_mem_cons.mpr ⟨cw_149, fun _ h => absurd h List.not_mem_nil⟩⟩⟩⟩⟩⟩⟩⟩⟩⟩⟩⟩⟩⟩⟩⟩⟩⟩⟩⟩⟩⟩⟩⟩⟩
theorem cwc_150 : ∀ y ∈ [150, 151, 152, 153, 154, 155, 156, 157, 158, 159, 160, 161, 162, 163, 164, 165, 166, 167, 168, 169, 170, 171, 172, 173, 174], cwP y := List.forall_mem_cons.mpr ⟨cw_150, List.forall_mem_cons.mpr ⟨cw_151, List.forall_mem_cons.mpr ⟨cw_152, List.forall_mem_cons.mpr ⟨cw_153, List.forall_mem_cons.mpr ⟨cw_154, List.forall_mem_cons.mpr ⟨cw_155, List.forall_mem_cons.mpr ⟨cw_156, List.forall_mem_cons.mpr ⟨cw_157, List.forall_mem_cons.mpr ⟨cw_158, List.forall_mem_cons.mpr ⟨cw_159, List.forall_mem_cons.mpr ⟨cw_160, List.forall_mem_cons.mpr ⟨cw_161, List.forall_mem_cons.mpr ⟨cw_162, List.forall_mem_cons.mpr ⟨cw_163, List.forall_mem_cons.mpr ⟨cw_164, List.forall_mem_cons.mpr ⟨cw_165, List.forall_mem_cons.mpr ⟨cw_166, List.forall_mem_cons.mpr ⟨cw_167, List.forall_mem_cons.mpr ⟨cw_168, List.forall_mem_cons.mpr ⟨cw_169, List.forall_mem_cons.mpr ⟨cw_170, List.forall_mem_cons.mpr ⟨cw_171, List.forall_mem_cons.mpr ⟨cw_172, List.forall_mem_cons.mpr ⟨cw_173, List.forall_mem_cons.mpr ⟨cw_174, fun _ h => absurd h List.not_mem_nil⟩⟩⟩⟩⟩⟩⟩⟩⟩⟩⟩⟩⟩⟩⟩⟩⟩⟩⟩⟩⟩⟩⟩⟩⟩
theorem cwc_175 : ∀ y ∈ [175, 176, 177, 178, 179, 180, 181, 182, 183, 184, 185, 186, 187, 188, 189, 190, 191, 192, 193, 194, 195, 196, 197, 198, 199], cwP y := List.forall_mem_cons.mpr ⟨cw_175, List.forall_mem_cons.mpr ⟨cw_176, List.forall_mem_cons.mpr ⟨cw_177, List.forall_mem_cons.mpr ⟨cw_178, List.forall_mem_cons.mpr ⟨cw_179, List.forall_mem_cons.mpr ⟨cw_180, List.forall_mem_cons.mpr ⟨cw_181, List.forall_mem_cons.mpr ⟨cw_182, List.forall_mem_cons.mpr ⟨cw_183, List.forall_mem_cons.mpr ⟨cw_184, List.forall_mem_cons.mpr ⟨cw_185, List.forall_mem_cons.mpr ⟨cw_186, List.forall_mem_cons.mpr ⟨cw_187, List.forall_mem_cons.mpr ⟨cw_188, List.forall_mem_cons.mpr ⟨cw_189, List.forall_mem_cons.mpr ⟨cw_190, List.forall_mem_cons.mpr ⟨cw_191, List.forall_mem_cons.mpr ⟨cw_192, List.forall_mem_cons.mpr ⟨cw_193, List.forall_mem_cons.mpr ⟨cw_194, List.forall_mem_cons.mpr ⟨cw_195, List.forall_mem_cons.mpr ⟨cw_196, List.forall_mem_cons.mpr ⟨cw_197, List.forall_mem_cons.mpr ⟨cw_198, List.forall_mem_cons.mpr ⟨cw_199, fun _ h => absurd h List.not_mem_nil⟩⟩⟩⟩⟩⟩⟩⟩⟩⟩⟩⟩⟩⟩⟩⟩⟩⟩⟩⟩⟩⟩⟩⟩⟩
theorem cwc_200 : ∀ y ∈ [200, 201, 202, 203, 204, 205, 206, 207, 208, 209, 210, 211, 212, 213, 214, 215, 216, 217, 218, 219, 220, 221, 222, 223, 224], cwP y := List.forall_mem_cons.mpr ⟨cw_200, List.forall_mem_cons.mpr ⟨cw_201, List.forall_mem_cons.mpr ⟨cw_202, List.forall_mem_cons.mpr ⟨cw_203, List.forall_mem_cons.mpr ⟨cw_204, List.forall_mem_cons.mpr ⟨cw_205, List.forall_mem_cons.mpr ⟨cw_206, List.forall_mem_cons.mpr ⟨cw_207, List.forall_mem_cons.mpr ⟨cw_208, List.forall_mem_cons.mpr ⟨cw_209, List.forall_mem_cons.mpr ⟨cw_210, List.forall_mem_cons.mpr ⟨cw_211, List.forall_mem_cons.mpr ⟨cw_212, List.forall_mem_cons.mpr ⟨cw_213, List.forall_mem_cons.mpr ⟨cw_214, List.forall_mem_cons.mpr ⟨cw_215, List.forall_mem_cons.mpr ⟨cw_216, List.forall_mem_cons.mpr ⟨cw_217, List.forall_mem_cons.mpr ⟨cw_218, List.forall_mem_cons.mpr ⟨cw_219, List.forall_mem_cons.mpr ⟨cw_220, List.forall_mem_cons.mpr ⟨cw_221, List.forall_mem_cons.mpr ⟨cw_222, List.forall_mem_cons.mpr ⟨cw_223, List.forall_mem_cons.mpr ⟨cw_224, fun _ h => absurd h List.not_mem_nil⟩⟩⟩⟩⟩⟩⟩⟩⟩⟩⟩⟩⟩⟩⟩⟩⟩⟩⟩⟩⟩⟩⟩⟩⟩
theorem cwc_225 : ∀ y ∈ [225, 226, 227, 228, 229, 230, 231, 232, 233, 234, 235, 236, 237, 238, 239, 240, 241, 242, 243, 244, 245, 246, 247, 248, 249], cwP y := List.forall_mem_cons.mpr ⟨cw_225, List.forall_mem_cons.mpr ⟨cw_226, List.forall_mem_cons.mpr ⟨cw_227, List.forall_mem_cons.mpr ⟨cw_228, List.forall_mem_cons.mpr ⟨cw_229, List.forall_mem_cons.mpr ⟨cw_230, List.forall_mem_cons.mpr ⟨cw_231, List.forall_mem_cons.mpr ⟨cw_232, List.forall_mem_cons.mpr ⟨cw_233, List.forall_mem_cons.mpr ⟨cw_234, List.forall_mem_cons.mpr ⟨cw_235, List.forall_mem_cons.mpr ⟨cw_236, List.forall_mem_cons.mpr ⟨cw_237, List.forall_mem_cons.mpr ⟨cw_238, List.forall_mem_cons.mpr ⟨cw_239, List.forall_mem_cons.mpr ⟨cw_240, List.forall_mem_cons.mpr ⟨cw_241, List.forall_mem_cons.mpr ⟨cw_242, List.forall_mem_cons.mpr ⟨cw_243, List.forall_mem_cons.mpr ⟨cw_244, List.forall_mem_cons.mpr ⟨cw_245, List.forall_mem_cons.mpr ⟨cw_246, List.forall_mem_cons.mpr ⟨cw_247, List.forall_mem_cons.mpr ⟨cw_248, List.forall_mem_cons.mpr ⟨cw_249, fun _ h => absurd h List.not_mem_nil⟩⟩⟩⟩⟩⟩⟩⟩⟩⟩⟩⟩⟩⟩⟩⟩⟩⟩⟩⟩⟩⟩⟩⟩⟩
theorem cwc_250 : ∀ y ∈ [250, 251, 252, 253, 254, 255, 256, 257, 258, 259, 260, 261, 262, 263, 264, 265, 266, 267, 268, 269, 270, 271, 272, 273, 274], cwP y := List.forall_mem_cons.mpr ⟨cw_250, List.forall_mem_cons.mpr ⟨cw_251, List.forall_mem_cons.mpr ⟨cw_252, List.forall_mem_cons.mpr ⟨cw_253, List.forall_mem_cons.mpr ⟨cw_254, List.forall_mem_cons.mpr ⟨cw_255, List.forall_mem_cons.mpr ⟨cw_256, List.forall_mem_cons.mpr ⟨cw_257, List.forall_mem_cons.mpr ⟨cw_258, List.forall_mem_cons.mpr ⟨cw_259, List.forall_mem_cons.mpr ⟨cw_260, List.forall_mem_cons.mpr ⟨cw_261, List.forall_mem_cons.mpr ⟨cw_262, List.forall_mem_cons.mpr ⟨cw_263, List.forall_mem_cons.mpr ⟨cw_264, List.forall_mem_cons.mpr ⟨cw_265, List.forall_mem_cons.mpr ⟨cw_266, List.forall_mem_cons.mpr ⟨cw_267, List.forall_mem_cons.mpr ⟨cw_268, List.forall_mem_cons.mpr ⟨cw_269, List.forall_mem_cons.mpr ⟨cw_270, List.forall_mem_cons.mpr ⟨cw_271, List.forall_mem_cons.mpr ⟨cw_272, List.forall_mem_cons.mpr ⟨cw_273, List.forall_mem_cons.mpr ⟨cw_274, fun _ h => absurd h List.not_mem_nil⟩⟩⟩⟩⟩⟩⟩⟩⟩⟩⟩⟩⟩⟩⟩⟩⟩⟩⟩⟩⟩⟩⟩⟩⟩
theorem cwc_275 : ∀ y ∈ [275, 276, 277, 278, 279, 280, 281, 282, 283, 284, 285, 286, 287, 288, 289, 290, 291, 292, 293, 294, 295, 296, 297, 298, 299], cwP y := List.forall_mem_cons.mpr ⟨cw_275, List.forall_mem_cons.mpr ⟨cw_276, List.forall_mem_cons.mpr ⟨cw_277, List.forall_mem_cons.mpr ⟨cw_278, List.forall_mem_cons.mpr ⟨cw_279, List.forall_mem_cons.mpr ⟨cw_280, List.forall_mem_cons.mpr ⟨cw_281, List.forall_mem_cons.mpr ⟨cw_282, List.forall_mem_cons.mpr ⟨cw_283, List.forall_mem_cons.mpr ⟨cw_284, List.forall_mem_cons.mpr ⟨cw_285, List.forall_mem_cons.mpr ⟨cw_286, List.forall_mem_cons.mpr ⟨cw_287, List.forall_mem_cons.mpr ⟨cw_288, List.forall_mem_cons.mpr ⟨cw_289, List.forall_mem_cons.mpr ⟨cw_290, List.forall_mem_cons.mpr ⟨cw_291, List.forall_mem_cons.mpr ⟨cw_292, List.forall_mem_cons.mpr ⟨cw_293, List.forall_mem_cons.mpr ⟨cw_294, List.forall_mem_cons.mpr ⟨cw_295, List.forall_mem_cons.mpr ⟨cw_296, List.forall_mem_cons.mpr ⟨cw_297, List.forall_mem_cons.mpr ⟨cw_298, List.forall_mem_cons.mpr ⟨cw_299, fun _ h => absurd h List.not_mem_nil⟩⟩⟩⟩⟩⟩⟩⟩⟩⟩⟩⟩⟩⟩⟩⟩⟩⟩⟩⟩⟩⟩⟩⟩⟩
theorem cwc_300 : ∀ y ∈ [300, 301], cwP y := List.forall_mem_cons.mpr ⟨cw_300, List.forall_mem_cons.mpr ⟨cw_301, fun _ h => absurd h List.not_mem_nil⟩⟩
theorem cwAll : ∀ y, y < 302 → cwP y := by
  intro y h
  by_cases h0 : y < 25
  · exact cwc_0 y (by
      have := List.mem_range'_1 (m := y) (s := 0) (n := 25) |>.mpr ⟨by omega, by omega⟩
      exact this)
  by_cases h25 : y < 50
  · exact cwc_25 y (by
      have := List.mem_range'_1 (m := y) (s := 25) (n := 25) |>.mpr ⟨by omega, by omega⟩
      exact this)
  by_cases h50 : y < 75
  · exact cwc_50 y (by
      have := List.mem_range'_1 (m := y) (s := 50) (n := 25) |>.mpr ⟨by omega, by omega⟩
      exact this)
  by_cases h75 : y < 100
  · exact cwc_75 y (by
      have := List.mem_range'_1 (m := y) (s := 75) (n := 25) |>.mpr ⟨by omega, by omega⟩
      exact this)
  by_cases h100 : y < 125
  · exact cwc_100 y (by
      have := List.mem_range'_1 (m := y) (s := 100) (n := 25) |>.mpr ⟨by omega, by omega⟩
      exact this)
  by_cases h125 : y < 150
  · exact cwc_125 y (by
      have := List.mem_range'_1 (m := y) (s := 125) (n := 25) |>.mpr ⟨by omega, by omega⟩
      exact this)
  by_cases h150 : y < 175
  · exact cwc_150 y (by
      have := List.mem_range'_1 (m := y) (s := 150) (n := 25) |>.mpr ⟨by omega, by omega⟩
      exact this)
  by_cases h175 : y < 200
  · exact cwc_175 y (by
      have := List.mem_range'_1 (m := y) (s := 175) (n := 25) |>.mpr ⟨by omega, by omega⟩
      exact this)
  by_cases h200 : y < 225
  · exact cwc_200 y (by
      have := List.mem_range'_1 (m := y) (s := 200) (n := 25) |>.mpr ⟨by omega, by omega⟩
      exact this)
  by_cases h225 : y < 250
  · exact cwc_225 y (by
      have := List.mem_range'_1 (m := y) (s := 225) (n := 25) |>.mpr ⟨by omega, by omega⟩
      exact this)
  by_cases h250 : y < 275
  · exact cwc_250 y (by
      have := List.mem_range'_1 (m := y) (s := 250) (n := 25) |>.mpr ⟨by omega, by omega⟩
      exact this)
  by_cases h275 : y < 300
  · exact cwc_275 y (by
      have := List.mem_range'_1 (m := y) (s := 275) (n := 25) |>.mpr ⟨by omega, by omega⟩
      exact this)
  by_cases h300 : y < 302
  · exact cwc_300 y (by
      have := List.mem_range'_1 (m := y) (s := 300) (n := 2) |>.mpr ⟨by omega, by omega⟩
      exact this)
  omega
def mwT : List (Nat × Nat × Nat × Nat) := [(170, 116, 169, 0), (1075, 116, 1073, 1074), (1289, 116, 1287, 1288), (1083, 116, 1081, 1082), (1092, 116, 1090, 1091), (1097, 116, 1095, 1096), (228, 119, 227, 0), (524, 119, 522, 523), (1272, 119, 1270, 1271), (536, 119, 534, 535), (543, 119, 541, 542), (579, 119, 577, 578), (564, 119, 562, 563), (551, 119, 549, 550), (571, 119, 569, 570), (949, 119, 947, 948), (1170, 119, 1168, 1169), (595, 119, 593, 594), (599, 119, 598, 0), (619, 119, 617, 618), (607, 119, 605, 606), (611, 119, 610, 1), (615, 119, 614, 2), (340, 122, 339, 0), (850, 122, 849, 0), (643, 122, 641, 642), (828, 122, 826, 827), (858, 122, 856, 857), (862, 122, 861, 21), (866, 122, 865, 22), (847, 122, 846, 0), (871, 122, 870, 23), (874, 122, 873, 0), (877, 122, 876, 0), (188, 117, 187, 0), (1110, 117, 1109, 0), (1107, 117, 1105, 1106), (1293, 117, 1291, 1292), (1118, 117, 1116, 1117), (1126, 117, 1124, 1125), (1134, 117, 1133, 0), (1131, 117, 1130, 35), (1138, 117, 1136, 1137), (1142, 117, 1141, 36), (418, 123, 417, 0), (909, 123, 907, 908), (916, 123, 915, 25), (937, 123, 936, 26), (923, 123, 921, 922), (933, 123, 931, 932), (941, 123, 940, 27), (971, 123, 969, 970), (977, 123, 976, 28), (1007, 123, 1005, 1006), (1016, 123, 1015, 31), (1011, 123, 1010, 30), (1020, 123, 1019, 32), (1038, 123, 1036, 1037), (1059, 123, 1057, 1058), (1065, 123, 1064, 34), (1152, 123, 1150, 1151), (1157, 123, 1156, 37), (486, 124, 485, 0), (990, 124, 988, 989), (995, 124, 993, 994), (999, 124, 997, 998), (334, 121, 333, 0), (627, 121, 625, 626), (854, 121, 852, 853), (639, 121, 637, 638), (799, 121, 798, 10), (804, 121, 803, 11), (795, 121, 794, 9), (808, 121, 807, 12), (812, 121, 811, 13), (816, 121, 815, 14), (820, 121, 819, 15), (824, 121, 823, 16), (832, 121, 831, 17), (836, 121, 835, 18), (840, 121, 839, 19), (844, 121, 843, 20), (647, 121, 646, 3), (651, 121, 650, 4), (658, 121, 657, 5), (789, 121, 788, 8), (662, 121, 661, 6), (752, 121, 751, 7), (654, 121, 653, 0), (785, 121, 784, 0), (211, 118, 210, 0), (1184, 118, 1182, 1183), (1297, 118, 1295, 1296), (1196, 118, 1195, 38), (1192, 118, 1190, 1191), (1208, 118, 1206, 1207), (1225, 118, 1223, 1224), (1229, 118, 1227, 1228), (1204, 118, 1202, 1203), (1212, 118, 1211, 39), (1216, 118, 1215, 40), (1233, 118, 1231, 1232), (1237, 118, 1235, 1236), (1240, 118, 1239, 0), (274, 120, 273, 0), (1279, 120, 1277, 1278), (156, 115, 155, 0), (1028, 115, 1026, 1027), (1284, 115, 1282, 1283), (1310, 115, 1308, 1309), (1042, 115, 1040, 1041), (1046, 115, 1045, 33), (146, 114, 145, 0), (532, 114, 530, 531), (905, 114, 903, 904), (1268, 114, 1266, 1267), (138, 113, 137, 0), (520, 113, 518, 519), (528, 113, 526, 527), (547, 113, 545, 546), (575, 113, 573, 574), (591, 113, 589, 590), (603, 113, 601, 602), (623, 113, 621, 622), (631, 113, 629, 630), (635, 113, 633, 634), (893, 113, 891, 892), (897, 113, 895, 896), (929, 113, 927, 928), (967, 113, 965, 966), (981, 113, 979, 980), (1003, 113, 1001, 1002), (1024, 113, 1022, 1023), (1032, 113, 1030, 1031), (1055, 113, 1053, 1054), (1070, 113, 1068, 1069), (1079, 113, 1077, 1078), (1088, 113, 1086, 1087), (1103, 113, 1101, 1102), (1114, 113, 1112, 1113), (1122, 113, 1120, 1121), (1148, 113, 1146, 1147), (1162, 113, 1160, 1161), (1180, 113, 1178, 1179), (1188, 113, 1186, 1187), (1200, 113, 1198, 1199), (1247, 113, 1245, 1246), (1264, 113, 1262, 1263), (1302, 113, 1300, 1301), (1306, 113, 1304, 1305), (1315, 113, 1314, 43), (1319, 113, 1318, 44), (901, 113, 900, 24), (986, 113, 985, 29), (1166, 113, 1165, 0), (1175, 113, 1174, 0), (1251, 113, 1250, 41), (1254, 113, 1253, 0), (1260, 113, 1259, 42), (888, 113, 887, 0), (919, 113, 918, 0), (582, 113, 581, 0), (912, 113, 911, 0), (554, 113, 553, 0), (560, 113, 559, 0), (567, 113, 566, 0), (952, 113, 951, 0), (585, 113, 584, 0), (944, 113, 943, 0), (539, 113, 538, 0), (1324, 125, 1323, 0), (1328, 125, 1327, 0), (1468, 125, 1467, 0), (1476, 125, 1475, 45), (1520, 125, 1519, 54), (1465, 125, 1463, 1464), (1484, 125, 1483, 47), (1488, 125, 1487, 48), (1480, 125, 1479, 46), (1472, 125, 1470, 1471), (1500, 125, 1499, 50), (1508, 125, 1507, 52), (1504, 125, 1503, 51), (1496, 125, 1495, 49), (1492, 125, 1490, 1491), (1516, 125, 1515, 53), (1512, 125, 1510, 1511), (1532, 125, 1531, 56), (1528, 125, 1527, 55), (1524, 125, 1522, 1523), (1540, 125, 1539, 57), (1536, 125, 1534, 1535), (1548, 125, 1547, 58), (1544, 125, 1542, 1543), (1552, 125, 1550, 1551), (1568, 125, 1567, 61), (1575, 125, 1574, 0), (1571, 125, 1570, 0), (1564, 125, 1563, 60), (1589, 125, 1588, 0), (1596, 125, 1595, 0), (1586, 125, 1585, 0), (1593, 125, 1592, 64), (1630, 125, 1629, 72), (1634, 125, 1633, 73), (1638, 125, 1637, 74), (1626, 125, 1625, 71), (1646, 125, 1645, 76), (1642, 125, 1641, 75), (1618, 125, 1617, 69), (1614, 125, 1613, 68), (1622, 125, 1621, 70), (1610, 125, 1609, 67), (1654, 125, 1653, 77), (1606, 125, 1605, 66), (1602, 125, 1601, 65), (1583, 125, 1582, 63), (1579, 125, 1578, 62), (1560, 125, 1559, 59), (1556, 125, 1554, 1555), (1659, 125, 1657, 1658), (1667, 125, 1666, 78), (1671, 125, 1670, 79), (1714, 125, 1713, 86), (1675, 125, 1674, 80), (1683, 125, 1682, 82), (1687, 125, 1686, 83), (1697, 125, 1696, 0), (1694, 125, 1693, 0), (1702, 125, 1701, 0), (1691, 125, 1690, 84), (1679, 125, 1678, 81), (1718, 125, 1717, 87), (1663, 125, 1661, 1662), (1710, 125, 1709, 85), (1706, 125, 1704, 1705), (1726, 125, 1725, 88), (1722, 125, 1720, 1721), (1734, 125, 1733, 0), (1739, 125, 1738, 89), (1730, 125, 1728, 1729), (1759, 125, 1758, 93), (1755, 125, 1754, 92), (1763, 125, 1762, 94), (1751, 125, 1750, 91), (1747, 125, 1746, 90), (1743, 125, 1741, 1742), (1767, 125, 1765, 1766), (1784, 125, 1783, 97), (1780, 125, 1779, 96), (1776, 125, 1775, 95), (1771, 125, 1769, 1770), (1792, 125, 1791, 98), (1788, 125, 1786, 1787), (1796, 125, 1794, 1795), (1804, 125, 1803, 99), (1800, 125, 1798, 1799), (1812, 125, 1811, 100), (1808, 125, 1806, 1807), (1816, 125, 1814, 1815), (1824, 125, 1823, 101), (1820, 125, 1818, 1819), (1840, 125, 1839, 104), (1832, 125, 1831, 102), (1836, 125, 1835, 103), (1828, 125, 1826, 1827), (1844, 125, 1842, 1843), (1848, 125, 1846, 1847), (1852, 125, 1850, 1851), (1860, 125, 1859, 105), (1856, 125, 1854, 1855), (1872, 125, 1871, 107), (1875, 125, 1874, 0), (1868, 125, 1867, 106), (1879, 125, 1878, 108), (1864, 125, 1862, 1863), (1887, 125, 1886, 109), (1891, 125, 1890, 110), (1883, 125, 1881, 1882), (1895, 125, 1893, 1894), (1899, 125, 1897, 1898), (1907, 125, 1906, 111), (1903, 125, 1901, 1902), (956, 132, 955, 0), (960, 132, 959, 0), (1219, 126, 1218, 0), (694, 126, 693, 0), (885, 126, 884, 0), (557, 126, 556, 0), (882, 126, 881, 0), (681, 127, 679, 680), (757, 127, 755, 756), (667, 127, 665, 666), (671, 127, 669, 670), (685, 127, 683, 684), (675, 127, 673, 674), (763, 127, 762, 0), (760, 128, 759, 0), (691, 128, 690, 0), (688, 128, 687, 0), (698, 128, 697, 0), (766, 130, 765, 0)]
def mwOf (z : Nat) : Nat × Nat × Nat × Nat := (mwT[z]?).getD (0, 0, 0, 0)
def okMw (z : Nat) : Bool := decide (lw_tbl[(mwOf z).2.1]? = some (.initialized (mName z).cls)) && plainFor (mName z) && decide ((mName z).cls ≠ "java/lang/invoke/MethodHandle" ∧ (mName z).cls ≠ "java/lang/invoke/VarHandle") && decide ((parseMethodDescriptor (mName z).desc).map (fun d => d.parameters.length) = some ((npT[z]?).getD 0)) && decide (mMl z ≤ 30) &&
  (match (skT[z]?).getD 9 with
  | 0 => decide (lw_tbl[(mwOf z).2.2.1]? = some (.static (mName z)))
  | 1 => decide (lw_tbl[(mwOf z).2.2.1]? = some (.instanceMethod (mName z))) && decide (lw_tbl[(mwOf z).2.2.2]? = some (.selects (mName z).cls (mName z) (mName z))) && decide (ownN ((tgT[z]?).getD 999) = (mName z).cls) && decide ((tgT[z]?).getD 999 < 13 ∨ (tgT[z]?).getD 999 = 50)
  | 2 => decide (lw_tbl[(mwOf z).2.2.1]? = some (.instanceMethod (mName z))) && decide ((mName z).name = "<init>") && decide (mRet z = none) && decide ((tgT[z]?).getD 999 < 13)
  | _ => false)
  && decide (mOff z 0 = 0) && decide ((sgOf z).length = (npT[z]?).getD 0 + (if (skT[z]?).getD 9 = 0 then 0 else 1))
set_option maxRecDepth 100000 in
theorem okMw_0 : (List.range' 0 25).all okMw = true := by decide +kernel
set_option maxRecDepth 100000 in
theorem okMw_25 : (List.range' 25 25).all okMw = true := by decide +kernel
set_option maxRecDepth 100000 in
theorem okMw_50 : (List.range' 50 25).all okMw = true := by decide +kernel
set_option maxRecDepth 100000 in
theorem okMw_75 : (List.range' 75 25).all okMw = true := by decide +kernel
set_option maxRecDepth 100000 in
theorem okMw_100 : (List.range' 100 25).all okMw = true := by decide +kernel
set_option maxRecDepth 100000 in
theorem okMw_125 : (List.range' 125 25).all okMw = true := by decide +kernel
set_option maxRecDepth 100000 in
theorem okMw_150 : (List.range' 150 25).all okMw = true := by decide +kernel
set_option maxRecDepth 100000 in
theorem okMw_175 : (List.range' 175 25).all okMw = true := by decide +kernel
set_option maxRecDepth 100000 in
theorem okMw_200 : (List.range' 200 25).all okMw = true := by decide +kernel
set_option maxRecDepth 100000 in
theorem okMw_225 : (List.range' 225 25).all okMw = true := by decide +kernel
set_option maxRecDepth 100000 in
theorem okMw_250 : (List.range' 250 25).all okMw = true := by decide +kernel
set_option maxRecDepth 100000 in
theorem okMw_275 : (List.range' 275 25).all okMw = true := by decide +kernel
set_option maxRecDepth 100000 in
theorem okMw_300 : (List.range' 300 2).all okMw = true := by decide +kernel
theorem okMw_all {z : Nat} (h : z < 302) : okMw z = true := by
  by_cases h0 : z < 25
  · exact List.all_eq_true.mp okMw_0 z (List.mem_range'_1.mpr ⟨by omega, by omega⟩)
  by_cases h25 : z < 50
  · exact List.all_eq_true.mp okMw_25 z (List.mem_range'_1.mpr ⟨by omega, by omega⟩)
  by_cases h50 : z < 75
  · exact List.all_eq_true.mp okMw_50 z (List.mem_range'_1.mpr ⟨by omega, by omega⟩)
  by_cases h75 : z < 100
  · exact List.all_eq_true.mp okMw_75 z (List.mem_range'_1.mpr ⟨by omega, by omega⟩)
  by_cases h100 : z < 125
  · exact List.all_eq_true.mp okMw_100 z (List.mem_range'_1.mpr ⟨by omega, by omega⟩)
  by_cases h125 : z < 150
  · exact List.all_eq_true.mp okMw_125 z (List.mem_range'_1.mpr ⟨by omega, by omega⟩)
  by_cases h150 : z < 175
  · exact List.all_eq_true.mp okMw_150 z (List.mem_range'_1.mpr ⟨by omega, by omega⟩)
  by_cases h175 : z < 200
  · exact List.all_eq_true.mp okMw_175 z (List.mem_range'_1.mpr ⟨by omega, by omega⟩)
  by_cases h200 : z < 225
  · exact List.all_eq_true.mp okMw_200 z (List.mem_range'_1.mpr ⟨by omega, by omega⟩)
  by_cases h225 : z < 250
  · exact List.all_eq_true.mp okMw_225 z (List.mem_range'_1.mpr ⟨by omega, by omega⟩)
  by_cases h250 : z < 275
  · exact List.all_eq_true.mp okMw_250 z (List.mem_range'_1.mpr ⟨by omega, by omega⟩)
  by_cases h275 : z < 300
  · exact List.all_eq_true.mp okMw_275 z (List.mem_range'_1.mpr ⟨by omega, by omega⟩)
  by_cases h300 : z < 302
  · exact List.all_eq_true.mp okMw_300 z (List.mem_range'_1.mpr ⟨by omega, by omega⟩)
  omega
theorem mw_gw {i : Nat} {w : Jvm.Cond} (h : lw_tbl[i]? = some w) (hg : goodWord w = true) : w ∈ gW := List.mem_filter.mpr ⟨List.mem_of_getElem? h, hg⟩
/-- what is known of a method -/
theorem mw_ok {z : Nat} (hz : z < 302) : (Jvm.Cond.code (mName z) (mByt z) (mMl z) (mRet z) ∈ gW ∧ Jvm.Cond.initialized (mName z).cls ∈ gW ∧ plainFor (mName z) = true) ∧ (((mName z).cls ≠ "java/lang/invoke/MethodHandle" ∧ (mName z).cls ≠ "java/lang/invoke/VarHandle") ∧ (parseMethodDescriptor (mName z).desc).map (fun d => d.parameters.length) = some ((npT[z]?).getD 0) ∧ mMl z ≤ 30 ∧ mOff z 0 = 0 ∧ (sgOf z).length = (npT[z]?).getD 0 + (if (skT[z]?).getD 9 = 0 then 0 else 1)) ∧
    (((skT[z]?).getD 9 = 0 ∧ Jvm.Cond.static (mName z) ∈ gW) ∨ ((skT[z]?).getD 9 = 1 ∧ Jvm.Cond.instanceMethod (mName z) ∈ gW ∧ Jvm.Cond.selects (mName z).cls (mName z) (mName z) ∈ gW ∧ ownN ((tgT[z]?).getD 999) = (mName z).cls ∧ ((tgT[z]?).getD 999 < 13 ∨ (tgT[z]?).getD 999 = 50)) ∨
     ((skT[z]?).getD 9 = 2 ∧ Jvm.Cond.instanceMethod (mName z) ∈ gW ∧ (mName z).name = "<init>" ∧ mRet z = none ∧ (tgT[z]?).getD 999 < 13)) := by
  have h := okMw_all hz
  unfold okMw at h
  simp only [Bool.and_eq_true, decide_eq_true_eq] at h
  obtain ⟨⟨⟨⟨⟨⟨⟨h2, h3⟩, h4⟩, h5⟩, h6⟩, h7⟩, h8⟩, h10⟩ := h
  refine ⟨⟨List.mem_filter.mpr ⟨cwAll z hz, rfl⟩, mw_gw h2 rfl, h3⟩, ⟨h4, h5, h6, h8, h10⟩, ?_⟩
  split at h7
  · rename_i g; exact Or.inl ⟨g, mw_gw (of_decide_eq_true h7) rfl⟩
  · rename_i g
    simp only [Bool.and_eq_true, decide_eq_true_eq] at h7
    exact Or.inr (Or.inl ⟨g, mw_gw h7.1.1.1 rfl, mw_gw h7.1.1.2 rfl, h7.1.2, h7.2⟩)
  · rename_i g
    simp only [Bool.and_eq_true, decide_eq_true_eq] at h7
    exact Or.inr (Or.inr ⟨g, mw_gw h7.1.1.1 rfl, h7.1.1.2, h7.1.2, h7.2⟩)
  · cases h7
