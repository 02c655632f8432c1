set_option maxRecDepth 100000 in
theorem ck_73 : chkM 73 = true := (show chkL 73 prog_8_method_8_code ko_73 wl_6 0 kc_73 = true by decide +kernel)
set_option maxRecDepth 100000 in
theorem ck_74 : chkM 74 = true := (show chkL 74 prog_8_method_9_code ko_74 wl_6 0 kc_74 = true by decide +kernel)
set_option maxRecDepth 100000 in
theorem ck_75 : chkM 75 = true := (show chkL 75 prog_8_method_10_code ko_75 wl_6 0 kc_75 = true by decide +kernel)
set_option maxRecDepth 100000 in
theorem ck_76 : chkM 76 = true := (show chkL 76 prog_8_method_11_code ko_76 wl_6 0 kc_76 = true by decide +kernel)
set_option maxRecDepth 100000 in
theorem ck_77 : chkM 77 = true := (show chkL 77 prog_8_method_12_code ko_77 wl_6 0 kc_77 = true by decide +kernel)
set_option maxRecDepth 100000 in
theorem ck_78 : chkM 78 = true := (show chkL 78 prog_8_method_13_code ko_78 wl_6 0 kc_78 = true by decide +kernel)
set_option maxRecDepth 100000 in
theorem ck_79 : chkM 79 = true := (show chkL 79 prog_8_method_14_code ko_79 wl_6 0 kc_79 = true by decide +kernel)
set_option maxRecDepth 100000 in
theorem ck_80 : chkM 80 = true := (show chkL 80 prog_8_method_15_code ko_80 wl_6 0 kc_80 = true by decide +kernel)
set_option maxRecDepth 100000 in
theorem ck_81 : chkM 81 = true := (show chkL 81 prog_8_method_16_code ko_81 wl_6 0 kc_81 = true by decide +kernel)
set_option maxRecDepth 100000 in
theorem ck_82 : chkM 82 = true := (show chkL 82 prog_8_method_17_code ko_82 wl_6 0 kc_82 = true by decide +kernel)
set_option maxRecDepth 100000 in
theorem ck_83 : chkM 83 = true := (show chkL 83 prog_8_method_18_code ko_83 wl_6 0 kc_83 = true by decide +kernel)
set_option maxRecDepth 100000 in
theorem ck_84 : chkM 84 = true := (show chkL 84 prog_8_method_19_code ko_84 wl_6 0 kc_84 = true by decide +kernel)
set_option maxRecDepth 100000 in
theorem ck_85 : chkM 85 = true := (show chkL 85 prog_8_method_20_code ko_85 wl_6 0 kc_85 = true by decide +kernel)
set_option maxRecDepth 100000 in
theorem ck_86 : chkM 86 = true := (show chkL 86 prog_8_method_21_code ko_86 wl_6 0 kc_86 = true by decide +kernel)
set_option maxRecDepth 100000 in
theorem ck_87 : chkM 87 = true := (show chkL 87 prog_8_method_22_code ko_87 wl_6 0 kc_87 = true by decide +kernel)
set_option maxRecDepth 100000 in
theorem ck_88 : chkM 88 = true := (show chkL 88 prog_8_method_23_code ko_88 wl_6 0 kc_88 = true by decide +kernel)
set_option maxRecDepth 100000 in
theorem ck_89 : chkM 89 = true := (show chkL 89 prog_8_method_24_code ko_89 wl_6 0 kc_89 = true by decide +kernel)
set_option maxRecDepth 100000 in
theorem ck_90 : chkM 90 = true := (show chkL 90 prog_9_method_1_code ko_90 wl_7 0 kc_90 = true by decide +kernel)
set_option maxRecDepth 100000 in
theorem ck_91 : chkM 91 = true := (show chkL 91 prog_9_method_2_code ko_91 wl_7 0 kc_91 = true by decide +kernel)
set_option maxRecDepth 100000 in
theorem ck_92 : chkM 92 = true := (show chkL 92 prog_9_method_3_code ko_92 wl_7 0 kc_92 = true by decide +kernel)
set_option maxRecDepth 100000 in
theorem ck_93 : chkM 93 = true := (show chkL 93 prog_9_method_4_code ko_93 wl_7 0 kc_93 = true by decide +kernel)
set_option maxRecDepth 100000 in
theorem ck_94 : chkM 94 = true := (show chkL 94 prog_9_method_5_code ko_94 wl_7 0 kc_94 = true by decide +kernel)
set_option maxRecDepth 100000 in
theorem ck_95 : chkM 95 = true := (show chkL 95 prog_9_method_6_code ko_95 wl_7 0 kc_95 = true by decide +kernel)
set_option maxRecDepth 100000 in
theorem ck_96 : chkM 96 = true := (show chkL 96 prog_9_method_7_code ko_96 wl_7 0 kc_96 = true by decide +kernel)
set_option maxRecDepth 100000 in
theorem ck_97 : chkM 97 = true := (show chkL 97 prog_9_method_8_code ko_97 wl_7 0 kc_97 = true by decide +kernel)
set_option maxRecDepth 100000 in
theorem ck_98 : chkM 98 = true := (show chkL 98 prog_9_method_9_code ko_98 wl_7 0 kc_98 = true by decide +kernel)
set_option maxRecDepth 100000 in
theorem ck_99 : chkM 99 = true := (show chkL 99 prog_9_method_10_code ko_99 wl_7 0 kc_99 = true by decide +kernel)
set_option maxRecDepth 100000 in
theorem ck_100 : chkM 100 = true := (show chkL 100 prog_9_method_11_code ko_100 wl_7 0 kc_100 = true by decide +kernel)
set_option maxRecDepth 100000 in
theorem ck_101 : chkM 101 = true := (show chkL 101 prog_9_method_12_code ko_101 wl_7 0 kc_101 = true by decide +kernel)
set_option maxRecDepth 100000 in
theorem ck_102 : chkM 102 = true := (show chkL 102 prog_9_method_13_code ko_102 wl_7 0 kc_102 = true by decide +kernel)
set_option maxRecDepth 100000 in
theorem ck_103 : chkM 103 = true := (show chkL 103 prog_9_method_14_code ko_103 wl_7 0 kc_103 = true by decide +kernel)
set_option maxRecDepth 100000 in
theorem ck_104 : chkM 104 = true := (show chkL 104 prog_10_method_1_code ko_104 wl_8 0 kc_104 = true by decide +kernel)
set_option maxRecDepth 100000 in
theorem ck_105 : chkM 105 = true := (show chkL 105 prog_10_method_2_code ko_105 wl_8 0 kc_105 = true by decide +kernel)
set_option maxRecDepth 100000 in
theorem ck_106 : chkM 106 = true := (show chkL 106 prog_11_method_1_code ko_106 wl_9 0 kc_106 = true by decide +kernel)
set_option maxRecDepth 100000 in
theorem ck_107 : chkM 107 = true := (show chkL 107 prog_11_method_2_code ko_107 wl_9 0 kc_107 = true by decide +kernel)
set_option maxRecDepth 100000 in
theorem ck_108 : chkM 108 = true := (show chkL 108 prog_11_method_3_code ko_108 wl_9 0 kc_108 = true by decide +kernel)
set_option maxRecDepth 100000 in
theorem ck_109 : chkM 109 = true := (show chkL 109 prog_11_method_4_code ko_109 wl_9 0 kc_109 = true by decide +kernel)
set_option maxRecDepth 100000 in
theorem ck_110 : chkM 110 = true := (show chkL 110 prog_11_method_5_code ko_110 wl_9 0 kc_110 = true by decide +kernel)
set_option maxRecDepth 100000 in
theorem ck_111 : chkM 111 = true := (show chkL 111 prog_11_method_6_code ko_111 wl_9 0 kc_111 = true by decide +kernel)
set_option maxRecDepth 100000 in
theorem ck_112 : chkM 112 = true := (show chkL 112 prog_12_method_1_code ko_112 wl_10 0 kc_112 = true by decide +kernel)
set_option maxRecDepth 100000 in
theorem ck_113 : chkM 113 = true := (show chkL 113 prog_12_method_2_code ko_113 wl_10 0 kc_113 = true by decide +kernel)
set_option maxRecDepth 100000 in
theorem ck_114 : chkM 114 = true := (show chkL 114 prog_12_method_3_code ko_114 wl_10 0 kc_114 = true by decide +kernel)
set_option maxRecDepth 100000 in
theorem ck_115 : chkM 115 = true := (show chkL 115 prog_12_method_4_code ko_115 wl_10 0 kc_115 = true by decide +kernel)
set_option maxRecDepth 100000 in
theorem ck_116 : chkM 116 = true := (show chkL 116 prog_1_method_1_code ko_116 wl_11 0 kc_116 = true by decide +kernel)
set_option maxRecDepth 100000 in
theorem ck_117 : chkM 117 = true := (show chkL 117 prog_1_method_2_code ko_117 wl_11 0 kc_117 = true by decide +kernel)
set_option maxRecDepth 100000 in
theorem ck_118 : chkM 118 = true := (show chkL 118 prog_1_method_3_code ko_118 wl_11 0 kc_118 = true by decide +kernel)
set_option maxRecDepth 100000 in
theorem ck_119 : chkM 119 = true := (show chkL 119 prog_1_method_4_code ko_119 wl_11 0 kc_119 = true by decide +kernel)
set_option maxRecDepth 100000 in
theorem ck_120 : chkM 120 = true := (show chkL 120 prog_1_method_5_code ko_120 wl_11 0 kc_120 = true by decide +kernel)
set_option maxRecDepth 100000 in
theorem ck_121 : chkM 121 = true := (show chkL 121 prog_1_method_6_code ko_121 wl_11 0 kc_121 = true by decide +kernel)
set_option maxRecDepth 100000 in
theorem ck_122 : chkM 122 = true := (show chkL 122 prog_1_method_7_code ko_122 wl_11 0 kc_122 = true by decide +kernel)
set_option maxRecDepth 100000 in
theorem ck_123 : chkM 123 = true := (show chkL 123 prog_1_method_8_code ko_123 wl_11 0 kc_123 = true by decide +kernel)
set_option maxRecDepth 100000 in
theorem ck_124 : chkM 124 = true := (show chkL 124 prog_1_method_9_code ko_124 wl_11 0 kc_124 = true by decide +kernel)
set_option maxRecDepth 100000 in
theorem ck_125 : chkM 125 = true := (show chkL 125 prog_1_method_10_code ko_125 wl_11 0 kc_125 = true by decide +kernel)
set_option maxRecDepth 100000 in
theorem ck_126 : chkM 126 = true := (show chkL 126 prog_1_method_11_code ko_126 wl_11 0 kc_126 = true by decide +kernel)
set_option maxRecDepth 100000 in
theorem ck_127 : chkM 127 = true := (show chkL 127 prog_1_method_12_code ko_127 wl_11 0 kc_127 = true by decide +kernel)
set_option maxRecDepth 100000 in
theorem ck_128 : chkM 128 = true := (show chkL 128 prog_1_method_13_code ko_128 wl_11 0 kc_128 = true by decide +kernel)
set_option maxRecDepth 100000 in
theorem ck_129 : chkM 129 = true := (show chkL 129 prog_1_method_14_code ko_129 wl_11 0 kc_129 = true by decide +kernel)
set_option maxRecDepth 100000 in
theorem ck_130 : chkM 130 = true := (show chkL 130 prog_1_method_15_code ko_130 wl_11 0 kc_130 = true by decide +kernel)
set_option maxRecDepth 100000 in
theorem ck_131 : chkM 131 = true := (show chkL 131 prog_1_method_16_code ko_131 wl_11 0 kc_131 = true by decide +kernel)
set_option maxRecDepth 100000 in
theorem ck_132 : chkM 132 = true := (show chkL 132 prog_1_method_17_code ko_132 wl_11 0 kc_132 = true by decide +kernel)
set_option maxRecDepth 100000 in
theorem ck_133 : chkM 133 = true := (show chkL 133 prog_1_method_18_code ko_133 wl_11 0 kc_133 = true by decide +kernel)
set_option maxRecDepth 100000 in
theorem ck_134 : chkM 134 = true := (show chkL 134 prog_1_method_19_code ko_134 wl_11 0 kc_134 = true by decide +kernel)
set_option maxRecDepth 100000 in
theorem ck_135 : chkM 135 = true := (show chkL 135 prog_1_method_20_code ko_135 wl_11 0 kc_135 = true by decide +kernel)
set_option maxRecDepth 100000 in
theorem ck_136 : chkM 136 = true := (show chkL 136 prog_1_method_21_code ko_136 wl_11 0 kc_136 = true by decide +kernel)
set_option maxRecDepth 100000 in
theorem ck_137 : chkM 137 = true := (show chkL 137 prog_1_method_22_code ko_137 wl_11 0 kc_137 = true by decide +kernel)
set_option maxRecDepth 100000 in
theorem ck_138 : chkM 138 = true := (show chkL 138 prog_1_method_23_code ko_138 wl_11 0 kc_138 = true by decide +kernel)
set_option maxRecDepth 100000 in
theorem ck_139 : chkM 139 = true := (show chkL 139 prog_1_method_24_code ko_139 wl_11 0 kc_139 = true by decide +kernel)
set_option maxRecDepth 100000 in
theorem ck_140 : chkM 140 = true := (show chkL 140 prog_1_method_25_code ko_140 wl_11 0 kc_140 = true by decide +kernel)
