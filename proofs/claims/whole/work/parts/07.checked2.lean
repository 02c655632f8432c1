set_option maxRecDepth 100000 in
theorem ck_141 : chkM 141 = true := (show chkL 141 prog_1_method_26_code ko_141 wl_11 0 kc_141 = true by decide +kernel)
set_option maxRecDepth 100000 in
theorem ck_142 : chkM 142 = true := (show chkL 142 prog_1_method_27_code ko_142 wl_11 0 kc_142 = true by decide +kernel)
set_option maxRecDepth 100000 in
theorem ck_143 : chkM 143 = true := (show chkL 143 prog_1_method_28_code ko_143 wl_11 0 kc_143 = true by decide +kernel)
set_option maxRecDepth 100000 in
theorem ck_144 : chkM 144 = true := (show chkL 144 prog_1_method_29_code ko_144 wl_11 0 kc_144 = true by decide +kernel)
set_option maxRecDepth 100000 in
theorem ck_145 : chkM 145 = true := (show chkL 145 prog_1_method_30_code ko_145 wl_11 0 kc_145 = true by decide +kernel)
set_option maxRecDepth 100000 in
theorem ck_146 : chkM 146 = true := (show chkL 146 prog_1_method_31_code ko_146 wl_11 0 kc_146 = true by decide +kernel)
set_option maxRecDepth 100000 in
theorem ck_147 : chkM 147 = true := (show chkL 147 prog_1_method_32_code ko_147 wl_11 0 kc_147 = true by decide +kernel)
set_option maxRecDepth 100000 in
theorem ck_148 : chkM 148 = true := (show chkL 148 prog_1_method_33_code ko_148 wl_11 0 kc_148 = true by decide +kernel)
set_option maxRecDepth 100000 in
theorem ck_149 : chkM 149 = true := (show chkL 149 prog_1_method_34_code ko_149 wl_11 0 kc_149 = true by decide +kernel)
set_option maxRecDepth 100000 in
theorem ck_150 : chkM 150 = true := (show chkL 150 prog_1_method_35_code ko_150 wl_11 0 kc_150 = true by decide +kernel)
set_option maxRecDepth 100000 in
theorem ck_151 : chkM 151 = true := (show chkL 151 prog_1_method_36_code ko_151 wl_11 0 kc_151 = true by decide +kernel)
set_option maxRecDepth 100000 in
theorem ck_152 : chkM 152 = true := (show chkL 152 prog_1_method_37_code ko_152 wl_11 0 kc_152 = true by decide +kernel)
set_option maxRecDepth 100000 in
theorem ck_153 : chkM 153 = true := (show chkL 153 prog_1_method_38_code ko_153 wl_11 0 kc_153 = true by decide +kernel)
set_option maxRecDepth 100000 in
theorem ck_154 : chkM 154 = true := (show chkL 154 prog_1_method_39_code ko_154 wl_11 0 kc_154 = true by decide +kernel)
set_option maxRecDepth 100000 in
theorem ck_155 : chkM 155 = true := (show chkL 155 prog_1_method_40_code ko_155 wl_11 0 kc_155 = true by decide +kernel)
set_option maxRecDepth 100000 in
theorem ck_156 : chkM 156 = true := (show chkL 156 prog_1_method_41_code ko_156 wl_11 0 kc_156 = true by decide +kernel)
set_option maxRecDepth 100000 in
theorem ck_157 : chkM 157 = true := (show chkL 157 prog_1_method_42_code ko_157 wl_11 0 kc_157 = true by decide +kernel)
set_option maxRecDepth 100000 in
theorem ck_158 : chkM 158 = true := (show chkL 158 prog_1_method_43_code ko_158 wl_11 0 kc_158 = true by decide +kernel)
set_option maxRecDepth 100000 in
theorem ck_159 : chkM 159 = true := (show chkL 159 prog_1_method_44_code ko_159 wl_11 0 kc_159 = true by decide +kernel)
set_option maxRecDepth 100000 in
theorem ck_160 : chkM 160 = true := (show chkL 160 prog_1_method_45_code ko_160 wl_11 0 kc_160 = true by decide +kernel)
set_option maxRecDepth 100000 in
theorem ck_161 : chkM 161 = true := (show chkL 161 prog_1_method_46_code ko_161 wl_11 0 kc_161 = true by decide +kernel)
set_option maxRecDepth 100000 in
theorem ck_162 : chkM 162 = true := (show chkL 162 prog_1_method_47_code ko_162 wl_11 0 kc_162 = true by decide +kernel)
set_option maxRecDepth 100000 in
theorem ck_163 : chkM 163 = true := (show chkL 163 prog_1_method_48_code ko_163 wl_11 0 kc_163 = true by decide +kernel)
set_option maxRecDepth 100000 in
theorem ck_164 : chkM 164 = true := (show chkL 164 prog_1_method_49_code ko_164 wl_11 0 kc_164 = true by decide +kernel)
set_option maxRecDepth 100000 in
theorem ck_165 : chkM 165 = true := (show chkL 165 prog_1_method_50_code ko_165 wl_11 0 kc_165 = true by decide +kernel)
set_option maxRecDepth 100000 in
theorem ck_166 : chkM 166 = true := (show chkL 166 prog_1_method_51_code ko_166 wl_11 0 kc_166 = true by decide +kernel)
set_option maxRecDepth 100000 in
theorem ck_167 : chkM 167 = true := (show chkL 167 prog_1_method_52_code ko_167 wl_11 0 kc_167 = true by decide +kernel)
set_option maxRecDepth 100000 in
theorem ck_168 : chkM 168 = true := (show chkL 168 prog_1_method_53_code ko_168 wl_11 0 kc_168 = true by decide +kernel)
set_option maxRecDepth 100000 in
theorem ck_169 : chkM 169 = true := (show chkL 169 prog_1_method_54_code ko_169 wl_11 0 kc_169 = true by decide +kernel)
set_option maxRecDepth 100000 in
theorem ck_170 : chkM 170 = true := (show chkL 170 prog_14_method_1_code ko_170 wl_12 0 kc_170 = true by decide +kernel)
set_option maxRecDepth 100000 in
theorem ck_171 : chkM 171 = true := (show chkL 171 prog_14_method_2_code ko_171 wl_12 0 kc_171 = true by decide +kernel)
set_option maxRecDepth 100000 in
theorem ck_172 : chkM 172 = true := (show chkL 172 prog_14_method_3_code ko_172 wl_12 0 kc_172 = true by decide +kernel)
set_option maxRecDepth 100000 in
theorem ck_173 : chkM 173 = true := (show chkL 173 prog_14_method_4_code ko_173 wl_12 0 kc_173 = true by decide +kernel)
set_option maxRecDepth 100000 in
theorem ck_174 : chkM 174 = true := (show chkL 174 prog_14_method_5_code ko_174 wl_12 0 kc_174 = true by decide +kernel)
set_option maxRecDepth 100000 in
theorem ck_175 : chkM 175 = true := (show chkL 175 prog_14_method_6_code ko_175 wl_12 0 kc_175 = true by decide +kernel)
set_option maxRecDepth 100000 in
theorem ck_176 : chkM 176 = true := (show chkL 176 prog_14_method_7_code ko_176 wl_12 0 kc_176 = true by decide +kernel)
set_option maxRecDepth 100000 in
theorem ck_177 : chkM 177 = true := (show chkL 177 prog_14_method_8_code ko_177 wl_12 0 kc_177 = true by decide +kernel)
set_option maxRecDepth 100000 in
theorem ck_178 : chkM 178 = true := (show chkL 178 prog_14_method_9_code ko_178 wl_12 0 kc_178 = true by decide +kernel)
set_option maxRecDepth 100000 in
theorem ck_179 : chkM 179 = true := (show chkL 179 prog_14_method_10_code ko_179 wl_12 0 kc_179 = true by decide +kernel)
set_option maxRecDepth 100000 in
theorem ck_180 : chkM 180 = true := (show chkL 180 prog_14_method_11_code ko_180 wl_12 0 kc_180 = true by decide +kernel)
set_option maxRecDepth 100000 in
theorem ck_181 : chkM 181 = true := (show chkL 181 prog_14_method_12_code ko_181 wl_12 0 kc_181 = true by decide +kernel)
set_option maxRecDepth 100000 in
theorem ck_182 : chkM 182 = true := (show chkL 182 prog_14_method_13_code ko_182 wl_12 0 kc_182 = true by decide +kernel)
set_option maxRecDepth 100000 in
theorem ck_183 : chkM 183 = true := (show chkL 183 prog_14_method_14_code ko_183 wl_12 0 kc_183 = true by decide +kernel)
set_option maxRecDepth 100000 in
theorem ck_184 : chkM 184 = true := (show chkL 184 prog_14_method_15_code ko_184 wl_12 0 kc_184 = true by decide +kernel)
set_option maxRecDepth 100000 in
theorem ck_185 : chkM 185 = true := (show chkL 185 prog_14_method_16_code ko_185 wl_12 0 kc_185 = true by decide +kernel)
set_option maxRecDepth 100000 in
theorem ck_186 : chkM 186 = true := (show chkL 186 prog_14_method_17_code ko_186 wl_12 0 kc_186 = true by decide +kernel)
set_option maxRecDepth 100000 in
theorem ck_187 : chkM 187 = true := (show chkL 187 prog_14_method_18_code ko_187 wl_12 0 kc_187 = true by decide +kernel)
set_option maxRecDepth 100000 in
theorem ck_188 : chkM 188 = true := (show chkL 188 prog_14_method_19_code ko_188 wl_12 0 kc_188 = true by decide +kernel)
set_option maxRecDepth 100000 in
theorem ck_189 : chkM 189 = true := (show chkL 189 prog_14_method_20_code ko_189 wl_12 0 kc_189 = true by decide +kernel)
set_option maxRecDepth 100000 in
theorem ck_190 : chkM 190 = true := (show chkL 190 prog_14_method_21_code ko_190 wl_12 0 kc_190 = true by decide +kernel)
set_option maxRecDepth 100000 in
theorem ck_191 : chkM 191 = true := (show chkL 191 prog_14_method_22_code ko_191 wl_12 0 kc_191 = true by decide +kernel)
set_option maxRecDepth 100000 in
theorem ck_192 : chkM 192 = true := (show chkL 192 prog_14_method_23_code ko_192 wl_12 0 kc_192 = true by decide +kernel)
set_option maxRecDepth 100000 in
theorem ck_193 : chkM 193 = true := (show chkL 193 prog_14_method_24_code ko_193 wl_12 0 kc_193 = true by decide +kernel)
set_option maxRecDepth 100000 in
theorem ck_194 : chkM 194 = true := (show chkL 194 prog_14_method_25_code ko_194 wl_12 0 kc_194 = true by decide +kernel)
set_option maxRecDepth 100000 in
theorem ck_195 : chkM 195 = true := (show chkL 195 prog_14_method_26_code ko_195 wl_12 0 kc_195 = true by decide +kernel)
set_option maxRecDepth 100000 in
theorem ck_196 : chkM 196 = true := (show chkL 196 prog_14_method_27_code ko_196 wl_12 0 kc_196 = true by decide +kernel)
set_option maxRecDepth 100000 in
theorem ck_197 : chkM 197 = true := (show chkL 197 prog_14_method_28_code ko_197 wl_12 0 kc_197 = true by decide +kernel)
set_option maxRecDepth 100000 in
theorem ck_198 : chkM 198 = true := (show chkL 198 prog_14_method_29_code ko_198 wl_12 0 kc_198 = true by decide +kernel)
set_option maxRecDepth 100000 in
theorem ck_199 : chkM 199 = true := (show chkL 199 prog_14_method_30_code ko_199 wl_12 0 kc_199 = true by decide +kernel)
set_option maxRecDepth 100000 in
theorem ck_200 : chkM 200 = true := (show chkL 200 prog_14_method_31_code ko_200 wl_12 0 kc_200 = true by decide +kernel)
set_option maxRecDepth 100000 in
theorem ck_201 : chkM 201 = true := (show chkL 201 prog_14_method_32_code ko_201 wl_12 0 kc_201 = true by decide +kernel)
set_option maxRecDepth 100000 in
theorem ck_202 : chkM 202 = true := (show chkL 202 prog_14_method_33_code ko_202 wl_12 0 kc_202 = true by decide +kernel)
set_option maxRecDepth 100000 in
theorem ck_203 : chkM 203 = true := (show chkL 203 prog_14_method_34_code ko_203 wl_12 0 kc_203 = true by decide +kernel)
set_option maxRecDepth 100000 in
theorem ck_204 : chkM 204 = true := (show chkL 204 prog_14_method_35_code ko_204 wl_12 0 kc_204 = true by decide +kernel)
set_option maxRecDepth 100000 in
theorem ck_205 : chkM 205 = true := (show chkL 205 prog_14_method_36_code ko_205 wl_12 0 kc_205 = true by decide +kernel)
set_option maxRecDepth 100000 in
theorem ck_206 : chkM 206 = true := (show chkL 206 prog_14_method_37_code ko_206 wl_12 0 kc_206 = true by decide +kernel)
