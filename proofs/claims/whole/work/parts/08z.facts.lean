theorem ckc_0 : ∀ y ∈ [0, 1, 2, 3, 4, 5, 6, 7, 8, 9, 10, 11, 12, 13, 14, 15, 16, 17, 18, 19, 20, 21, 22, 23, 24], chkM y = true := List.forall_mem_cons.mpr ⟨ck_0, List.forall_mem_cons.mpr ⟨ck_1, List.forall_mem_cons.mpr ⟨ck_2, List.forall_mem_cons.mpr ⟨ck_3, List.forall_mem_cons.mpr ⟨ck_4, List.forall_mem_cons.mpr ⟨ck_5, List.forall_mem_cons.mpr ⟨ck_6, List.forall_mem_cons.mpr ⟨ck_7, List.forall_mem_cons.mpr ⟨ck_8, List.forall_mem_cons.mpr ⟨ck_9, List.forall_mem_cons.mpr ⟨ck_10, List.forall_mem_cons.mpr ⟨ck_11, List.forall_mem_cons.mpr ⟨ck_12, List.forall_mem_cons.mpr ⟨ck_13, List.forall_mem_cons.mpr ⟨ck_14, List.forall_mem_cons.mpr ⟨ck_15, List.forall_mem_cons.mpr ⟨ck_16, List.forall_mem_cons.mpr ⟨ck_17, List.forall_mem_cons.mpr ⟨ck_18, List.forall_mem_cons.mpr ⟨ck_19, List.forall_mem_cons.mpr ⟨ck_20, List.forall_mem_cons.mpr ⟨ck_21, List.forall_mem_cons.mpr ⟨ck_22, List.forall_mem_cons.mpr ⟨ck_23, List.forall_mem_cons.mpr ⟨ck_24, fun _ h => absurd h List.not_mem_nil⟩⟩⟩⟩⟩⟩⟩⟩⟩⟩⟩⟩⟩⟩⟩⟩⟩⟩⟩⟩⟩⟩⟩⟩⟩
theorem ckc_25 : ∀ y ∈ [25, 26, 27, 28, 29, 30, 31, 32, 33, 34, 35, 36, 37, 38, 39, 40, 41, 42, 43, 44, 45, 46, 47, 48, 49], chkM y = true := List.forall_mem_cons.mpr ⟨ck_25, List.forall_mem_cons.mpr ⟨ck_26, List.forall_mem_cons.mpr ⟨ck_27, List.forall_mem_cons.mpr ⟨ck_28, List.forall_mem_cons.mpr ⟨ck_29, List.forall_mem_cons.mpr ⟨ck_30, List.forall_mem_cons.mpr ⟨ck_31, List.forall_mem_cons.mpr ⟨ck_32, List.forall_mem_cons.mpr ⟨ck_33, List.forall_mem_cons.mpr ⟨ck_34, List.forall_mem_cons.mpr ⟨ck_35, List.forall_mem_cons.mpr ⟨ck_36, List.forall_mem_cons.mpr ⟨ck_37, List.forall_mem_cons.mpr ⟨ck_38, List.forall_mem_cons.mpr ⟨ck_39, List.forall_mem_cons.mpr ⟨ck_40, List.forall_mem_cons.mpr ⟨ck_41, List.forall_mem_cons.mpr ⟨ck_42, List.forall_mem_cons.mpr ⟨ck_43, List.forall_mem_cons.mpr ⟨ck_44, List.forall_mem_cons.mpr ⟨ck_45, List.forall_mem_cons.mpr ⟨ck_46, List.forall_mem_cons.mpr ⟨ck_47, List.forall_mem_cons.mpr ⟨ck_48, List.forall_mem_cons.mpr ⟨ck_49, fun _ h => absurd h List.not_mem_nil⟩⟩⟩⟩⟩⟩⟩⟩⟩⟩⟩⟩⟩⟩⟩⟩⟩⟩⟩⟩⟩⟩⟩⟩⟩
theorem ckc_50 : ∀ y ∈ [50, 51, 52, 53, 54, 55, 56, 57, 58, 59, 60, 61, 62, 63, 64, 65, 66, 67, 68, 69, 70, 71, 72, 73, 74], chkM y = true := List.forall_mem_cons.mpr ⟨ck_50, List.forall_mem_cons.mpr ⟨ck_51, List.forall_mem_cons.mpr ⟨ck_52, List.forall_mem_cons.mpr ⟨ck_53, List.forall_mem_cons.mpr ⟨ck_54, List.forall_mem_cons.mpr ⟨ck_55, List.forall_mem_cons.mpr ⟨ck_56, List.forall_mem_cons.mpr ⟨ck_57, List.forall_mem_cons.mpr ⟨ck_58, List.forall_mem_cons.mpr ⟨ck_59, List.forall_mem_cons.mpr ⟨ck_60, List.forall_mem_cons.mpr ⟨ck_61, List.forall_mem_cons.mpr ⟨ck_62, List.forall_mem_cons.mpr ⟨ck_63, List.forall_mem_cons.mpr ⟨ck_64, List.forall_mem_cons.mpr ⟨ck_65, List.forall_mem_cons.mpr ⟨ck_66, List.forall_mem_cons.mpr ⟨ck_67, List.forall_mem_cons.mpr ⟨ck_68, List.forall_mem_cons.mpr ⟨ck_69, List.forall_mem_cons.mpr ⟨ck_70, List.forall_mem_cons.mpr ⟨ck_71, List.forall_mem_cons.mpr ⟨ck_72, List.forall_mem_cons.mpr ⟨ck_73, List.forall_mem_cons.mpr ⟨ck_74, fun _ h => absurd h List.not_mem_nil⟩⟩⟩⟩⟩⟩⟩⟩⟩⟩⟩⟩⟩⟩⟩⟩⟩⟩⟩⟩⟩⟩⟩⟩⟩
theorem ckc_75 : ∀ y ∈ [75, 76, 77, 78, 79, 80, 81, 82, 83, 84, 85, 86, 87, 88, 89, 90, 91, 92, 93, 94, 95, 96, 97, 98, 99], chkM y = true := List.forall_mem_cons.mpr ⟨ck_75, List.forall_mem_cons.mpr ⟨ck_76, List.forall_mem_cons.mpr ⟨ck_77, List.forall_mem_cons.mpr ⟨ck_78, List.forall_mem_cons.mpr ⟨ck_79, List.forall_mem_cons.mpr ⟨ck_80, List.forall_mem_cons.mpr ⟨ck_81, List.forall_mem_cons.mpr ⟨ck_82, List.forall_mem_cons.mpr ⟨ck_83, List.forall_mem_cons.mpr ⟨ck_84, List.forall_mem_cons.mpr ⟨ck_85, List.forall_mem_cons.mpr ⟨ck_86, List.forall_mem_cons.mpr ⟨ck_87, List.forall_mem_cons.mpr ⟨ck_88, List.forall_mem_cons.mpr ⟨ck_89, List.forall_mem_cons.mpr ⟨ck_90, List.forall_mem_cons.mpr ⟨ck_91, List.forall_mem_cons.mpr ⟨ck_92, List.forall_mem_cons.mpr ⟨ck_93, List.forall_mem_cons.mpr ⟨ck_94, List.forall_mem_cons.mpr ⟨ck_95, List.forall_mem_cons.mpr ⟨ck_96, List.forall_mem_cons.mpr ⟨ck_97, List.forall_mem_cons.mpr ⟨ck_98, List.forall_mem_cons.mpr ⟨ck_99, fun _ h => absurd h List.not_mem_nil⟩⟩⟩⟩⟩⟩⟩⟩⟩⟩⟩⟩⟩⟩⟩⟩⟩⟩⟩⟩⟩⟩⟩⟩⟩
theorem ckc_100 : ∀ y ∈ [100, 101, 102, 103, 104, 105, 106, 107, 108, 109, 110, 111, 112, 113, 114, 115, 116, 117, 118, 119, 120, 121, 122, 123, 124], chkM y = true := List.forall_mem_cons.mpr ⟨ck_100, List.forall_mem_cons.mpr ⟨ck_101, List.forall_mem_cons.mpr ⟨ck_102, List.forall_mem_cons.mpr ⟨ck_103, List.forall_mem_cons.mpr ⟨ck_104, List.forall_mem_cons.mpr ⟨ck_105, List.forall_mem_cons.mpr ⟨ck_106, List.forall_mem_cons.mpr ⟨ck_107, List.forall_mem_cons.mpr ⟨ck_108, List.forall_mem_cons.mpr ⟨ck_109, List.forall_mem_cons.mpr ⟨ck_110, List.forall_mem_cons.mpr ⟨ck_111, List.forall_mem_cons.mpr ⟨ck_112, List.forall_mem_cons.mpr ⟨ck_113, List.forall_mem_cons.mpr ⟨ck_114, List.forall_mem_cons.mpr ⟨ck_115, List.forall_mem_cons.mpr ⟨ck_116, List.forall_mem_cons.mpr ⟨ck_117, List.forall_mem_cons.mpr ⟨ck_118, List.forall_mem_cons.mpr ⟨ck_119, List.forall_mem_cons.mpr ⟨ck_120, List.forall_mem_cons.mpr ⟨ck_121, List.forall_mem_cons.mpr ⟨ck_122, List.forall_mem_cons.mpr ⟨ck_123, List.forall_mem_cons.mpr ⟨ck_124, fun _ h => absurd h List.not_mem_nil⟩⟩⟩⟩⟩⟩⟩⟩⟩⟩⟩⟩⟩⟩⟩⟩⟩⟩⟩⟩⟩⟩⟩⟩⟩
theorem ckc_125 : ∀ y ∈ [125, 126, 127, 128, 129, 130, 131, 132, 133, 134, 135, 136, 137, 138, 139, 140, 141, 142, 143, 144, 145, 146, 147, 148, 149], chkM y = true := List.forall_mem_cons.mpr ⟨ck_125, List.forall_mem_cons.mpr ⟨ck_126, List.forall_mem_cons.mpr ⟨ck_127, List.forall_mem_cons.mpr ⟨ck_128, List.forall_mem_cons.mpr ⟨ck_129, List.forall_mem_cons.mpr ⟨ck_130, List.forall_mem_cons.mpr ⟨ck_131, List.forall_mem_cons.mpr ⟨ck_132, List.forall_mem_cons.mpr ⟨ck_133, List.forall_mem_cons.mpr ⟨ck_134, List.forall_mem_cons.mpr ⟨ck_135, List.forall_mem_cons.mpr ⟨ck_136, List.forall_mem_cons.mpr ⟨ck_137, List.forall_mem_cons.mpr ⟨ck_138, List.forall_mem_cons.mpr ⟨ck_139, List.forall_mem_cons.mpr ⟨ck_140, List.forall_mem_cons.mpr ⟨ck_141, List.forall_mem_cons.mpr ⟨ck_142, List.forall_mem_cons.mpr ⟨ck_143, List.forall_mem_cons.mpr ⟨ck_144, List.forall_mem_cons.mpr ⟨ck_145, List.forall_mem_cons.mpr ⟨ck_146, List.forall_mem_cons.mpr ⟨ck_147, List.forall_mem_cons.mpr ⟨ck_148, List.forall_mem_cons.mpr ⟨ck_149, fun _ h => absurd h List.not_mem_nil⟩⟩⟩⟩⟩⟩⟩⟩⟩⟩⟩⟩⟩⟩⟩⟩⟩⟩⟩⟩⟩⟩⟩⟩⟩
theorem ckc_150 : ∀ y ∈ [150, 151, 152, 153, 154, 155, 156, 157, 158, 159, 160, 161, 162, 163, 164, 165, 166, 167, 168, 169, 170, 171, 172, 173, 174], chkM y = true := List.forall_mem_cons.mpr ⟨ck_150, List.forall_mem_cons.mpr ⟨ck_151, List.forall_mem_cons.mpr ⟨ck_152, List.forall_mem_cons.mpr ⟨ck_153, List.forall_mem_cons.mpr ⟨ck_154, List.forall_mem_cons.mpr ⟨ck_155, List.forall_mem_cons.mpr ⟨ck_156, List.forall_mem_cons.mpr ⟨ck_157, List.forall_mem_cons.mpr ⟨ck_158, List.forall_mem_cons.mpr ⟨ck_159, List.forall_mem_cons.mpr ⟨ck_160, List.forall_mem_cons.mpr ⟨ck_161, List.forall_mem_cons.mpr ⟨ck_162, List.forall_mem_cons.mpr ⟨ck_163, List.forall_mem_cons.mpr ⟨ck_164, List.forall_mem_cons.mpr ⟨ck_165, List.forall_mem_cons.mpr ⟨ck_166, List.forall_mem_cons.mpr ⟨ck_167, List.forall_mem_cons.mpr ⟨ck_168, List.forall_mem_cons.mpr ⟨ck_169, List.forall_mem_cons.mpr ⟨ck_170, List.forall_mem_cons.mpr ⟨ck_171, List.forall_mem_cons.mpr ⟨ck_172, List.forall_mem_cons.mpr ⟨ck_173, List.forall_mem_cons.mpr ⟨ck_174, fun _ h => absurd h List.not_mem_nil⟩⟩⟩⟩⟩⟩⟩⟩⟩⟩⟩⟩⟩⟩⟩⟩⟩⟩⟩⟩⟩⟩⟩⟩⟩
theorem ckc_175 : ∀ y ∈ [175, 176, 177, 178, 179, 180, 181, 182, 183, 184, 185, 186, 187, 188, 189, 190, 191, 192, 193, 194, 195, 196, 197, 198, 199], chkM y = true := List.forall_mem_cons.mpr ⟨ck_175, List.forall_mem_cons.mpr ⟨ck_176, List.forall_mem_cons.mpr ⟨ck_177, List.forall_mem_cons.mpr ⟨ck_178, List.forall_mem_cons.mpr ⟨ck_179, List.forall_mem_cons.mpr ⟨ck_180, List.forall_mem_cons.mpr ⟨ck_181, List.forall_mem_cons.mpr ⟨ck_182, List.forall_mem_cons.mpr ⟨ck_183, List.forall_mem_cons.mpr ⟨ck_184, List.forall_mem_cons.mpr ⟨ck_185, List.forall_mem_cons.mpr ⟨ck_186, List.forall_mem_cons.mpr ⟨ck_187, List.forall_mem_cons.mpr ⟨ck_188, List.forall_mem_cons.mpr ⟨ck_189, List.forall_mem_cons.mpr ⟨ck_190, List.forall_mem_cons.mpr ⟨ck_191, List.forall_mem_cons.mpr ⟨ck_192, List.forall_mem_cons.mpr ⟨ck_193, List.forall_mem_cons.mpr ⟨ck_194, List.forall_mem_cons.mpr ⟨ck_195, List.forall_mem_cons.mpr ⟨ck_196, List.forall_mem_cons.mpr ⟨ck_197, List.forall_mem_cons.mpr ⟨ck_198, List.forall_mem_cons.mpr ⟨ck_199, fun _ h => absurd h List.not_mem_nil⟩⟩⟩⟩⟩⟩⟩⟩⟩⟩⟩⟩⟩⟩⟩⟩⟩⟩⟩⟩⟩⟩⟩⟩⟩
theorem ckc_200 : ∀ y ∈ [200, 201, 202, 203, 204, 205, 206, 207, 208, 209, 210, 211, 212, 213, 214, 215, 216, 217, 218, 219, 220, 221, 222, 223, 224], chkM y = true := List.forall_mem_cons.mpr ⟨ck_200, List.forall_mem_cons.mpr ⟨ck_201, List.forall_mem_cons.mpr ⟨ck_202, List.forall_mem_cons.mpr ⟨ck_203, List.forall_mem_cons.mpr ⟨ck_204, List.forall_mem_cons.mpr ⟨ck_205, List.forall_mem_cons.mpr ⟨ck_206, List.forall_mem_cons.mpr ⟨ck_207, List.forall_mem_cons.mpr ⟨ck_208, List.forall_mem_cons.mpr ⟨ck_209, List.forall_mem_cons.mpr ⟨ck_210, List.forall_mem_cons.mpr ⟨ck_211, List.forall_mem_cons.mpr ⟨ck_212, List.forall_mem_cons.mpr ⟨ck_213, List.forall_mem_cons.mpr ⟨ck_214, List.forall_mem_cons.mpr ⟨ck_215, List.forall_mem_cons.mpr ⟨ck_216, List.forall_mem_cons.mpr ⟨ck_217, List.forall_mem_cons.mpr ⟨ck_218, List.forall_mem_cons.mpr ⟨ck_219, List.forall_mem_cons.mpr ⟨ck_220, List.forall_mem_cons.mpr ⟨ck_221, List.forall_mem_cons.mpr ⟨ck_222, List.forall_mem_cons.mpr ⟨ck_223, List.forall_mem_cons.mpr ⟨ck_224, fun _ h => absurd h List.not_mem_nil⟩⟩⟩⟩⟩⟩⟩⟩⟩⟩⟩⟩⟩⟩⟩⟩⟩⟩⟩⟩⟩⟩⟩⟩⟩
theorem ckc_225 : ∀ y ∈ [225, 226, 227, 228, 229, 230, 231, 232, 233, 234, 235, 236, 237, 238, 239, 240, 241, 242, 243, 244, 245, 246, 247, 248, 249], chkM y = true := List.forall_mem_cons.mpr ⟨ck_225, List.forall_mem_cons.mpr ⟨ck_226, List.forall_mem_cons.mpr ⟨ck_227, List.forall_mem_cons.mpr ⟨ck_228, List.forall_mem_cons.mpr ⟨ck_229, List.forall_mem_cons.mpr ⟨ck_230, List.forall_mem_cons.mpr ⟨ck_231, List.forall_mem_cons.mpr ⟨ck_232, List.forall_mem_cons.mpr ⟨ck_233, List.forall_mem_cons.mpr ⟨ck_234, List.forall_mem_cons.mpr ⟨ck_235, List.forall_mem_cons.mpr ⟨ck_236, List.forall_mem_cons.mpr ⟨ck_237, List.forall_mem_cons.mpr ⟨ck_238, List.forall_mem_cons.mpr ⟨ck_239, List.forall_mem_cons.mpr ⟨ck_240, List.forall_mem_cons.mpr ⟨ck_241, List.forall_mem_cons.mpr ⟨ck_242, List.forall_mem_cons.mpr ⟨ck_243, List.forall_mem_cons.mpr ⟨ck_244, List.forall_mem_cons.mpr ⟨ck_245, List.forall_mem_cons.mpr ⟨ck_246, List.forall_mem_cons.mpr ⟨ck_247, List.forall_mem_cons.mpr ⟨ck_248, List.forall_mem_cons.mpr ⟨ck_249, fun _ h => absurd h List.not_mem_nil⟩⟩⟩⟩⟩⟩⟩⟩⟩⟩⟩⟩⟩⟩⟩⟩⟩⟩⟩⟩⟩⟩⟩⟩⟩
theorem ckc_250 : ∀ y ∈ [250, 251, 252, 253, 254, 255, 256, 257, 258, 259, 260, 261, 262, 263, 264, 265, 266, 267, 268, 269, 270, 271, 272, 273, 274], chkM y = true := List.forall_mem_cons.mpr ⟨ck_250, List.forall_mem_cons.mpr ⟨ck_251, List.forall_mem_cons.mpr ⟨ck_252, List.forall_mem_cons.mpr ⟨ck_253, List.forall_mem_cons.mpr ⟨ck_254, List.forall_mem_cons.mpr ⟨ck_255, List.forall_mem_cons.mpr ⟨ck_256, List.forall_mem_cons.mpr ⟨ck_257, List.forall_mem_cons.mpr ⟨ck_258, List.forall_mem_cons.mpr ⟨ck_259, List.forall_mem_cons.mpr ⟨ck_260, List.forall_mem_cons.mpr ⟨ck_261, List.forall_mem_cons.mpr ⟨ck_262, List.forall_mem_cons.mpr ⟨ck_263, List.forall_mem_cons.mpr ⟨ck_264, List.forall_mem_cons.mpr ⟨ck_265, List.forall_mem_cons.mpr ⟨ck_266, List.forall_mem_cons.mpr ⟨ck_267, List.forall_mem_cons.mpr ⟨ck_268, List.forall_mem_cons.mpr ⟨ck_269, List.forall_mem_cons.mpr ⟨ck_270, List.forall_mem_cons.mpr ⟨ck_271, List.forall_mem_cons.mpr ⟨ck_272, List.forall_mem_cons.mpr ⟨ck_273, List.forall_mem_cons.mpr ⟨ck_274, fun _ h => absurd h List.not_mem_nil⟩⟩⟩⟩⟩⟩⟩⟩⟩⟩⟩⟩⟩⟩⟩⟩⟩⟩⟩⟩⟩⟩⟩⟩⟩
theorem ckc_275 : ∀ y ∈ [275, 276, 277, 278, 279, 280, 281, 282, 283, 284, 285, 286, 287, 288, 289, 290, 291, 292, 293, 294, 295, 296, 297, 298, 299], chkM y = true := List.forall_mem_cons.mpr ⟨ck_275, List.forall_mem_cons.mpr ⟨ck_276, List.forall_mem_cons.mpr ⟨ck_277, List.forall_mem_cons.mpr ⟨ck_278, List.forall_mem_cons.mpr ⟨ck_279, List.forall_mem_cons.mpr ⟨ck_280, List.forall_mem_cons.mpr ⟨ck_281, List.forall_mem_cons.mpr ⟨ck_282, List.forall_mem_cons.mpr ⟨ck_283, List.forall_mem_cons.mpr ⟨ck_284, List.forall_mem_cons.mpr ⟨ck_285, List.forall_mem_cons.mpr ⟨ck_286, List.forall_mem_cons.mpr ⟨ck_287, List.forall_mem_cons.mpr ⟨ck_288, List.forall_mem_cons.mpr ⟨ck_289, List.forall_mem_cons.mpr ⟨ck_290, List.forall_mem_cons.mpr ⟨ck_291, List.forall_mem_cons.mpr ⟨ck_292, List.forall_mem_cons.mpr ⟨ck_293, List.forall_mem_cons.mpr ⟨ck_294, List.forall_mem_cons.mpr ⟨ck_295, List.forall_mem_cons.mpr ⟨ck_296, List.forall_mem_cons.mpr ⟨ck_297, List.forall_mem_cons.mpr ⟨ck_298, List.forall_mem_cons.mpr ⟨ck_299, fun _ h => absurd h List.not_mem_nil⟩⟩⟩⟩⟩⟩⟩⟩⟩⟩⟩⟩⟩⟩⟩⟩⟩⟩⟩⟩⟩⟩⟩⟩⟩
theorem ckc_300 : ∀ y ∈ [300, 301, 302], chkM y = true := List.forall_mem_cons.mpr ⟨ck_300, List.forall_mem_cons.mpr ⟨ck_301, List.forall_mem_cons.mpr ⟨ck_302, fun _ h => absurd h List.not_mem_nil⟩⟩⟩
theorem ckAll : ∀ y, y < 303 → chkM y = true := by
  intro y h
  by_cases h0 : y < 25
  · exact ckc_0 y (by
      have := List.mem_range'_1 (m := y) (s := 0) (n := 25) |>.mpr ⟨by omega, by omega⟩
      exact this)
  by_cases h25 : y < 50
  · exact ckc_25 y (by
      have := List.mem_range'_1 (m := y) (s := 25) (n := 25) |>.mpr ⟨by omega, by omega⟩
      exact this)
  by_cases h50 : y < 75
  · exact ckc_50 y (by
      have := List.mem_range'_1 (m := y) (s := 50) (n := 25) |>.mpr ⟨by omega, by omega⟩
      exact this)
  by_cases h75 : y < 100
  · exact ckc_75 y (by
      have := List.mem_range'_1 (m := y) (s := 75) (n := 25) |>.mpr ⟨by omega, by omega⟩
      exact this)
  by_cases h100 : y < 125
  · exact ckc_100 y (by
      have := List.mem_range'_1 (m := y) (s := 100) (n := 25) |>.mpr ⟨by omega, by omega⟩
      exact this)
  by_cases h125 : y < 150
  · exact ckc_125 y (by
      have := List.mem_range'_1 (m := y) (s := 125) (n := 25) |>.mpr ⟨by omega, by omega⟩
      exact this)
  by_cases h150 : y < 175
  · exact ckc_150 y (by
      have := List.mem_range'_1 (m := y) (s := 150) (n := 25) |>.mpr ⟨by omega, by omega⟩
      exact this)
  by_cases h175 : y < 200
  · exact ckc_175 y (by
      have := List.mem_range'_1 (m := y) (s := 175) (n := 25) |>.mpr ⟨by omega, by omega⟩
      exact this)
  by_cases h200 : y < 225
  · exact ckc_200 y (by
      have := List.mem_range'_1 (m := y) (s := 200) (n := 25) |>.mpr ⟨by omega, by omega⟩
      exact this)
  by_cases h225 : y < 250
  · exact ckc_225 y (by
      have := List.mem_range'_1 (m := y) (s := 225) (n := 25) |>.mpr ⟨by omega, by omega⟩
      exact this)
  by_cases h250 : y < 275
  · exact ckc_250 y (by
      have := List.mem_range'_1 (m := y) (s := 250) (n := 25) |>.mpr ⟨by omega, by omega⟩
      exact this)
  by_cases h275 : y < 300
  · exact ckc_275 y (by
      have := List.mem_range'_1 (m := y) (s := 275) (n := 25) |>.mpr ⟨by omega, by omega⟩
      exact this)
  by_cases h300 : y < 303
  · exact ckc_300 y (by
      have := List.mem_range'_1 (m := y) (s := 300) (n := 3) |>.mpr ⟨by omega, by omega⟩
      exact this)
  omega
theorem chkL_at (z : Nat) (bs : ByteArray) (os : List Nat) (wl : List RI) : ∀ (cs : List RI) (i : Nat), chkL z bs os wl i cs = true → ∀ (j : Nat) (ri : RI), cs[j]? = some ri → (ri.1 = 99 ∨ (decode bs (os.getD (i + j) 0) = .ok (toIns os (i + j) ri) ∧ okR z ri = true ∧ (hasW ri = true → ri ∈ wl))) ∧ os.getD (i + j + 1) 0 = os.getD (i + j) 0 + (toIns os (i + j) ri).2
  | [], i, _, j, ri, h => by simp at h
  | x :: r, i, hc, j, ri, h => by
    simp only [chkL, Bool.and_eq_true, Bool.or_eq_true, beq_iff_eq, decide_eq_true_eq, Bool.not_eq_true'] at hc
    cases j with
    | zero =>
      rw [List.getElem?_cons_zero] at h
      cases h
      refine ⟨?_, hc.1.2⟩
      rcases hc.1.1 with h9 | ⟨⟨h1, h2⟩, h3⟩
      · exact Or.inl h9
      · refine Or.inr ⟨h1, h2, fun hw => ?_⟩
        rcases h3 with h3 | h3
        · rw [h3] at hw; cases hw
        · exact List.elem_iff.mp h3
    | succ j =>
      rw [List.getElem?_cons_succ] at h
      have := chkL_at z bs os wl r (i + 1) hc.2 j ri h
      rw [show i + 1 + j = i + (j + 1) by omega] at this
      exact this
theorem wl_all {own : String} {wl : List RI} {is : List Nat} (h : (wl.zip is).all (fun q => match wordOf own q.1 with | some w => decide (lw_tbl[q.2]? = some w) | none => false) = true) (hl : wl.length = is.length) : ∀ ri ∈ wl, ∃ w ∈ lw_tbl, wordOf own ri = some w := by
  intro ri hri
  obtain ⟨j, hj⟩ := List.getElem?_of_mem hri
  have hjl : j < is.length := by rw [← hl]; exact (List.getElem?_eq_some_iff.mp hj).1
  have hz : (wl.zip is)[j]? = some (ri, is[j]) := by
    rw [List.getElem?_zip_eq_some]
    exact ⟨hj, List.getElem?_eq_getElem hjl⟩
  have := List.all_eq_true.mp h _ (List.mem_of_getElem? hz)
  cases hw : wordOf own ri with
  | none => simp [hw] at this
  | some w =>
    simp only [hw, decide_eq_true_eq] at this
    exact ⟨w, List.mem_of_getElem? this, rfl⟩
theorem wlm_0 : ∀ ri ∈ wl_0, ∃ w ∈ lw_tbl, wordOf "ShownNot$Boxes" ri = some w := wl_all wl_0_ok rfl
theorem wlm_1 : ∀ ri ∈ wl_1, ∃ w ∈ lw_tbl, wordOf "ShownNot$Chart" ri = some w := wl_all wl_1_ok rfl
theorem wlm_2 : ∀ ri ∈ wl_2, ∃ w ∈ lw_tbl, wordOf "ShownNot$JudgeCode" ri = some w := wl_all wl_2_ok rfl
theorem wlm_3 : ∀ ri ∈ wl_3, ∃ w ∈ lw_tbl, wordOf "ShownNot$Lock" ri = some w := wl_all wl_3_ok rfl
theorem wlm_4 : ∀ ri ∈ wl_4, ∃ w ∈ lw_tbl, wordOf "ShownNot$Play" ri = some w := wl_all wl_4_ok rfl
theorem wlm_5 : ∀ ri ∈ wl_5, ∃ w ∈ lw_tbl, wordOf "ShownNot$Power" ri = some w := wl_all wl_5_ok rfl
theorem wlm_6 : ∀ ri ∈ wl_6, ∃ w ∈ lw_tbl, wordOf "ShownNot$Reader" ri = some w := wl_all wl_6_ok rfl
theorem wlm_7 : ∀ ri ∈ wl_7, ∃ w ∈ lw_tbl, wordOf "ShownNot$Riddle" ri = some w := wl_all wl_7_ok rfl
theorem wlm_8 : ∀ ri ∈ wl_8, ∃ w ∈ lw_tbl, wordOf "ShownNot$Showing" ri = some w := wl_all wl_8_ok rfl
theorem wlm_9 : ∀ ri ∈ wl_9, ∃ w ∈ lw_tbl, wordOf "ShownNot$Sightings" ri = some w := wl_all wl_9_ok rfl
theorem wlm_10 : ∀ ri ∈ wl_10, ∃ w ∈ lw_tbl, wordOf "ShownNot$State" ri = some w := wl_all wl_10_ok rfl
theorem wlm_11 : ∀ ri ∈ wl_11, ∃ w ∈ lw_tbl, wordOf "ShownNot" ri = some w := wl_all wl_11_ok rfl
theorem wlm_12 : ∀ ri ∈ wl_12, ∃ w ∈ lw_tbl, wordOf "ShownNotModel" ri = some w := wl_all wl_12_ok rfl
theorem wlm_13 : ∀ ri ∈ wl_13, ∃ w ∈ lw_tbl, wordOf "java/lang/Integer" ri = some w := wl_all wl_13_ok rfl
theorem wlm_14 : ∀ ri ∈ wl_14, ∃ w ∈ lw_tbl, wordOf "java/lang/String" ri = some w := wl_all wl_14_ok rfl
theorem wlm_15 : ∀ ri ∈ wl_15, ∃ w ∈ lw_tbl, wordOf "java/lang/StringLatin1" ri = some w := wl_all wl_15_ok rfl
theorem wlm_16 : ∀ ri ∈ wl_16, ∃ w ∈ lw_tbl, wordOf "ShownNotLaw" ri = some w := wl_all wl_16_ok rfl
theorem wlT_ok : ∀ q ∈ wlT, ∀ ri ∈ q.2, ∃ w ∈ lw_tbl, wordOf q.1 ri = some w := List.forall_mem_cons.mpr ⟨wlm_0, List.forall_mem_cons.mpr ⟨wlm_1, List.forall_mem_cons.mpr ⟨wlm_2, List.forall_mem_cons.mpr ⟨wlm_3, List.forall_mem_cons.mpr ⟨wlm_4, List.forall_mem_cons.mpr ⟨wlm_5, List.forall_mem_cons.mpr ⟨wlm_6, List.forall_mem_cons.mpr ⟨wlm_7, List.forall_mem_cons.mpr ⟨wlm_8, List.forall_mem_cons.mpr ⟨wlm_9, List.forall_mem_cons.mpr ⟨wlm_10, List.forall_mem_cons.mpr ⟨wlm_11, List.forall_mem_cons.mpr ⟨wlm_12, List.forall_mem_cons.mpr ⟨wlm_13, List.forall_mem_cons.mpr ⟨wlm_14, List.forall_mem_cons.mpr ⟨wlm_15, List.forall_mem_cons.mpr ⟨wlm_16, fun _ h => absurd h List.not_mem_nil⟩⟩⟩⟩⟩⟩⟩⟩⟩⟩⟩⟩⟩⟩⟩⟩⟩
theorem wlOf_ok {own : String} {ri : RI} (h : ri ∈ wlOf own) : ∃ w ∈ lw_tbl, wordOf own ri = some w := by
  unfold wlOf at h
  split at h
  · rename_i q hq
    have h1 := List.find?_some hq
    have h2 := List.mem_of_find?_eq_some hq
    have e : q.1 = own := by simpa using h1
    rw [← e]
    exact wlT_ok q h2 ri h
  · exact absurd h List.not_mem_nil
theorem codeT_len : codeT.length = 303 := by decide +kernel
theorem cd_lt {y pc : Nat} {ri : RI} (h : cdAt y pc = some ri) : y < 303 := by
  by_cases hy : y < 303
  · exact hy
  · have : codeT[y]? = none := List.getElem?_eq_none (by show codeT.length ≤ y; have := codeT_len; omega)
    unfold cdAt at h
    rw [this] at h
    simp at h
/-- what is known at a place of a method -/
theorem at_ok {y pc : Nat} {ri : RI} (h : cdAt y pc = some ri) (h9 : ri.1 ≠ 99) : decode (mByt y) (mOff y pc) = .ok (toIns ((offT[y]?).getD []) pc ri) ∧ okR y ri = true ∧ (hasW ri = true → ∃ w ∈ lw_tbl, wordOf (mName y).cls ri = some w) ∧ mOff y (pc + 1) = mOff y pc + (toIns ((offT[y]?).getD []) pc ri).2 := by
  have hc := ckAll y (cd_lt h)
  unfold chkM at hc
  have h1 := chkL_at y (mByt y) ((offT[y]?).getD []) (wlOf (mName y).cls) ((codeT[y]?).getD []) 0 hc pc ri h
  rw [Nat.zero_add] at h1
  obtain ⟨h2, h3⟩ := h1
  rcases h2 with h2 | ⟨h4, h5, h6⟩
  · exact absurd h2 h9
  · exact ⟨h4, h5, fun hw => wlOf_ok (h6 hw), h3⟩
