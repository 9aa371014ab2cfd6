/-! the law's blocks against its bytes; all together -/
set_option maxRecDepth 100000 in
theorem zk_254_0 : zchkB 254 (zblk 254 0) (zpcs 254 0) (0 + 1) = true := by decide +kernel
set_option maxRecDepth 100000 in
theorem zk_254_1 : zchkB 254 (zblk 254 1) (zpcs 254 1) (1 + 1) = true := by decide +kernel
set_option maxRecDepth 100000 in
theorem zk_254_2 : zchkB 254 (zblk 254 2) (zpcs 254 2) (2 + 1) = true := by decide +kernel
set_option maxRecDepth 100000 in
theorem zk_254_3 : zchkB 254 (zblk 254 3) (zpcs 254 3) (3 + 1) = true := by decide +kernel
set_option maxRecDepth 100000 in
theorem zk_254_4 : zchkB 254 (zblk 254 4) (zpcs 254 4) (4 + 1) = true := by decide +kernel
set_option maxRecDepth 100000 in
theorem zk_254_5 : zchkB 254 (zblk 254 5) (zpcs 254 5) (5 + 1) = true := by decide +kernel
set_option maxRecDepth 100000 in
theorem zk_254_6 : zchkB 254 (zblk 254 6) (zpcs 254 6) (6 + 1) = true := by decide +kernel
set_option maxRecDepth 100000 in
theorem zk_254_7 : zchkB 254 (zblk 254 7) (zpcs 254 7) (7 + 1) = true := by decide +kernel
set_option maxRecDepth 100000 in
theorem zk_254_8 : zchkB 254 (zblk 254 8) (zpcs 254 8) (8 + 1) = true := by decide +kernel
set_option maxRecDepth 100000 in
theorem zk_254_9 : zchkB 254 (zblk 254 9) (zpcs 254 9) (9 + 1) = true := by decide +kernel
set_option maxRecDepth 100000 in
theorem zk_254_10 : zchkB 254 (zblk 254 10) (zpcs 254 10) (10 + 1) = true := by decide +kernel
set_option maxRecDepth 100000 in
theorem zk_254_11 : zchkB 254 (zblk 254 11) (zpcs 254 11) (11 + 1) = true := by decide +kernel
set_option maxRecDepth 100000 in
theorem zk_254_12 : zchkB 254 (zblk 254 12) (zpcs 254 12) (12 + 1) = true := by decide +kernel
set_option maxRecDepth 100000 in
theorem zk_254_13 : zchkB 254 (zblk 254 13) (zpcs 254 13) (13 + 1) = true := by decide +kernel
set_option maxRecDepth 100000 in
theorem zk_254_14 : zchkB 254 (zblk 254 14) (zpcs 254 14) (14 + 1) = true := by decide +kernel
set_option maxRecDepth 100000 in
theorem zk_254_15 : zchkB 254 (zblk 254 15) (zpcs 254 15) (15 + 1) = true := by decide +kernel
set_option maxRecDepth 100000 in
theorem zk_254_16 : zchkB 254 (zblk 254 16) (zpcs 254 16) (16 + 1) = true := by decide +kernel
set_option maxRecDepth 100000 in
theorem zk_254_17 : zchkB 254 (zblk 254 17) (zpcs 254 17) (17 + 1) = true := by decide +kernel
set_option maxRecDepth 100000 in
theorem zk_254_18 : zchkB 254 (zblk 254 18) (zpcs 254 18) (18 + 1) = true := by decide +kernel
set_option maxRecDepth 100000 in
theorem zk_254_19 : zchkB 254 (zblk 254 19) (zpcs 254 19) (19 + 1) = true := by decide +kernel
set_option maxRecDepth 100000 in
theorem zk_254_20 : zchkB 254 (zblk 254 20) (zpcs 254 20) (20 + 1) = true := by decide +kernel
set_option maxRecDepth 100000 in
theorem zk_254_21 : zchkB 254 (zblk 254 21) (zpcs 254 21) (21 + 1) = true := by decide +kernel
set_option maxRecDepth 100000 in
theorem zk_254_22 : zchkB 254 (zblk 254 22) (zpcs 254 22) (22 + 1) = true := by decide +kernel
set_option maxRecDepth 100000 in
theorem zk_254_23 : zchkB 254 (zblk 254 23) (zpcs 254 23) (23 + 1) = true := by decide +kernel
set_option maxRecDepth 100000 in
theorem zk_254_24 : zchkB 254 (zblk 254 24) (zpcs 254 24) (24 + 1) = true := by decide +kernel
set_option maxRecDepth 100000 in
theorem zk_254_25 : zchkB 254 (zblk 254 25) (zpcs 254 25) (25 + 1) = true := by decide +kernel
set_option maxRecDepth 100000 in
theorem zk_254_26 : zchkB 254 (zblk 254 26) (zpcs 254 26) (26 + 1) = true := by decide +kernel
set_option maxRecDepth 100000 in
theorem zk_254_27 : zchkB 254 (zblk 254 27) (zpcs 254 27) (27 + 1) = true := by decide +kernel
set_option maxRecDepth 100000 in
theorem zk_254_28 : zchkB 254 (zblk 254 28) (zpcs 254 28) (28 + 1) = true := by decide +kernel
set_option maxRecDepth 100000 in
theorem zk_254_29 : zchkB 254 (zblk 254 29) (zpcs 254 29) (29 + 1) = true := by decide +kernel
set_option maxRecDepth 100000 in
theorem zk_254_30 : zchkB 254 (zblk 254 30) (zpcs 254 30) (30 + 1) = true := by decide +kernel
set_option maxRecDepth 100000 in
theorem zk_254_31 : zchkB 254 (zblk 254 31) (zpcs 254 31) (31 + 1) = true := by decide +kernel
set_option maxRecDepth 100000 in
theorem zk_254_32 : zchkB 254 (zblk 254 32) (zpcs 254 32) (32 + 1) = true := by decide +kernel
set_option maxRecDepth 100000 in
theorem zk_254_33 : zchkB 254 (zblk 254 33) (zpcs 254 33) (33 + 1) = true := by decide +kernel
set_option maxRecDepth 100000 in
theorem zk_254_34 : zchkB 254 (zblk 254 34) (zpcs 254 34) (34 + 1) = true := by decide +kernel
set_option maxRecDepth 100000 in
theorem zk_254_35 : zchkB 254 (zblk 254 35) (zpcs 254 35) (35 + 1) = true := by decide +kernel
set_option maxRecDepth 100000 in
theorem zk_254_36 : zchkB 254 (zblk 254 36) (zpcs 254 36) (36 + 1) = true := by decide +kernel
set_option maxRecDepth 100000 in
theorem zk_254_37 : zchkB 254 (zblk 254 37) (zpcs 254 37) (37 + 1) = true := by decide +kernel
set_option maxRecDepth 100000 in
theorem zk_254_38 : zchkB 254 (zblk 254 38) (zpcs 254 38) (38 + 1) = true := by decide +kernel
set_option maxRecDepth 100000 in
theorem zk_254_39 : zchkB 254 (zblk 254 39) (zpcs 254 39) (39 + 1) = true := by decide +kernel
set_option maxRecDepth 100000 in
theorem zk_254_40 : zchkB 254 (zblk 254 40) (zpcs 254 40) (40 + 1) = true := by decide +kernel
set_option maxRecDepth 100000 in
theorem zk_254_41 : zchkB 254 (zblk 254 41) (zpcs 254 41) (41 + 1) = true := by decide +kernel
set_option maxRecDepth 100000 in
theorem zk_254_42 : zchkB 254 (zblk 254 42) (zpcs 254 42) (42 + 1) = true := by decide +kernel
set_option maxRecDepth 100000 in
theorem zk_254_43 : zchkB 254 (zblk 254 43) (zpcs 254 43) (43 + 1) = true := by decide +kernel
set_option maxRecDepth 100000 in
theorem zk_254_44 : zchkB 254 (zblk 254 44) (zpcs 254 44) (44 + 1) = true := by decide +kernel
set_option maxRecDepth 100000 in
theorem zk_254_45 : zchkB 254 (zblk 254 45) (zpcs 254 45) (45 + 1) = true := by decide +kernel
set_option maxRecDepth 100000 in
theorem zk_254_46 : zchkB 254 (zblk 254 46) (zpcs 254 46) (46 + 1) = true := by decide +kernel
set_option maxRecDepth 100000 in
theorem zk_254_47 : zchkB 254 (zblk 254 47) (zpcs 254 47) (47 + 1) = true := by decide +kernel
set_option maxRecDepth 100000 in
theorem zk_254_48 : zchkB 254 (zblk 254 48) (zpcs 254 48) (48 + 1) = true := by decide +kernel
set_option maxRecDepth 100000 in
theorem zk_254_49 : zchkB 254 (zblk 254 49) (zpcs 254 49) (49 + 1) = true := by decide +kernel
set_option maxRecDepth 100000 in
theorem zk_254_50 : zchkB 254 (zblk 254 50) (zpcs 254 50) (50 + 1) = true := by decide +kernel
set_option maxRecDepth 100000 in
theorem zk_254_51 : zchkB 254 (zblk 254 51) (zpcs 254 51) (51 + 1) = true := by decide +kernel
set_option maxRecDepth 100000 in
theorem zk_254_52 : zchkB 254 (zblk 254 52) (zpcs 254 52) (52 + 1) = true := by decide +kernel
set_option maxRecDepth 100000 in
theorem zk_254_53 : zchkB 254 (zblk 254 53) (zpcs 254 53) (53 + 1) = true := by decide +kernel
set_option maxRecDepth 100000 in
theorem zk_254_54 : zchkB 254 (zblk 254 54) (zpcs 254 54) (54 + 1) = true := by decide +kernel
set_option maxRecDepth 100000 in
theorem zk_254_55 : zchkB 254 (zblk 254 55) (zpcs 254 55) (55 + 1) = true := by decide +kernel
set_option maxRecDepth 100000 in
theorem zk_254_56 : zchkB 254 (zblk 254 56) (zpcs 254 56) (56 + 1) = true := by decide +kernel
set_option maxRecDepth 100000 in
theorem zk_254_all : ∀ b, b < 57 → zchkB 254 (zblk 254 b) (zpcs 254 b) (b + 1) = true := lt_s (lt_s (lt_s (lt_s (lt_s (lt_s (lt_s (lt_s (lt_s (lt_s (lt_s (lt_s (lt_s (lt_s (lt_s (lt_s (lt_s (lt_s (lt_s (lt_s (lt_s (lt_s (lt_s (lt_s (lt_s (lt_s (lt_s (lt_s (lt_s (lt_s (lt_s (lt_s (lt_s (lt_s (lt_s (lt_s (lt_s (lt_s (lt_s (lt_s (lt_s (lt_s (lt_s (lt_s (lt_s (lt_s (lt_s (lt_s (lt_s (lt_s (lt_s (lt_s (lt_s (lt_s (lt_s (lt_s (lt_s (lt_0) zk_254_0) zk_254_1) zk_254_2) zk_254_3) zk_254_4) zk_254_5) zk_254_6) zk_254_7) zk_254_8) zk_254_9) zk_254_10) zk_254_11) zk_254_12) zk_254_13) zk_254_14) zk_254_15) zk_254_16) zk_254_17) zk_254_18) zk_254_19) zk_254_20) zk_254_21) zk_254_22) zk_254_23) zk_254_24) zk_254_25) zk_254_26) zk_254_27) zk_254_28) zk_254_29) zk_254_30) zk_254_31) zk_254_32) zk_254_33) zk_254_34) zk_254_35) zk_254_36) zk_254_37) zk_254_38) zk_254_39) zk_254_40) zk_254_41) zk_254_42) zk_254_43) zk_254_44) zk_254_45) zk_254_46) zk_254_47) zk_254_48) zk_254_49) zk_254_50) zk_254_51) zk_254_52) zk_254_53) zk_254_54) zk_254_55) zk_254_56
theorem zk_254_len : (zM 254).1.length = 57 := by decide +kernel
theorem zk_254 : zchkM 254 = true := List.all_eq_true.mpr (fun b hb => zk_254_all b (by rw [← zk_254_len]; exact List.mem_range.mp hb))
theorem zMT_len : zMT.length ≤ 255 := by decide +kernel
theorem zk_out : ∀ k, 255 ≤ k → zchkM k = true := fun k h => by
  have e : zM k = ([], 0) := by
    unfold zM
    rw [List.getElem?_eq_none (Nat.le_trans zMT_len h)]
    rfl
  unfold zchkM
  rw [e]
  rfl
set_option maxRecDepth 100000 in
theorem zk_in : ∀ j, j < 255 → zchkM j = true := lt_s (lt_s (lt_s (lt_s (lt_s (lt_s (lt_s (lt_s (lt_s (lt_s (lt_s (lt_s (lt_s (lt_s (lt_s (lt_s (lt_s (lt_s (lt_s (lt_s (lt_s (lt_s (lt_s (lt_s (lt_s (lt_s (lt_s (lt_s (lt_s (lt_s (lt_s (lt_s (lt_s (lt_s (lt_s (lt_s (lt_s (lt_s (lt_s (lt_s (lt_s (lt_s (lt_s (lt_s (lt_s (lt_s (lt_s (lt_s (lt_s (lt_s (lt_s (lt_s (lt_s (lt_s (lt_s (lt_s (lt_s (lt_s (lt_s (lt_s (lt_s (lt_s (lt_s (lt_s (lt_s (lt_s (lt_s (lt_s (lt_s (lt_s (lt_s (lt_s (lt_s (lt_s (lt_s (lt_s (lt_s (lt_s (lt_s (lt_s (lt_s (lt_s (lt_s (lt_s (lt_s (lt_s (lt_s (lt_s (lt_s (lt_s (lt_s (lt_s (lt_s (lt_s (lt_s (lt_s (lt_s (lt_s (lt_s (lt_s (lt_s (lt_s (lt_s (lt_s (lt_s (lt_s (lt_s (lt_s (lt_s (lt_s (lt_s (lt_s (lt_s (lt_s (lt_s (lt_s (lt_s (lt_s (lt_s (lt_s (lt_s (lt_s (lt_s (lt_s (lt_s (lt_s (lt_s (lt_s (lt_s (lt_s (lt_s (lt_s (lt_s (lt_s (lt_s (lt_s (lt_s (lt_s (lt_s (lt_s (lt_s (lt_s (lt_s (lt_s (lt_s (lt_s (lt_s (lt_s (lt_s (lt_s (lt_s (lt_s (lt_s (lt_s (lt_s (lt_s (lt_s (lt_s (lt_s (lt_s (lt_s (lt_s (lt_s (lt_s (lt_s (lt_s (lt_s (lt_s (lt_s (lt_s (lt_s (lt_s (lt_s (lt_s (lt_s (lt_s (lt_s (lt_s (lt_s (lt_s (lt_s (lt_s (lt_s (lt_s (lt_s (lt_s (lt_s (lt_s (lt_s (lt_s (lt_s (lt_s (lt_s (lt_s (lt_s (lt_s (lt_s (lt_s (lt_s (lt_s (lt_s (lt_s (lt_s (lt_s (lt_s (lt_s (lt_s (lt_s (lt_s (lt_s (lt_s (lt_s (lt_s (lt_s (lt_s (lt_s (lt_s (lt_s (lt_s (lt_s (lt_s (lt_s (lt_s (lt_s (lt_s (lt_s (lt_s (lt_s (lt_s (lt_s (lt_s (lt_s (lt_s (lt_s (lt_s (lt_s (lt_s (lt_s (lt_s (lt_s (lt_s (lt_s (lt_s (lt_s (lt_s (lt_s (lt_s (lt_s (lt_s (lt_s (lt_s (lt_s (lt_s (lt_s (lt_s (lt_0) zk_0) zk_1) zk_2) zk_3) zk_4) zk_5) zk_6) zk_7) zk_8) zk_9) zk_10) zk_11) zk_12) zk_13) zk_14) zk_15) zk_16) zk_17) zk_18) zk_19) zk_20) zk_21) zk_22) zk_23) zk_24) zk_25) zk_26) zk_27) zk_28) zk_29) zk_30) zk_31) zk_32) zk_33) zk_34) zk_35) zk_36) zk_37) zk_38) zk_39) zk_40) zk_41) zk_42) zk_43) zk_44) zk_45) zk_46) zk_47) zk_48) zk_49) zk_50) zk_51) zk_52) zk_53) zk_54) zk_55) zk_56) zk_57) zk_58) zk_59) zk_60) zk_61) zk_62) zk_63) zk_64) zk_65) zk_66) zk_67) zk_68) zk_69) zk_70) zk_71) zk_72) zk_73) zk_74) zk_75) zk_76) zk_77) zk_78) zk_79) zk_80) zk_81) zk_82) zk_83) zk_84) zk_85) zk_86) zk_87) zk_88) zk_89) zk_90) zk_91) zk_92) zk_93) zk_94) zk_95) zk_96) zk_97) zk_98) zk_99) zk_100) zk_101) zk_102) zk_103) zk_104) zk_105) zk_106) zk_107) zk_108) zk_109) zk_110) zk_111) zk_112) zk_113) zk_114) zk_115) zk_116) zk_117) zk_118) zk_119) zk_120) zk_121) zk_122) zk_123) zk_124) zk_125) zk_126) zk_127) zk_128) zk_129) zk_130) zk_131) zk_132) zk_133) zk_134) zk_135) zk_136) zk_137) zk_138) zk_139) zk_140) zk_141) zk_142) zk_143) zk_144) zk_145) zk_146) zk_147) zk_148) zk_149) zk_150) zk_151) zk_152) zk_153) zk_154) zk_155) zk_156) zk_157) zk_158) zk_159) zk_160) zk_161) zk_162) zk_163) zk_164) zk_165) zk_166) zk_167) zk_168) zk_169) zk_170) zk_171) zk_172) zk_173) zk_174) zk_175) zk_176) zk_177) zk_178) zk_179) zk_180) zk_181) zk_182) zk_183) zk_184) zk_185) zk_186) zk_187) zk_188) zk_189) zk_190) zk_191) zk_192) zk_193) zk_194) zk_195) zk_196) zk_197) zk_198) zk_199) zk_200) zk_201) zk_202) zk_203) zk_204) zk_205) zk_206) zk_207) zk_208) zk_209) zk_210) zk_211) zk_212) zk_213) zk_214) zk_215) zk_216) zk_217) zk_218) zk_219) zk_220) zk_221) zk_222) zk_223) zk_224) zk_225) zk_226) zk_227) zk_228) zk_229) zk_230) zk_231) zk_232) zk_233) zk_234) zk_235) zk_236) zk_237) zk_238) zk_239) zk_240) zk_241) zk_242) zk_243) zk_244) zk_245) zk_246) zk_247) zk_248) zk_249) zk_250) zk_251) zk_252) zk_253) zk_254
theorem zk_all : ∀ k, zchkM k = true := fun k => by
  by_cases h : 255 ≤ k
  · exact zk_out k h
  · exact zk_in k (by omega)
set_option maxRecDepth 100000 in
theorem zk0 : ∀ k ∈ zvm ++ zsm, (zpcs k 0).headD 0 = 0 := by decide +kernel
