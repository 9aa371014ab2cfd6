/-! EVERY BLOCK AGAINST THE BYTES -/
set_option maxRecDepth 100000 in
theorem zk_0 : zchkM 0 = true := by decide +kernel
set_option maxRecDepth 100000 in
theorem zk_1 : zchkM 1 = true := by decide +kernel
set_option maxRecDepth 100000 in
theorem zk_2 : zchkM 2 = true := by decide +kernel
set_option maxRecDepth 100000 in
theorem zk_3 : zchkM 3 = true := by decide +kernel
set_option maxRecDepth 100000 in
theorem zk_4 : zchkM 4 = true := by decide +kernel
set_option maxRecDepth 100000 in
theorem zk_5 : zchkM 5 = true := by decide +kernel
set_option maxRecDepth 100000 in
theorem zk_6 : zchkM 6 = true := by decide +kernel
set_option maxRecDepth 100000 in
theorem zk_7 : zchkM 7 = true := by decide +kernel
set_option maxRecDepth 100000 in
theorem zk_8 : zchkM 8 = true := by decide +kernel
set_option maxRecDepth 100000 in
theorem zk_9 : zchkM 9 = true := by decide +kernel
set_option maxRecDepth 100000 in
theorem zk_10 : zchkM 10 = true := by decide +kernel
set_option maxRecDepth 100000 in
theorem zk_11 : zchkM 11 = true := by decide +kernel
set_option maxRecDepth 100000 in
theorem zk_12 : zchkM 12 = true := by decide +kernel
set_option maxRecDepth 100000 in
theorem zk_13 : zchkM 13 = true := by decide +kernel
set_option maxRecDepth 100000 in
theorem zk_14 : zchkM 14 = true := by decide +kernel
set_option maxRecDepth 100000 in
theorem zk_15 : zchkM 15 = true := by decide +kernel
set_option maxRecDepth 100000 in
theorem zk_16 : zchkM 16 = true := by decide +kernel
set_option maxRecDepth 100000 in
theorem zk_17 : zchkM 17 = true := by decide +kernel
set_option maxRecDepth 100000 in
theorem zk_18 : zchkM 18 = true := by decide +kernel
set_option maxRecDepth 100000 in
theorem zk_19 : zchkM 19 = true := by decide +kernel
set_option maxRecDepth 100000 in
theorem zk_20 : zchkM 20 = true := by decide +kernel
set_option maxRecDepth 100000 in
theorem zk_21 : zchkM 21 = true := by decide +kernel
set_option maxRecDepth 100000 in
theorem zk_22 : zchkM 22 = true := by decide +kernel
set_option maxRecDepth 100000 in
theorem zk_23 : zchkM 23 = true := by decide +kernel
set_option maxRecDepth 100000 in
theorem zk_24 : zchkM 24 = true := by decide +kernel
set_option maxRecDepth 100000 in
theorem zk_25 : zchkM 25 = true := by decide +kernel
set_option maxRecDepth 100000 in
theorem zk_26 : zchkM 26 = true := by decide +kernel
set_option maxRecDepth 100000 in
theorem zk_27 : zchkM 27 = true := by decide +kernel
set_option maxRecDepth 100000 in
theorem zk_28 : zchkM 28 = true := by decide +kernel
set_option maxRecDepth 100000 in
theorem zk_29 : zchkM 29 = true := by decide +kernel
set_option maxRecDepth 100000 in
theorem zk_30 : zchkM 30 = true := by decide +kernel
set_option maxRecDepth 100000 in
theorem zk_31 : zchkM 31 = true := by decide +kernel
set_option maxRecDepth 100000 in
theorem zk_32 : zchkM 32 = true := by decide +kernel
set_option maxRecDepth 100000 in
theorem zk_33 : zchkM 33 = true := by decide +kernel
set_option maxRecDepth 100000 in
theorem zk_34 : zchkM 34 = true := by decide +kernel
set_option maxRecDepth 100000 in
theorem zk_35 : zchkM 35 = true := by decide +kernel
set_option maxRecDepth 100000 in
theorem zk_36 : zchkM 36 = true := by decide +kernel
set_option maxRecDepth 100000 in
theorem zk_37 : zchkM 37 = true := by decide +kernel
set_option maxRecDepth 100000 in
theorem zk_38 : zchkM 38 = true := by decide +kernel
set_option maxRecDepth 100000 in
theorem zk_39 : zchkM 39 = true := by decide +kernel
set_option maxRecDepth 100000 in
theorem zk_40 : zchkM 40 = true := by decide +kernel
set_option maxRecDepth 100000 in
theorem zk_41 : zchkM 41 = true := by decide +kernel
set_option maxRecDepth 100000 in
theorem zk_42 : zchkM 42 = true := by decide +kernel
set_option maxRecDepth 100000 in
theorem zk_43 : zchkM 43 = true := by decide +kernel
set_option maxRecDepth 100000 in
theorem zk_44 : zchkM 44 = true := by decide +kernel
set_option maxRecDepth 100000 in
theorem zk_45 : zchkM 45 = true := by decide +kernel
set_option maxRecDepth 100000 in
theorem zk_46 : zchkM 46 = true := by decide +kernel
set_option maxRecDepth 100000 in
theorem zk_47 : zchkM 47 = true := by decide +kernel
set_option maxRecDepth 100000 in
theorem zk_48 : zchkM 48 = true := by decide +kernel
set_option maxRecDepth 100000 in
theorem zk_49 : zchkM 49 = true := by decide +kernel
set_option maxRecDepth 100000 in
theorem zk_50 : zchkM 50 = true := by decide +kernel
set_option maxRecDepth 100000 in
theorem zk_51 : zchkM 51 = true := by decide +kernel
set_option maxRecDepth 100000 in
theorem zk_52 : zchkM 52 = true := by decide +kernel
set_option maxRecDepth 100000 in
theorem zk_53 : zchkM 53 = true := by decide +kernel
set_option maxRecDepth 100000 in
theorem zk_54 : zchkM 54 = true := by decide +kernel
set_option maxRecDepth 100000 in
theorem zk_55 : zchkM 55 = true := by decide +kernel
set_option maxRecDepth 100000 in
theorem zk_56 : zchkM 56 = true := by decide +kernel
set_option maxRecDepth 100000 in
theorem zk_57 : zchkM 57 = true := by decide +kernel
set_option maxRecDepth 100000 in
theorem zk_58 : zchkM 58 = true := by decide +kernel
set_option maxRecDepth 100000 in
theorem zk_59 : zchkM 59 = true := by decide +kernel
set_option maxRecDepth 100000 in
theorem zk_60 : zchkM 60 = true := by decide +kernel
set_option maxRecDepth 100000 in
theorem zk_61 : zchkM 61 = true := by decide +kernel
set_option maxRecDepth 100000 in
theorem zk_62 : zchkM 62 = true := by decide +kernel
set_option maxRecDepth 100000 in
theorem zk_63 : zchkM 63 = true := by decide +kernel
set_option maxRecDepth 100000 in
theorem zk_64 : zchkM 64 = true := by decide +kernel
set_option maxRecDepth 100000 in
theorem zk_65 : zchkM 65 = true := by decide +kernel
set_option maxRecDepth 100000 in
theorem zk_66 : zchkM 66 = true := by decide +kernel
set_option maxRecDepth 100000 in
theorem zk_67 : zchkM 67 = true := by decide +kernel
set_option maxRecDepth 100000 in
theorem zk_68 : zchkM 68 = true := by decide +kernel
set_option maxRecDepth 100000 in
theorem zk_69 : zchkM 69 = true := by decide +kernel
set_option maxRecDepth 100000 in
theorem zk_70 : zchkM 70 = true := by decide +kernel
set_option maxRecDepth 100000 in
theorem zk_71 : zchkM 71 = true := by decide +kernel
set_option maxRecDepth 100000 in
theorem zk_72 : zchkM 72 = true := by decide +kernel
set_option maxRecDepth 100000 in
theorem zk_73 : zchkM 73 = true := by decide +kernel
set_option maxRecDepth 100000 in
theorem zk_74 : zchkM 74 = true := by decide +kernel
set_option maxRecDepth 100000 in
theorem zk_75 : zchkM 75 = true := by decide +kernel
set_option maxRecDepth 100000 in
theorem zk_76 : zchkM 76 = true := by decide +kernel
set_option maxRecDepth 100000 in
theorem zk_77 : zchkM 77 = true := by decide +kernel
set_option maxRecDepth 100000 in
theorem zk_78 : zchkM 78 = true := by decide +kernel
set_option maxRecDepth 100000 in
theorem zk_79 : zchkM 79 = true := by decide +kernel
set_option maxRecDepth 100000 in
theorem zk_80 : zchkM 80 = true := by decide +kernel
set_option maxRecDepth 100000 in
theorem zk_81 : zchkM 81 = true := by decide +kernel
set_option maxRecDepth 100000 in
theorem zk_82 : zchkM 82 = true := by decide +kernel
set_option maxRecDepth 100000 in
theorem zk_83 : zchkM 83 = true := by decide +kernel
set_option maxRecDepth 100000 in
theorem zk_84 : zchkM 84 = true := by decide +kernel
set_option maxRecDepth 100000 in
theorem zk_85 : zchkM 85 = true := by decide +kernel
set_option maxRecDepth 100000 in
theorem zk_86 : zchkM 86 = true := by decide +kernel
set_option maxRecDepth 100000 in
theorem zk_87 : zchkM 87 = true := by decide +kernel
set_option maxRecDepth 100000 in
theorem zk_88 : zchkM 88 = true := by decide +kernel
set_option maxRecDepth 100000 in
theorem zk_89 : zchkM 89 = true := by decide +kernel
set_option maxRecDepth 100000 in
theorem zk_90 : zchkM 90 = true := by decide +kernel
set_option maxRecDepth 100000 in
theorem zk_91 : zchkM 91 = true := by decide +kernel
set_option maxRecDepth 100000 in
theorem zk_92 : zchkM 92 = true := by decide +kernel
set_option maxRecDepth 100000 in
theorem zk_93 : zchkM 93 = true := by decide +kernel
set_option maxRecDepth 100000 in
theorem zk_94 : zchkM 94 = true := by decide +kernel
set_option maxRecDepth 100000 in
theorem zk_95 : zchkM 95 = true := by decide +kernel
set_option maxRecDepth 100000 in
theorem zk_96 : zchkM 96 = true := by decide +kernel
set_option maxRecDepth 100000 in
theorem zk_97 : zchkM 97 = true := by decide +kernel
set_option maxRecDepth 100000 in
theorem zk_98 : zchkM 98 = true := by decide +kernel
set_option maxRecDepth 100000 in
theorem zk_99 : zchkM 99 = true := by decide +kernel
set_option maxRecDepth 100000 in
theorem zk_100 : zchkM 100 = true := by decide +kernel
set_option maxRecDepth 100000 in
theorem zk_101 : zchkM 101 = true := by decide +kernel
set_option maxRecDepth 100000 in
theorem zk_102 : zchkM 102 = true := by decide +kernel
set_option maxRecDepth 100000 in
theorem zk_103 : zchkM 103 = true := by decide +kernel
set_option maxRecDepth 100000 in
theorem zk_104 : zchkM 104 = true := by decide +kernel
set_option maxRecDepth 100000 in
theorem zk_105 : zchkM 105 = true := by decide +kernel
set_option maxRecDepth 100000 in
theorem zk_106 : zchkM 106 = true := by decide +kernel
set_option maxRecDepth 100000 in
theorem zk_107 : zchkM 107 = true := by decide +kernel
set_option maxRecDepth 100000 in
theorem zk_108 : zchkM 108 = true := by decide +kernel
set_option maxRecDepth 100000 in
theorem zk_109 : zchkM 109 = true := by decide +kernel
set_option maxRecDepth 100000 in
theorem zk_110 : zchkM 110 = true := by decide +kernel
set_option maxRecDepth 100000 in
theorem zk_111 : zchkM 111 = true := by decide +kernel
set_option maxRecDepth 100000 in
theorem zk_112 : zchkM 112 = true := by decide +kernel
set_option maxRecDepth 100000 in
theorem zk_113 : zchkM 113 = true := by decide +kernel
set_option maxRecDepth 100000 in
theorem zk_114 : zchkM 114 = true := by decide +kernel
set_option maxRecDepth 100000 in
theorem zk_115 : zchkM 115 = true := by decide +kernel
set_option maxRecDepth 100000 in
theorem zk_116 : zchkM 116 = true := by decide +kernel
set_option maxRecDepth 100000 in
theorem zk_117 : zchkM 117 = true := by decide +kernel
set_option maxRecDepth 100000 in
theorem zk_118 : zchkM 118 = true := by decide +kernel
set_option maxRecDepth 100000 in
theorem zk_119 : zchkM 119 = true := by decide +kernel
set_option maxRecDepth 100000 in
theorem zk_120 : zchkM 120 = true := by decide +kernel
set_option maxRecDepth 100000 in
theorem zk_121 : zchkM 121 = true := by decide +kernel
set_option maxRecDepth 100000 in
theorem zk_122 : zchkM 122 = true := by decide +kernel
set_option maxRecDepth 100000 in
theorem zk_123 : zchkM 123 = true := by decide +kernel
set_option maxRecDepth 100000 in
theorem zk_124 : zchkM 124 = true := by decide +kernel
set_option maxRecDepth 100000 in
theorem zk_125 : zchkM 125 = true := by decide +kernel
set_option maxRecDepth 100000 in
theorem zk_126 : zchkM 126 = true := by decide +kernel
set_option maxRecDepth 100000 in
theorem zk_127 : zchkM 127 = true := by decide +kernel
set_option maxRecDepth 100000 in
theorem zk_128 : zchkM 128 = true := by decide +kernel
set_option maxRecDepth 100000 in
theorem zk_129 : zchkM 129 = true := by decide +kernel
set_option maxRecDepth 100000 in
theorem zk_130 : zchkM 130 = true := by decide +kernel
set_option maxRecDepth 100000 in
theorem zk_131 : zchkM 131 = true := by decide +kernel
set_option maxRecDepth 100000 in
theorem zk_132 : zchkM 132 = true := by decide +kernel
set_option maxRecDepth 100000 in
theorem zk_133 : zchkM 133 = true := by decide +kernel
set_option maxRecDepth 100000 in
theorem zk_134 : zchkM 134 = true := by decide +kernel
set_option maxRecDepth 100000 in
theorem zk_135 : zchkM 135 = true := by decide +kernel
set_option maxRecDepth 100000 in
theorem zk_136 : zchkM 136 = true := by decide +kernel
set_option maxRecDepth 100000 in
theorem zk_137 : zchkM 137 = true := by decide +kernel
set_option maxRecDepth 100000 in
theorem zk_138 : zchkM 138 = true := by decide +kernel
set_option maxRecDepth 100000 in
theorem zk_139 : zchkM 139 = true := by decide +kernel
set_option maxRecDepth 100000 in
theorem zk_140 : zchkM 140 = true := by decide +kernel
set_option maxRecDepth 100000 in
theorem zk_141 : zchkM 141 = true := by decide +kernel
set_option maxRecDepth 100000 in
theorem zk_142 : zchkM 142 = true := by decide +kernel
set_option maxRecDepth 100000 in
theorem zk_143 : zchkM 143 = true := by decide +kernel
set_option maxRecDepth 100000 in
theorem zk_144 : zchkM 144 = true := by decide +kernel
set_option maxRecDepth 100000 in
theorem zk_145 : zchkM 145 = true := by decide +kernel
set_option maxRecDepth 100000 in
theorem zk_146 : zchkM 146 = true := by decide +kernel
set_option maxRecDepth 100000 in
theorem zk_147 : zchkM 147 = true := by decide +kernel
set_option maxRecDepth 100000 in
theorem zk_148 : zchkM 148 = true := by decide +kernel
set_option maxRecDepth 100000 in
theorem zk_149 : zchkM 149 = true := by decide +kernel
set_option maxRecDepth 100000 in
theorem zk_150 : zchkM 150 = true := by decide +kernel
set_option maxRecDepth 100000 in
theorem zk_151 : zchkM 151 = true := by decide +kernel
set_option maxRecDepth 100000 in
theorem zk_152 : zchkM 152 = true := by decide +kernel
set_option maxRecDepth 100000 in
theorem zk_153 : zchkM 153 = true := by decide +kernel
set_option maxRecDepth 100000 in
theorem zk_154 : zchkM 154 = true := by decide +kernel
set_option maxRecDepth 100000 in
theorem zk_155 : zchkM 155 = true := by decide +kernel
set_option maxRecDepth 100000 in
theorem zk_156 : zchkM 156 = true := by decide +kernel
set_option maxRecDepth 100000 in
theorem zk_157 : zchkM 157 = true := by decide +kernel
set_option maxRecDepth 100000 in
theorem zk_158 : zchkM 158 = true := by decide +kernel
set_option maxRecDepth 100000 in
theorem zk_159 : zchkM 159 = true := by decide +kernel
set_option maxRecDepth 100000 in
theorem zk_160 : zchkM 160 = true := by decide +kernel
set_option maxRecDepth 100000 in
theorem zk_161 : zchkM 161 = true := by decide +kernel
set_option maxRecDepth 100000 in
theorem zk_162 : zchkM 162 = true := by decide +kernel
set_option maxRecDepth 100000 in
theorem zk_163 : zchkM 163 = true := by decide +kernel
set_option maxRecDepth 100000 in
theorem zk_164 : zchkM 164 = true := by decide +kernel
set_option maxRecDepth 100000 in
theorem zk_165 : zchkM 165 = true := by decide +kernel
set_option maxRecDepth 100000 in
theorem zk_166 : zchkM 166 = true := by decide +kernel
set_option maxRecDepth 100000 in
theorem zk_167 : zchkM 167 = true := by decide +kernel
set_option maxRecDepth 100000 in
theorem zk_168 : zchkM 168 = true := by decide +kernel
set_option maxRecDepth 100000 in
theorem zk_169 : zchkM 169 = true := by decide +kernel
set_option maxRecDepth 100000 in
theorem zk_170 : zchkM 170 = true := by decide +kernel
set_option maxRecDepth 100000 in
theorem zk_171 : zchkM 171 = true := by decide +kernel
set_option maxRecDepth 100000 in
theorem zk_172 : zchkM 172 = true := by decide +kernel
set_option maxRecDepth 100000 in
theorem zk_173 : zchkM 173 = true := by decide +kernel
set_option maxRecDepth 100000 in
theorem zk_174 : zchkM 174 = true := by decide +kernel
set_option maxRecDepth 100000 in
theorem zk_175 : zchkM 175 = true := by decide +kernel
set_option maxRecDepth 100000 in
theorem zk_176 : zchkM 176 = true := by decide +kernel
set_option maxRecDepth 100000 in
theorem zk_177 : zchkM 177 = true := by decide +kernel
set_option maxRecDepth 100000 in
theorem zk_178 : zchkM 178 = true := by decide +kernel
set_option maxRecDepth 100000 in
theorem zk_179 : zchkM 179 = true := by decide +kernel
set_option maxRecDepth 100000 in
theorem zk_180 : zchkM 180 = true := by decide +kernel
set_option maxRecDepth 100000 in
theorem zk_181 : zchkM 181 = true := by decide +kernel
set_option maxRecDepth 100000 in
theorem zk_182 : zchkM 182 = true := by decide +kernel
set_option maxRecDepth 100000 in
theorem zk_183 : zchkM 183 = true := by decide +kernel
set_option maxRecDepth 100000 in
theorem zk_184 : zchkM 184 = true := by decide +kernel
set_option maxRecDepth 100000 in
theorem zk_185 : zchkM 185 = true := by decide +kernel
set_option maxRecDepth 100000 in
theorem zk_186 : zchkM 186 = true := by decide +kernel
set_option maxRecDepth 100000 in
theorem zk_187 : zchkM 187 = true := by decide +kernel
set_option maxRecDepth 100000 in
theorem zk_188 : zchkM 188 = true := by decide +kernel
set_option maxRecDepth 100000 in
theorem zk_189 : zchkM 189 = true := by decide +kernel
set_option maxRecDepth 100000 in
theorem zk_190 : zchkM 190 = true := by decide +kernel
set_option maxRecDepth 100000 in
theorem zk_191 : zchkM 191 = true := by decide +kernel
set_option maxRecDepth 100000 in
theorem zk_192 : zchkM 192 = true := by decide +kernel
set_option maxRecDepth 100000 in
theorem zk_193 : zchkM 193 = true := by decide +kernel
set_option maxRecDepth 100000 in
theorem zk_194 : zchkM 194 = true := by decide +kernel
set_option maxRecDepth 100000 in
theorem zk_195 : zchkM 195 = true := by decide +kernel
set_option maxRecDepth 100000 in
theorem zk_196 : zchkM 196 = true := by decide +kernel
set_option maxRecDepth 100000 in
theorem zk_197 : zchkM 197 = true := by decide +kernel
set_option maxRecDepth 100000 in
theorem zk_198 : zchkM 198 = true := by decide +kernel
set_option maxRecDepth 100000 in
theorem zk_199 : zchkM 199 = true := by decide +kernel
set_option maxRecDepth 100000 in
theorem zk_200 : zchkM 200 = true := by decide +kernel
set_option maxRecDepth 100000 in
theorem zk_201 : zchkM 201 = true := by decide +kernel
set_option maxRecDepth 100000 in
theorem zk_202 : zchkM 202 = true := by decide +kernel
set_option maxRecDepth 100000 in
theorem zk_203 : zchkM 203 = true := by decide +kernel
set_option maxRecDepth 100000 in
theorem zk_204 : zchkM 204 = true := by decide +kernel
set_option maxRecDepth 100000 in
theorem zk_205 : zchkM 205 = true := by decide +kernel
set_option maxRecDepth 100000 in
theorem zk_206 : zchkM 206 = true := by decide +kernel
set_option maxRecDepth 100000 in
theorem zk_207 : zchkM 207 = true := by decide +kernel
set_option maxRecDepth 100000 in
theorem zk_208 : zchkM 208 = true := by decide +kernel
set_option maxRecDepth 100000 in
theorem zk_209 : zchkM 209 = true := by decide +kernel
set_option maxRecDepth 100000 in
theorem zk_210 : zchkM 210 = true := by decide +kernel
set_option maxRecDepth 100000 in
theorem zk_211 : zchkM 211 = true := by decide +kernel
set_option maxRecDepth 100000 in
theorem zk_212 : zchkM 212 = true := by decide +kernel
set_option maxRecDepth 100000 in
theorem zk_213 : zchkM 213 = true := by decide +kernel
set_option maxRecDepth 100000 in
theorem zk_214 : zchkM 214 = true := by decide +kernel
set_option maxRecDepth 100000 in
theorem zk_215 : zchkM 215 = true := by decide +kernel
set_option maxRecDepth 100000 in
theorem zk_216 : zchkM 216 = true := by decide +kernel
set_option maxRecDepth 100000 in
theorem zk_217 : zchkM 217 = true := by decide +kernel
set_option maxRecDepth 100000 in
theorem zk_218 : zchkM 218 = true := by decide +kernel
set_option maxRecDepth 100000 in
theorem zk_219 : zchkM 219 = true := by decide +kernel
set_option maxRecDepth 100000 in
theorem zk_220 : zchkM 220 = true := by decide +kernel
set_option maxRecDepth 100000 in
theorem zk_221 : zchkM 221 = true := by decide +kernel
set_option maxRecDepth 100000 in
theorem zk_222 : zchkM 222 = true := by decide +kernel
set_option maxRecDepth 100000 in
theorem zk_223 : zchkM 223 = true := by decide +kernel
set_option maxRecDepth 100000 in
theorem zk_224 : zchkM 224 = true := by decide +kernel
set_option maxRecDepth 100000 in
theorem zk_225 : zchkM 225 = true := by decide +kernel
set_option maxRecDepth 100000 in
theorem zk_226 : zchkM 226 = true := by decide +kernel
set_option maxRecDepth 100000 in
theorem zk_227 : zchkM 227 = true := by decide +kernel
set_option maxRecDepth 100000 in
theorem zk_228 : zchkM 228 = true := by decide +kernel
set_option maxRecDepth 100000 in
theorem zk_229 : zchkM 229 = true := by decide +kernel
set_option maxRecDepth 100000 in
theorem zk_230 : zchkM 230 = true := by decide +kernel
set_option maxRecDepth 100000 in
theorem zk_231 : zchkM 231 = true := by decide +kernel
set_option maxRecDepth 100000 in
theorem zk_232 : zchkM 232 = true := by decide +kernel
set_option maxRecDepth 100000 in
theorem zk_233 : zchkM 233 = true := by decide +kernel
set_option maxRecDepth 100000 in
theorem zk_234 : zchkM 234 = true := by decide +kernel
set_option maxRecDepth 100000 in
theorem zk_235 : zchkM 235 = true := by decide +kernel
set_option maxRecDepth 100000 in
theorem zk_236 : zchkM 236 = true := by decide +kernel
set_option maxRecDepth 100000 in
theorem zk_237 : zchkM 237 = true := by decide +kernel
set_option maxRecDepth 100000 in
theorem zk_238 : zchkM 238 = true := by decide +kernel
set_option maxRecDepth 100000 in
theorem zk_239 : zchkM 239 = true := by decide +kernel
set_option maxRecDepth 100000 in
theorem zk_240 : zchkM 240 = true := by decide +kernel
set_option maxRecDepth 100000 in
theorem zk_241 : zchkM 241 = true := by decide +kernel
set_option maxRecDepth 100000 in
theorem zk_242 : zchkM 242 = true := by decide +kernel
set_option maxRecDepth 100000 in
theorem zk_243 : zchkM 243 = true := by decide +kernel
set_option maxRecDepth 100000 in
theorem zk_244 : zchkM 244 = true := by decide +kernel
set_option maxRecDepth 100000 in
theorem zk_245 : zchkM 245 = true := by decide +kernel
set_option maxRecDepth 100000 in
theorem zk_246 : zchkM 246 = true := by decide +kernel
set_option maxRecDepth 100000 in
theorem zk_247 : zchkM 247 = true := by decide +kernel
set_option maxRecDepth 100000 in
theorem zk_248 : zchkM 248 = true := by decide +kernel
set_option maxRecDepth 100000 in
theorem zk_249 : zchkM 249 = true := by decide +kernel
set_option maxRecDepth 100000 in
theorem zk_250 : zchkM 250 = true := by decide +kernel
set_option maxRecDepth 100000 in
theorem zk_251 : zchkM 251 = true := by decide +kernel
set_option maxRecDepth 100000 in
theorem zk_252 : zchkM 252 = true := by decide +kernel
set_option maxRecDepth 100000 in
theorem zk_253 : zchkM 253 = true := by decide +kernel
set_option maxRecDepth 100000 in
theorem zk_254 : zchkM 254 = true := by decide +kernel
theorem zk_out : ∀ k, 255 ≤ k → zchkM k = true := fun k h => by
  have e : zM k = ([], 0) := by
    unfold zM
    rw [List.getElem?_eq_none (Nat.le_trans (Nat.le_of_ble_eq_true rfl) h)]
    rfl
  unfold zchkM
  rw [e]
  rfl
theorem zk_all : ∀ k, zchkM k = true := fun k => by
  by_cases h : 255 ≤ k
  · exact zk_out k h
  · have h : k < 255 := by omega
    match k, h with
    | 0, _ => exact zk_0
    | 1, _ => exact zk_1
    | 2, _ => exact zk_2
    | 3, _ => exact zk_3
    | 4, _ => exact zk_4
    | 5, _ => exact zk_5
    | 6, _ => exact zk_6
    | 7, _ => exact zk_7
    | 8, _ => exact zk_8
    | 9, _ => exact zk_9
    | 10, _ => exact zk_10
    | 11, _ => exact zk_11
    | 12, _ => exact zk_12
    | 13, _ => exact zk_13
    | 14, _ => exact zk_14
    | 15, _ => exact zk_15
    | 16, _ => exact zk_16
    | 17, _ => exact zk_17
    | 18, _ => exact zk_18
    | 19, _ => exact zk_19
    | 20, _ => exact zk_20
    | 21, _ => exact zk_21
    | 22, _ => exact zk_22
    | 23, _ => exact zk_23
    | 24, _ => exact zk_24
    | 25, _ => exact zk_25
    | 26, _ => exact zk_26
    | 27, _ => exact zk_27
    | 28, _ => exact zk_28
    | 29, _ => exact zk_29
    | 30, _ => exact zk_30
    | 31, _ => exact zk_31
    | 32, _ => exact zk_32
    | 33, _ => exact zk_33
    | 34, _ => exact zk_34
    | 35, _ => exact zk_35
    | 36, _ => exact zk_36
    | 37, _ => exact zk_37
    | 38, _ => exact zk_38
    | 39, _ => exact zk_39
    | 40, _ => exact zk_40
    | 41, _ => exact zk_41
    | 42, _ => exact zk_42
    | 43, _ => exact zk_43
    | 44, _ => exact zk_44
    | 45, _ => exact zk_45
    | 46, _ => exact zk_46
    | 47, _ => exact zk_47
    | 48, _ => exact zk_48
    | 49, _ => exact zk_49
    | 50, _ => exact zk_50
    | 51, _ => exact zk_51
    | 52, _ => exact zk_52
    | 53, _ => exact zk_53
    | 54, _ => exact zk_54
    | 55, _ => exact zk_55
    | 56, _ => exact zk_56
    | 57, _ => exact zk_57
    | 58, _ => exact zk_58
    | 59, _ => exact zk_59
    | 60, _ => exact zk_60
    | 61, _ => exact zk_61
    | 62, _ => exact zk_62
    | 63, _ => exact zk_63
    | 64, _ => exact zk_64
    | 65, _ => exact zk_65
    | 66, _ => exact zk_66
    | 67, _ => exact zk_67
    | 68, _ => exact zk_68
    | 69, _ => exact zk_69
    | 70, _ => exact zk_70
    | 71, _ => exact zk_71
    | 72, _ => exact zk_72
    | 73, _ => exact zk_73
    | 74, _ => exact zk_74
    | 75, _ => exact zk_75
    | 76, _ => exact zk_76
    | 77, _ => exact zk_77
    | 78, _ => exact zk_78
    | 79, _ => exact zk_79
    | 80, _ => exact zk_80
    | 81, _ => exact zk_81
    | 82, _ => exact zk_82
    | 83, _ => exact zk_83
    | 84, _ => exact zk_84
    | 85, _ => exact zk_85
    | 86, _ => exact zk_86
    | 87, _ => exact zk_87
    | 88, _ => exact zk_88
    | 89, _ => exact zk_89
    | 90, _ => exact zk_90
    | 91, _ => exact zk_91
    | 92, _ => exact zk_92
    | 93, _ => exact zk_93
    | 94, _ => exact zk_94
    | 95, _ => exact zk_95
    | 96, _ => exact zk_96
    | 97, _ => exact zk_97
    | 98, _ => exact zk_98
    | 99, _ => exact zk_99
    | 100, _ => exact zk_100
    | 101, _ => exact zk_101
    | 102, _ => exact zk_102
    | 103, _ => exact zk_103
    | 104, _ => exact zk_104
    | 105, _ => exact zk_105
    | 106, _ => exact zk_106
    | 107, _ => exact zk_107
    | 108, _ => exact zk_108
    | 109, _ => exact zk_109
    | 110, _ => exact zk_110
    | 111, _ => exact zk_111
    | 112, _ => exact zk_112
    | 113, _ => exact zk_113
    | 114, _ => exact zk_114
    | 115, _ => exact zk_115
    | 116, _ => exact zk_116
    | 117, _ => exact zk_117
    | 118, _ => exact zk_118
    | 119, _ => exact zk_119
    | 120, _ => exact zk_120
    | 121, _ => exact zk_121
    | 122, _ => exact zk_122
    | 123, _ => exact zk_123
    | 124, _ => exact zk_124
    | 125, _ => exact zk_125
    | 126, _ => exact zk_126
    | 127, _ => exact zk_127
    | 128, _ => exact zk_128
    | 129, _ => exact zk_129
    | 130, _ => exact zk_130
    | 131, _ => exact zk_131
    | 132, _ => exact zk_132
    | 133, _ => exact zk_133
    | 134, _ => exact zk_134
    | 135, _ => exact zk_135
    | 136, _ => exact zk_136
    | 137, _ => exact zk_137
    | 138, _ => exact zk_138
    | 139, _ => exact zk_139
    | 140, _ => exact zk_140
    | 141, _ => exact zk_141
    | 142, _ => exact zk_142
    | 143, _ => exact zk_143
    | 144, _ => exact zk_144
    | 145, _ => exact zk_145
    | 146, _ => exact zk_146
    | 147, _ => exact zk_147
    | 148, _ => exact zk_148
    | 149, _ => exact zk_149
    | 150, _ => exact zk_150
    | 151, _ => exact zk_151
    | 152, _ => exact zk_152
    | 153, _ => exact zk_153
    | 154, _ => exact zk_154
    | 155, _ => exact zk_155
    | 156, _ => exact zk_156
    | 157, _ => exact zk_157
    | 158, _ => exact zk_158
    | 159, _ => exact zk_159
    | 160, _ => exact zk_160
    | 161, _ => exact zk_161
    | 162, _ => exact zk_162
    | 163, _ => exact zk_163
    | 164, _ => exact zk_164
    | 165, _ => exact zk_165
    | 166, _ => exact zk_166
    | 167, _ => exact zk_167
    | 168, _ => exact zk_168
    | 169, _ => exact zk_169
    | 170, _ => exact zk_170
    | 171, _ => exact zk_171
    | 172, _ => exact zk_172
    | 173, _ => exact zk_173
    | 174, _ => exact zk_174
    | 175, _ => exact zk_175
    | 176, _ => exact zk_176
    | 177, _ => exact zk_177
    | 178, _ => exact zk_178
    | 179, _ => exact zk_179
    | 180, _ => exact zk_180
    | 181, _ => exact zk_181
    | 182, _ => exact zk_182
    | 183, _ => exact zk_183
    | 184, _ => exact zk_184
    | 185, _ => exact zk_185
    | 186, _ => exact zk_186
    | 187, _ => exact zk_187
    | 188, _ => exact zk_188
    | 189, _ => exact zk_189
    | 190, _ => exact zk_190
    | 191, _ => exact zk_191
    | 192, _ => exact zk_192
    | 193, _ => exact zk_193
    | 194, _ => exact zk_194
    | 195, _ => exact zk_195
    | 196, _ => exact zk_196
    | 197, _ => exact zk_197
    | 198, _ => exact zk_198
    | 199, _ => exact zk_199
    | 200, _ => exact zk_200
    | 201, _ => exact zk_201
    | 202, _ => exact zk_202
    | 203, _ => exact zk_203
    | 204, _ => exact zk_204
    | 205, _ => exact zk_205
    | 206, _ => exact zk_206
    | 207, _ => exact zk_207
    | 208, _ => exact zk_208
    | 209, _ => exact zk_209
    | 210, _ => exact zk_210
    | 211, _ => exact zk_211
    | 212, _ => exact zk_212
    | 213, _ => exact zk_213
    | 214, _ => exact zk_214
    | 215, _ => exact zk_215
    | 216, _ => exact zk_216
    | 217, _ => exact zk_217
    | 218, _ => exact zk_218
    | 219, _ => exact zk_219
    | 220, _ => exact zk_220
    | 221, _ => exact zk_221
    | 222, _ => exact zk_222
    | 223, _ => exact zk_223
    | 224, _ => exact zk_224
    | 225, _ => exact zk_225
    | 226, _ => exact zk_226
    | 227, _ => exact zk_227
    | 228, _ => exact zk_228
    | 229, _ => exact zk_229
    | 230, _ => exact zk_230
    | 231, _ => exact zk_231
    | 232, _ => exact zk_232
    | 233, _ => exact zk_233
    | 234, _ => exact zk_234
    | 235, _ => exact zk_235
    | 236, _ => exact zk_236
    | 237, _ => exact zk_237
    | 238, _ => exact zk_238
    | 239, _ => exact zk_239
    | 240, _ => exact zk_240
    | 241, _ => exact zk_241
    | 242, _ => exact zk_242
    | 243, _ => exact zk_243
    | 244, _ => exact zk_244
    | 245, _ => exact zk_245
    | 246, _ => exact zk_246
    | 247, _ => exact zk_247
    | 248, _ => exact zk_248
    | 249, _ => exact zk_249
    | 250, _ => exact zk_250
    | 251, _ => exact zk_251
    | 252, _ => exact zk_252
    | 253, _ => exact zk_253
    | 254, _ => exact zk_254
    | k + 255, h => omega
