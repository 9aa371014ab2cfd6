/-! EVERY BLOCK AGAINST THE BYTES -/
set_option maxRecDepth 100000 in
theorem zk_0 : zchkM 0 = true := by decide +kernel
set_option maxRecDepth 100000 in
theorem zk_1 : zchkM 1 = true := by decide +kernel
set_option maxRecDepth 100000 in
theorem zk_2 : zchkM 2 = true := by decide +kernel
set_option maxRecDepth 100000 in
theorem zk_3 : zchkM 3 = true := by decide +kernel
set_option maxRecDepth 100000 in
theorem zk_4 : zchkM 4 = true := by decide +kernel
set_option maxRecDepth 100000 in
theorem zk_5 : zchkM 5 = true := by decide +kernel
set_option maxRecDepth 100000 in
theorem zk_6 : zchkM 6 = true := by decide +kernel
set_option maxRecDepth 100000 in
theorem zk_7 : zchkM 7 = true := by decide +kernel
set_option maxRecDepth 100000 in
theorem zk_8 : zchkM 8 = true := by decide +kernel
set_option maxRecDepth 100000 in
theorem zk_9 : zchkM 9 = true := by decide +kernel
set_option maxRecDepth 100000 in
theorem zk_10 : zchkM 10 = true := by decide +kernel
set_option maxRecDepth 100000 in
theorem zk_11 : zchkM 11 = true := by decide +kernel
set_option maxRecDepth 100000 in
theorem zk_12 : zchkM 12 = true := by decide +kernel
set_option maxRecDepth 100000 in
theorem zk_13 : zchkM 13 = true := by decide +kernel
set_option maxRecDepth 100000 in
theorem zk_14 : zchkM 14 = true := by decide +kernel
set_option maxRecDepth 100000 in
theorem zk_15 : zchkM 15 = true := by decide +kernel
set_option maxRecDepth 100000 in
theorem zk_16 : zchkM 16 = true := by decide +kernel
set_option maxRecDepth 100000 in
theorem zk_17 : zchkM 17 = true := by decide +kernel
set_option maxRecDepth 100000 in
theorem zk_18 : zchkM 18 = true := by decide +kernel
set_option maxRecDepth 100000 in
theorem zk_19 : zchkM 19 = true := by decide +kernel
set_option maxRecDepth 100000 in
theorem zk_20 : zchkM 20 = true := by decide +kernel
set_option maxRecDepth 100000 in
theorem zk_21 : zchkM 21 = true := by decide +kernel
set_option maxRecDepth 100000 in
theorem zk_22 : zchkM 22 = true := by decide +kernel
set_option maxRecDepth 100000 in
theorem zk_23 : zchkM 23 = true := by decide +kernel
set_option maxRecDepth 100000 in
theorem zk_24 : zchkM 24 = true := by decide +kernel
set_option maxRecDepth 100000 in
theorem zk_25 : zchkM 25 = true := by decide +kernel
set_option maxRecDepth 100000 in
theorem zk_26 : zchkM 26 = true := by decide +kernel
set_option maxRecDepth 100000 in
theorem zk_27 : zchkM 27 = true := by decide +kernel
set_option maxRecDepth 100000 in
theorem zk_28 : zchkM 28 = true := by decide +kernel
set_option maxRecDepth 100000 in
theorem zk_29 : zchkM 29 = true := by decide +kernel
set_option maxRecDepth 100000 in
theorem zk_30 : zchkM 30 = true := by decide +kernel
set_option maxRecDepth 100000 in
theorem zk_31 : zchkM 31 = true := by decide +kernel
set_option maxRecDepth 100000 in
theorem zk_32 : zchkM 32 = true := by decide +kernel
set_option maxRecDepth 100000 in
theorem zk_33 : zchkM 33 = true := by decide +kernel
set_option maxRecDepth 100000 in
theorem zk_34 : zchkM 34 = true := by decide +kernel
set_option maxRecDepth 100000 in
theorem zk_35 : zchkM 35 = true := by decide +kernel
set_option maxRecDepth 100000 in
theorem zk_36 : zchkM 36 = true := by decide +kernel
set_option maxRecDepth 100000 in
theorem zk_37 : zchkM 37 = true := by decide +kernel
set_option maxRecDepth 100000 in
theorem zk_38 : zchkM 38 = true := by decide +kernel
set_option maxRecDepth 100000 in
theorem zk_39 : zchkM 39 = true := by decide +kernel
set_option maxRecDepth 100000 in
theorem zk_40 : zchkM 40 = true := by decide +kernel
set_option maxRecDepth 100000 in
theorem zk_41 : zchkM 41 = true := by decide +kernel
set_option maxRecDepth 100000 in
theorem zk_42 : zchkM 42 = true := by decide +kernel
set_option maxRecDepth 100000 in
theorem zk_43 : zchkM 43 = true := by decide +kernel
set_option maxRecDepth 100000 in
theorem zk_44 : zchkM 44 = true := by decide +kernel
set_option maxRecDepth 100000 in
theorem zk_45 : zchkM 45 = true := by decide +kernel
set_option maxRecDepth 100000 in
theorem zk_46 : zchkM 46 = true := by decide +kernel
set_option maxRecDepth 100000 in
theorem zk_47 : zchkM 47 = true := by decide +kernel
set_option maxRecDepth 100000 in
theorem zk_48 : zchkM 48 = true := by decide +kernel
set_option maxRecDepth 100000 in
theorem zk_49 : zchkM 49 = true := by decide +kernel
set_option maxRecDepth 100000 in
theorem zk_50 : zchkM 50 = true := by decide +kernel
set_option maxRecDepth 100000 in
theorem zk_51 : zchkM 51 = true := by decide +kernel
set_option maxRecDepth 100000 in
theorem zk_52 : zchkM 52 = true := by decide +kernel
set_option maxRecDepth 100000 in
theorem zk_53 : zchkM 53 = true := by decide +kernel
set_option maxRecDepth 100000 in
theorem zk_54 : zchkM 54 = true := by decide +kernel
set_option maxRecDepth 100000 in
theorem zk_55 : zchkM 55 = true := by decide +kernel
set_option maxRecDepth 100000 in
theorem zk_56 : zchkM 56 = true := by decide +kernel
set_option maxRecDepth 100000 in
theorem zk_57 : zchkM 57 = true := by decide +kernel
set_option maxRecDepth 100000 in
theorem zk_58 : zchkM 58 = true := by decide +kernel
set_option maxRecDepth 100000 in
theorem zk_59 : zchkM 59 = true := by decide +kernel
set_option maxRecDepth 100000 in
theorem zk_60 : zchkM 60 = true := by decide +kernel
set_option maxRecDepth 100000 in
theorem zk_61 : zchkM 61 = true := by decide +kernel
set_option maxRecDepth 100000 in
theorem zk_62 : zchkM 62 = true := by decide +kernel
set_option maxRecDepth 100000 in
theorem zk_63 : zchkM 63 = true := by decide +kernel
set_option maxRecDepth 100000 in
theorem zk_64 : zchkM 64 = true := by decide +kernel
set_option maxRecDepth 100000 in
theorem zk_65 : zchkM 65 = true := by decide +kernel
set_option maxRecDepth 100000 in
theorem zk_66 : zchkM 66 = true := by decide +kernel
set_option maxRecDepth 100000 in
theorem zk_67 : zchkM 67 = true := by decide +kernel
set_option maxRecDepth 100000 in
theorem zk_68 : zchkM 68 = true := by decide +kernel
set_option maxRecDepth 100000 in
theorem zk_69 : zchkM 69 = true := by decide +kernel
set_option maxRecDepth 100000 in
theorem zk_70 : zchkM 70 = true := by decide +kernel
set_option maxRecDepth 100000 in
theorem zk_71 : zchkM 71 = true := by decide +kernel
set_option maxRecDepth 100000 in
theorem zk_72 : zchkM 72 = true := by decide +kernel
set_option maxRecDepth 100000 in
theorem zk_73 : zchkM 73 = true := by decide +kernel
set_option maxRecDepth 100000 in
theorem zk_74 : zchkM 74 = true := by decide +kernel
set_option maxRecDepth 100000 in
theorem zk_75 : zchkM 75 = true := by decide +kernel
set_option maxRecDepth 100000 in
theorem zk_76 : zchkM 76 = true := by decide +kernel
set_option maxRecDepth 100000 in
theorem zk_77 : zchkM 77 = true := by decide +kernel
set_option maxRecDepth 100000 in
theorem zk_78 : zchkM 78 = true := by decide +kernel
set_option maxRecDepth 100000 in
theorem zk_79 : zchkM 79 = true := by decide +kernel
set_option maxRecDepth 100000 in
theorem zk_80 : zchkM 80 = true := by decide +kernel
set_option maxRecDepth 100000 in
theorem zk_81 : zchkM 81 = true := by decide +kernel
set_option maxRecDepth 100000 in
theorem zk_82 : zchkM 82 = true := by decide +kernel
set_option maxRecDepth 100000 in
theorem zk_83 : zchkM 83 = true := by decide +kernel
set_option maxRecDepth 100000 in
theorem zk_84 : zchkM 84 = true := by decide +kernel
set_option maxRecDepth 100000 in
theorem zk_85 : zchkM 85 = true := by decide +kernel
set_option maxRecDepth 100000 in
theorem zk_86 : zchkM 86 = true := by decide +kernel
set_option maxRecDepth 100000 in
theorem zk_87 : zchkM 87 = true := by decide +kernel
set_option maxRecDepth 100000 in
theorem zk_88 : zchkM 88 = true := by decide +kernel
set_option maxRecDepth 100000 in
theorem zk_89 : zchkM 89 = true := by decide +kernel
set_option maxRecDepth 100000 in
theorem zk_90 : zchkM 90 = true := by decide +kernel
set_option maxRecDepth 100000 in
theorem zk_91 : zchkM 91 = true := by decide +kernel
set_option maxRecDepth 100000 in
theorem zk_92 : zchkM 92 = true := by decide +kernel
set_option maxRecDepth 100000 in
theorem zk_93 : zchkM 93 = true := by decide +kernel
set_option maxRecDepth 100000 in
theorem zk_94 : zchkM 94 = true := by decide +kernel
set_option maxRecDepth 100000 in
theorem zk_95 : zchkM 95 = true := by decide +kernel
set_option maxRecDepth 100000 in
theorem zk_96 : zchkM 96 = true := by decide +kernel
set_option maxRecDepth 100000 in
theorem zk_97 : zchkM 97 = true := by decide +kernel
set_option maxRecDepth 100000 in
theorem zk_98 : zchkM 98 = true := by decide +kernel
set_option maxRecDepth 100000 in
theorem zk_99 : zchkM 99 = true := by decide +kernel
set_option maxRecDepth 100000 in
theorem zk_100 : zchkM 100 = true := by decide +kernel
set_option maxRecDepth 100000 in
theorem zk_101 : zchkM 101 = true := by decide +kernel
set_option maxRecDepth 100000 in
theorem zk_102 : zchkM 102 = true := by decide +kernel
set_option maxRecDepth 100000 in
theorem zk_103 : zchkM 103 = true := by decide +kernel
set_option maxRecDepth 100000 in
theorem zk_104 : zchkM 104 = true := by decide +kernel
set_option maxRecDepth 100000 in
theorem zk_105 : zchkM 105 = true := by decide +kernel
set_option maxRecDepth 100000 in
theorem zk_106 : zchkM 106 = true := by decide +kernel
set_option maxRecDepth 100000 in
theorem zk_107 : zchkM 107 = true := by decide +kernel
set_option maxRecDepth 100000 in
theorem zk_108 : zchkM 108 = true := by decide +kernel
set_option maxRecDepth 100000 in
theorem zk_109 : zchkM 109 = true := by decide +kernel
set_option maxRecDepth 100000 in
theorem zk_110 : zchkM 110 = true := by decide +kernel
set_option maxRecDepth 100000 in
theorem zk_111 : zchkM 111 = true := by decide +kernel
set_option maxRecDepth 100000 in
theorem zk_112 : zchkM 112 = true := by decide +kernel
set_option maxRecDepth 100000 in
theorem zk_113 : zchkM 113 = true := by decide +kernel
set_option maxRecDepth 100000 in
theorem zk_114 : zchkM 114 = true := by decide +kernel
set_option maxRecDepth 100000 in
theorem zk_115 : zchkM 115 = true := by decide +kernel
set_option maxRecDepth 100000 in
theorem zk_116 : zchkM 116 = true := by decide +kernel
set_option maxRecDepth 100000 in
theorem zk_117 : zchkM 117 = true := by decide +kernel
set_option maxRecDepth 100000 in
theorem zk_118 : zchkM 118 = true := by decide +kernel
set_option maxRecDepth 100000 in
theorem zk_119 : zchkM 119 = true := by decide +kernel
set_option maxRecDepth 100000 in
theorem zk_120 : zchkM 120 = true := by decide +kernel
set_option maxRecDepth 100000 in
theorem zk_121 : zchkM 121 = true := by decide +kernel
set_option maxRecDepth 100000 in
theorem zk_122 : zchkM 122 = true := by decide +kernel
set_option maxRecDepth 100000 in
theorem zk_123 : zchkM 123 = true := by decide +kernel
set_option maxRecDepth 100000 in
theorem zk_124 : zchkM 124 = true := by decide +kernel
set_option maxRecDepth 100000 in
theorem zk_125 : zchkM 125 = true := by decide +kernel
set_option maxRecDepth 100000 in
theorem zk_126 : zchkM 126 = true := by decide +kernel
set_option maxRecDepth 100000 in
theorem zk_127 : zchkM 127 = true := by decide +kernel
set_option maxRecDepth 100000 in
theorem zk_128 : zchkM 128 = true := by decide +kernel
set_option maxRecDepth 100000 in
theorem zk_129 : zchkM 129 = true := by decide +kernel
set_option maxRecDepth 100000 in
theorem zk_130 : zchkM 130 = true := by decide +kernel
set_option maxRecDepth 100000 in
theorem zk_131 : zchkM 131 = true := by decide +kernel
set_option maxRecDepth 100000 in
theorem zk_132 : zchkM 132 = true := by decide +kernel
set_option maxRecDepth 100000 in
theorem zk_133 : zchkM 133 = true := by decide +kernel
set_option maxRecDepth 100000 in
theorem zk_134 : zchkM 134 = true := by decide +kernel
set_option maxRecDepth 100000 in
theorem zk_135 : zchkM 135 = true := by decide +kernel
set_option maxRecDepth 100000 in
theorem zk_136 : zchkM 136 = true := by decide +kernel
set_option maxRecDepth 100000 in
theorem zk_137 : zchkM 137 = true := by decide +kernel
set_option maxRecDepth 100000 in
theorem zk_138 : zchkM 138 = true := by decide +kernel
set_option maxRecDepth 100000 in
theorem zk_139 : zchkM 139 = true := by decide +kernel
set_option maxRecDepth 100000 in
theorem zk_140 : zchkM 140 = true := by decide +kernel
set_option maxRecDepth 100000 in
theorem zk_141 : zchkM 141 = true := by decide +kernel
set_option maxRecDepth 100000 in
theorem zk_142 : zchkM 142 = true := by decide +kernel
set_option maxRecDepth 100000 in
theorem zk_143 : zchkM 143 = true := by decide +kernel
set_option maxRecDepth 100000 in
theorem zk_144 : zchkM 144 = true := by decide +kernel
set_option maxRecDepth 100000 in
theorem zk_145 : zchkM 145 = true := by decide +kernel
set_option maxRecDepth 100000 in
theorem zk_146 : zchkM 146 = true := by decide +kernel
set_option maxRecDepth 100000 in
theorem zk_147 : zchkM 147 = true := by decide +kernel
set_option maxRecDepth 100000 in
theorem zk_148 : zchkM 148 = true := by decide +kernel
set_option maxRecDepth 100000 in
theorem zk_149 : zchkM 149 = true := by decide +kernel
set_option maxRecDepth 100000 in
theorem zk_150 : zchkM 150 = true := by decide +kernel
set_option maxRecDepth 100000 in
theorem zk_151 : zchkM 151 = true := by decide +kernel
set_option maxRecDepth 100000 in
theorem zk_152 : zchkM 152 = true := by decide +kernel
set_option maxRecDepth 100000 in
theorem zk_153 : zchkM 153 = true := by decide +kernel
set_option maxRecDepth 100000 in
theorem zk_154 : zchkM 154 = true := by decide +kernel
set_option maxRecDepth 100000 in
theorem zk_155 : zchkM 155 = true := by decide +kernel
set_option maxRecDepth 100000 in
theorem zk_156 : zchkM 156 = true := by decide +kernel
set_option maxRecDepth 100000 in
theorem zk_157 : zchkM 157 = true := by decide +kernel
set_option maxRecDepth 100000 in
theorem zk_158 : zchkM 158 = true := by decide +kernel
set_option maxRecDepth 100000 in
theorem zk_159 : zchkM 159 = true := by decide +kernel
set_option maxRecDepth 100000 in
theorem zk_160 : zchkM 160 = true := by decide +kernel
set_option maxRecDepth 100000 in
theorem zk_161 : zchkM 161 = true := by decide +kernel
set_option maxRecDepth 100000 in
theorem zk_162 : zchkM 162 = true := by decide +kernel
set_option maxRecDepth 100000 in
theorem zk_163 : zchkM 163 = true := by decide +kernel
set_option maxRecDepth 100000 in
theorem zk_164 : zchkM 164 = true := by decide +kernel
set_option maxRecDepth 100000 in
theorem zk_165 : zchkM 165 = true := by decide +kernel
set_option maxRecDepth 100000 in
theorem zk_166 : zchkM 166 = true := by decide +kernel
set_option maxRecDepth 100000 in
theorem zk_167 : zchkM 167 = true := by decide +kernel
set_option maxRecDepth 100000 in
theorem zk_168 : zchkM 168 = true := by decide +kernel
set_option maxRecDepth 100000 in
theorem zk_169 : zchkM 169 = true := by decide +kernel
set_option maxRecDepth 100000 in
theorem zk_170 : zchkM 170 = true := by decide +kernel
set_option maxRecDepth 100000 in
theorem zk_171 : zchkM 171 = true := by decide +kernel
set_option maxRecDepth 100000 in
theorem zk_172 : zchkM 172 = true := by decide +kernel
set_option maxRecDepth 100000 in
theorem zk_173 : zchkM 173 = true := by decide +kernel
set_option maxRecDepth 100000 in
theorem zk_174 : zchkM 174 = true := by decide +kernel
set_option maxRecDepth 100000 in
theorem zk_175 : zchkM 175 = true := by decide +kernel
set_option maxRecDepth 100000 in
theorem zk_176 : zchkM 176 = true := by decide +kernel
set_option maxRecDepth 100000 in
theorem zk_177 : zchkM 177 = true := by decide +kernel
set_option maxRecDepth 100000 in
theorem zk_178 : zchkM 178 = true := by decide +kernel
set_option maxRecDepth 100000 in
theorem zk_179 : zchkM 179 = true := by decide +kernel
set_option maxRecDepth 100000 in
theorem zk_180 : zchkM 180 = true := by decide +kernel
set_option maxRecDepth 100000 in
theorem zk_181 : zchkM 181 = true := by decide +kernel
set_option maxRecDepth 100000 in
theorem zk_182 : zchkM 182 = true := by decide +kernel
set_option maxRecDepth 100000 in
theorem zk_183 : zchkM 183 = true := by decide +kernel
set_option maxRecDepth 100000 in
theorem zk_184 : zchkM 184 = true := by decide +kernel
set_option maxRecDepth 100000 in
theorem zk_185 : zchkM 185 = true := by decide +kernel
set_option maxRecDepth 100000 in
theorem zk_186 : zchkM 186 = true := by decide +kernel
set_option maxRecDepth 100000 in
theorem zk_187 : zchkM 187 = true := by decide +kernel
set_option maxRecDepth 100000 in
theorem zk_188 : zchkM 188 = true := by decide +kernel
set_option maxRecDepth 100000 in
theorem zk_189 : zchkM 189 = true := by decide +kernel
set_option maxRecDepth 100000 in
theorem zk_190 : zchkM 190 = true := by decide +kernel
set_option maxRecDepth 100000 in
theorem zk_191 : zchkM 191 = true := by decide +kernel
set_option maxRecDepth 100000 in
theorem zk_192 : zchkM 192 = true := by decide +kernel
set_option maxRecDepth 100000 in
theorem zk_193 : zchkM 193 = true := by decide +kernel
set_option maxRecDepth 100000 in
theorem zk_194 : zchkM 194 = true := by decide +kernel
set_option maxRecDepth 100000 in
theorem zk_195 : zchkM 195 = true := by decide +kernel
set_option maxRecDepth 100000 in
theorem zk_196 : zchkM 196 = true := by decide +kernel
set_option maxRecDepth 100000 in
theorem zk_197 : zchkM 197 = true := by decide +kernel
set_option maxRecDepth 100000 in
theorem zk_198 : zchkM 198 = true := by decide +kernel
set_option maxRecDepth 100000 in
theorem zk_199 : zchkM 199 = true := by decide +kernel
set_option maxRecDepth 100000 in
theorem zk_200 : zchkM 200 = true := by decide +kernel
set_option maxRecDepth 100000 in
theorem zk_201 : zchkM 201 = true := by decide +kernel
set_option maxRecDepth 100000 in
theorem zk_202 : zchkM 202 = true := by decide +kernel
set_option maxRecDepth 100000 in
theorem zk_203 : zchkM 203 = true := by decide +kernel
set_option maxRecDepth 100000 in
theorem zk_204 : zchkM 204 = true := by decide +kernel
set_option maxRecDepth 100000 in
theorem zk_205 : zchkM 205 = true := by decide +kernel
set_option maxRecDepth 100000 in
theorem zk_206 : zchkM 206 = true := by decide +kernel
set_option maxRecDepth 100000 in
theorem zk_207 : zchkM 207 = true := by decide +kernel
set_option maxRecDepth 100000 in
theorem zk_208 : zchkM 208 = true := by decide +kernel
set_option maxRecDepth 100000 in
theorem zk_209 : zchkM 209 = true := by decide +kernel
set_option maxRecDepth 100000 in
theorem zk_210 : zchkM 210 = true := by decide +kernel
set_option maxRecDepth 100000 in
theorem zk_211 : zchkM 211 = true := by decide +kernel
set_option maxRecDepth 100000 in
theorem zk_212 : zchkM 212 = true := by decide +kernel
set_option maxRecDepth 100000 in
theorem zk_213 : zchkM 213 = true := by decide +kernel
set_option maxRecDepth 100000 in
theorem zk_214 : zchkM 214 = true := by decide +kernel
set_option maxRecDepth 100000 in
theorem zk_215 : zchkM 215 = true := by decide +kernel
set_option maxRecDepth 100000 in
theorem zk_216 : zchkM 216 = true := by decide +kernel
set_option maxRecDepth 100000 in
theorem zk_217 : zchkM 217 = true := by decide +kernel
set_option maxRecDepth 100000 in
theorem zk_218 : zchkM 218 = true := by decide +kernel
set_option maxRecDepth 100000 in
theorem zk_219 : zchkM 219 = true := by decide +kernel
set_option maxRecDepth 100000 in
theorem zk_220 : zchkM 220 = true := by decide +kernel
set_option maxRecDepth 100000 in
theorem zk_221 : zchkM 221 = true := by decide +kernel
set_option maxRecDepth 100000 in
theorem zk_222 : zchkM 222 = true := by decide +kernel
set_option maxRecDepth 100000 in
theorem zk_223 : zchkM 223 = true := by decide +kernel
set_option maxRecDepth 100000 in
theorem zk_224 : zchkM 224 = true := by decide +kernel
set_option maxRecDepth 100000 in
theorem zk_225 : zchkM 225 = true := by decide +kernel
set_option maxRecDepth 100000 in
theorem zk_226 : zchkM 226 = true := by decide +kernel
set_option maxRecDepth 100000 in
theorem zk_227 : zchkM 227 = true := by decide +kernel
set_option maxRecDepth 100000 in
theorem zk_228 : zchkM 228 = true := by decide +kernel
set_option maxRecDepth 100000 in
theorem zk_229 : zchkM 229 = true := by decide +kernel
set_option maxRecDepth 100000 in
theorem zk_230 : zchkM 230 = true := by decide +kernel
set_option maxRecDepth 100000 in
theorem zk_231 : zchkM 231 = true := by decide +kernel
set_option maxRecDepth 100000 in
theorem zk_232 : zchkM 232 = true := by decide +kernel
set_option maxRecDepth 100000 in
theorem zk_233 : zchkM 233 = true := by decide +kernel
set_option maxRecDepth 100000 in
theorem zk_234 : zchkM 234 = true := by decide +kernel
set_option maxRecDepth 100000 in
theorem zk_235 : zchkM 235 = true := by decide +kernel
set_option maxRecDepth 100000 in
theorem zk_236 : zchkM 236 = true := by decide +kernel
set_option maxRecDepth 100000 in
theorem zk_237 : zchkM 237 = true := by decide +kernel
set_option maxRecDepth 100000 in
theorem zk_238 : zchkM 238 = true := by decide +kernel
set_option maxRecDepth 100000 in
theorem zk_239 : zchkM 239 = true := by decide +kernel
set_option maxRecDepth 100000 in
theorem zk_240 : zchkM 240 = true := by decide +kernel
set_option maxRecDepth 100000 in
theorem zk_241 : zchkM 241 = true := by decide +kernel
set_option maxRecDepth 100000 in
theorem zk_242 : zchkM 242 = true := by decide +kernel
set_option maxRecDepth 100000 in
theorem zk_243 : zchkM 243 = true := by decide +kernel
set_option maxRecDepth 100000 in
theorem zk_244 : zchkM 244 = true := by decide +kernel
set_option maxRecDepth 100000 in
theorem zk_245 : zchkM 245 = true := by decide +kernel
set_option maxRecDepth 100000 in
theorem zk_246 : zchkM 246 = true := by decide +kernel
set_option maxRecDepth 100000 in
theorem zk_247 : zchkM 247 = true := by decide +kernel
set_option maxRecDepth 100000 in
theorem zk_248 : zchkM 248 = true := by decide +kernel
set_option maxRecDepth 100000 in
theorem zk_249 : zchkM 249 = true := by decide +kernel
set_option maxRecDepth 100000 in
theorem zk_250 : zchkM 250 = true := by decide +kernel
set_option maxRecDepth 100000 in
theorem zk_251 : zchkM 251 = true := by decide +kernel
set_option maxRecDepth 100000 in
theorem zk_252 : zchkM 252 = true := by decide +kernel
set_option maxRecDepth 100000 in
theorem zk_253 : zchkM 253 = true := by decide +kernel
