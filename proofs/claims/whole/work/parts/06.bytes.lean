/-! EVERY BLOCK AGAINST THE BYTES -/
set_option maxRecDepth 100000 in
theorem zk_0 : zchkM 0 = true := by decide +kernel
set_option maxRecDepth 100000 in
theorem zk_1 : zchkM 1 = true := by decide +kernel
set_option maxRecDepth 100000 in
theorem zk_2 : zchkM 2 = true := by decide +kernel
set_option maxRecDepth 100000 in
theorem zk_3 : zchkM 3 = true := by decide +kernel
set_option maxRecDepth 100000 in
theorem zk_4 : zchkM 4 = true := by decide +kernel
set_option maxRecDepth 100000 in
theorem zk_5 : zchkM 5 = true := by decide +kernel
set_option maxRecDepth 100000 in
theorem zk_6 : zchkM 6 = true := by decide +kernel
set_option maxRecDepth 100000 in
theorem zk_7 : zchkM 7 = true := by decide +kernel
set_option maxRecDepth 100000 in
theorem zk_8 : zchkM 8 = true := by decide +kernel
set_option maxRecDepth 100000 in
theorem zk_9 : zchkM 9 = true := by decide +kernel
set_option maxRecDepth 100000 in
theorem zk_10 : zchkM 10 = true := by decide +kernel
set_option maxRecDepth 100000 in
theorem zk_11 : zchkM 11 = true := by decide +kernel
set_option maxRecDepth 100000 in
theorem zk_12 : zchkM 12 = true := by decide +kernel
set_option maxRecDepth 100000 in
theorem zk_13 : zchkM 13 = true := by decide +kernel
set_option maxRecDepth 100000 in
theorem zk_14 : zchkM 14 = true := by decide +kernel
set_option maxRecDepth 100000 in
theorem zk_15 : zchkM 15 = true := by decide +kernel
set_option maxRecDepth 100000 in
theorem zk_16 : zchkM 16 = true := by decide +kernel
set_option maxRecDepth 100000 in
theorem zk_17 : zchkM 17 = true := by decide +kernel
set_option maxRecDepth 100000 in
theorem zk_18 : zchkM 18 = true := by decide +kernel
set_option maxRecDepth 100000 in
theorem zk_19 : zchkM 19 = true := by decide +kernel
set_option maxRecDepth 100000 in
theorem zk_20 : zchkM 20 = true := by decide +kernel
set_option maxRecDepth 100000 in
theorem zk_21 : zchkM 21 = true := by decide +kernel
set_option maxRecDepth 100000 in
theorem zk_22 : zchkM 22 = true := by decide +kernel
set_option maxRecDepth 100000 in
theorem zk_23 : zchkM 23 = true := by decide +kernel
set_option maxRecDepth 100000 in
theorem zk_24 : zchkM 24 = true := by decide +kernel
set_option maxRecDepth 100000 in
theorem zk_25 : zchkM 25 = true := by decide +kernel
set_option maxRecDepth 100000 in
theorem zk_26 : zchkM 26 = true := by decide +kernel
set_option maxRecDepth 100000 in
theorem zk_27 : zchkM 27 = true := by decide +kernel
set_option maxRecDepth 100000 in
theorem zk_28 : zchkM 28 = true := by decide +kernel
set_option maxRecDepth 100000 in
theorem zk_29 : zchkM 29 = true := by decide +kernel
set_option maxRecDepth 100000 in
theorem zk_30 : zchkM 30 = true := by decide +kernel
set_option maxRecDepth 100000 in
theorem zk_31 : zchkM 31 = true := by decide +kernel
set_option maxRecDepth 100000 in
theorem zk_32 : zchkM 32 = true := by decide +kernel
set_option maxRecDepth 100000 in
theorem zk_33 : zchkM 33 = true := by decide +kernel
set_option maxRecDepth 100000 in
theorem zk_34 : zchkM 34 = true := by decide +kernel
set_option maxRecDepth 100000 in
theorem zk_35 : zchkM 35 = true := by decide +kernel
set_option maxRecDepth 100000 in
theorem zk_36 : zchkM 36 = true := by decide +kernel
set_option maxRecDepth 100000 in
theorem zk_37 : zchkM 37 = true := by decide +kernel
set_option maxRecDepth 100000 in
theorem zk_38 : zchkM 38 = true := by decide +kernel
set_option maxRecDepth 100000 in
theorem zk_39 : zchkM 39 = true := by decide +kernel
set_option maxRecDepth 100000 in
theorem zk_40 : zchkM 40 = true := by decide +kernel
set_option maxRecDepth 100000 in
theorem zk_41 : zchkM 41 = true := by decide +kernel
set_option maxRecDepth 100000 in
theorem zk_42 : zchkM 42 = true := by decide +kernel
set_option maxRecDepth 100000 in
theorem zk_43 : zchkM 43 = true := by decide +kernel
set_option maxRecDepth 100000 in
theorem zk_44 : zchkM 44 = true := by decide +kernel
set_option maxRecDepth 100000 in
theorem zk_45 : zchkM 45 = true := by decide +kernel
set_option maxRecDepth 100000 in
theorem zk_46 : zchkM 46 = true := by decide +kernel
set_option maxRecDepth 100000 in
theorem zk_47 : zchkM 47 = true := by decide +kernel
set_option maxRecDepth 100000 in
theorem zk_48 : zchkM 48 = true := by decide +kernel
set_option maxRecDepth 100000 in
theorem zk_49 : zchkM 49 = true := by decide +kernel
set_option maxRecDepth 100000 in
theorem zk_50 : zchkM 50 = true := by decide +kernel
set_option maxRecDepth 100000 in
theorem zk_51 : zchkM 51 = true := by decide +kernel
set_option maxRecDepth 100000 in
theorem zk_52 : zchkM 52 = true := by decide +kernel
set_option maxRecDepth 100000 in
theorem zk_53 : zchkM 53 = true := by decide +kernel
set_option maxRecDepth 100000 in
theorem zk_54 : zchkM 54 = true := by decide +kernel
set_option maxRecDepth 100000 in
theorem zk_55 : zchkM 55 = true := by decide +kernel
set_option maxRecDepth 100000 in
theorem zk_56 : zchkM 56 = true := by decide +kernel
set_option maxRecDepth 100000 in
theorem zk_57 : zchkM 57 = true := by decide +kernel
set_option maxRecDepth 100000 in
theorem zk_58 : zchkM 58 = true := by decide +kernel
set_option maxRecDepth 100000 in
theorem zk_59 : zchkM 59 = true := by decide +kernel
set_option maxRecDepth 100000 in
theorem zk_60 : zchkM 60 = true := by decide +kernel
set_option maxRecDepth 100000 in
theorem zk_61 : zchkM 61 = true := by decide +kernel
set_option maxRecDepth 100000 in
theorem zk_62 : zchkM 62 = true := by decide +kernel
set_option maxRecDepth 100000 in
theorem zk_63 : zchkM 63 = true := by decide +kernel
set_option maxRecDepth 100000 in
theorem zk_64 : zchkM 64 = true := by decide +kernel
set_option maxRecDepth 100000 in
theorem zk_65 : zchkM 65 = true := by decide +kernel
set_option maxRecDepth 100000 in
theorem zk_66 : zchkM 66 = true := by decide +kernel
set_option maxRecDepth 100000 in
theorem zk_67 : zchkM 67 = true := by decide +kernel
set_option maxRecDepth 100000 in
theorem zk_68 : zchkM 68 = true := by decide +kernel
set_option maxRecDepth 100000 in
theorem zk_69 : zchkM 69 = true := by decide +kernel
set_option maxRecDepth 100000 in
theorem zk_70 : zchkM 70 = true := by decide +kernel
set_option maxRecDepth 100000 in
theorem zk_71 : zchkM 71 = true := by decide +kernel
set_option maxRecDepth 100000 in
theorem zk_72 : zchkM 72 = true := by decide +kernel
set_option maxRecDepth 100000 in
theorem zk_73 : zchkM 73 = true := by decide +kernel
set_option maxRecDepth 100000 in
theorem zk_74 : zchkM 74 = true := by decide +kernel
set_option maxRecDepth 100000 in
theorem zk_75 : zchkM 75 = true := by decide +kernel
set_option maxRecDepth 100000 in
theorem zk_76 : zchkM 76 = true := by decide +kernel
set_option maxRecDepth 100000 in
theorem zk_77 : zchkM 77 = true := by decide +kernel
set_option maxRecDepth 100000 in
theorem zk_78 : zchkM 78 = true := by decide +kernel
set_option maxRecDepth 100000 in
theorem zk_79 : zchkM 79 = true := by decide +kernel
set_option maxRecDepth 100000 in
theorem zk_80 : zchkM 80 = true := by decide +kernel
set_option maxRecDepth 100000 in
theorem zk_81 : zchkM 81 = true := by decide +kernel
set_option maxRecDepth 100000 in
theorem zk_82 : zchkM 82 = true := by decide +kernel
set_option maxRecDepth 100000 in
theorem zk_83 : zchkM 83 = true := by decide +kernel
set_option maxRecDepth 100000 in
theorem zk_84 : zchkM 84 = true := by decide +kernel
set_option maxRecDepth 100000 in
theorem zk_85 : zchkM 85 = true := by decide +kernel
set_option maxRecDepth 100000 in
theorem zk_86 : zchkM 86 = true := by decide +kernel
set_option maxRecDepth 100000 in
theorem zk_87 : zchkM 87 = true := by decide +kernel
set_option maxRecDepth 100000 in
theorem zk_88 : zchkM 88 = true := by decide +kernel
set_option maxRecDepth 100000 in
theorem zk_89 : zchkM 89 = true := by decide +kernel
set_option maxRecDepth 100000 in
theorem zk_90 : zchkM 90 = true := by decide +kernel
set_option maxRecDepth 100000 in
theorem zk_91 : zchkM 91 = true := by decide +kernel
set_option maxRecDepth 100000 in
theorem zk_92 : zchkM 92 = true := by decide +kernel
set_option maxRecDepth 100000 in
theorem zk_93 : zchkM 93 = true := by decide +kernel
set_option maxRecDepth 100000 in
theorem zk_94 : zchkM 94 = true := by decide +kernel
set_option maxRecDepth 100000 in
theorem zk_95 : zchkM 95 = true := by decide +kernel
set_option maxRecDepth 100000 in
theorem zk_96 : zchkM 96 = true := by decide +kernel
set_option maxRecDepth 100000 in
theorem zk_97 : zchkM 97 = true := by decide +kernel
set_option maxRecDepth 100000 in
theorem zk_98 : zchkM 98 = true := by decide +kernel
set_option maxRecDepth 100000 in
theorem zk_99 : zchkM 99 = true := by decide +kernel
set_option maxRecDepth 100000 in
theorem zk_100 : zchkM 100 = true := by decide +kernel
set_option maxRecDepth 100000 in
theorem zk_101 : zchkM 101 = true := by decide +kernel
set_option maxRecDepth 100000 in
theorem zk_102 : zchkM 102 = true := by decide +kernel
set_option maxRecDepth 100000 in
theorem zk_103 : zchkM 103 = true := by decide +kernel
set_option maxRecDepth 100000 in
theorem zk_104 : zchkM 104 = true := by decide +kernel
set_option maxRecDepth 100000 in
theorem zk_105 : zchkM 105 = true := by decide +kernel
set_option maxRecDepth 100000 in
theorem zk_106 : zchkM 106 = true := by decide +kernel
set_option maxRecDepth 100000 in
theorem zk_107 : zchkM 107 = true := by decide +kernel
set_option maxRecDepth 100000 in
theorem zk_108 : zchkM 108 = true := by decide +kernel
set_option maxRecDepth 100000 in
theorem zk_109 : zchkM 109 = true := by decide +kernel
set_option maxRecDepth 100000 in
theorem zk_110 : zchkM 110 = true := by decide +kernel
set_option maxRecDepth 100000 in
theorem zk_111 : zchkM 111 = true := by decide +kernel
set_option maxRecDepth 100000 in
theorem zk_112 : zchkM 112 = true := by decide +kernel
set_option maxRecDepth 100000 in
theorem zk_113 : zchkM 113 = true := by decide +kernel
set_option maxRecDepth 100000 in
theorem zk_114 : zchkM 114 = true := by decide +kernel
set_option maxRecDepth 100000 in
theorem zk_115 : zchkM 115 = true := by decide +kernel
set_option maxRecDepth 100000 in
theorem zk_116 : zchkM 116 = true := by decide +kernel
set_option maxRecDepth 100000 in
theorem zk_117 : zchkM 117 = true := by decide +kernel
set_option maxRecDepth 100000 in
theorem zk_118 : zchkM 118 = true := by decide +kernel
set_option maxRecDepth 100000 in
theorem zk_119 : zchkM 119 = true := by decide +kernel
set_option maxRecDepth 100000 in
theorem zk_120 : zchkM 120 = true := by decide +kernel
set_option maxRecDepth 100000 in
theorem zk_121 : zchkM 121 = true := by decide +kernel
set_option maxRecDepth 100000 in
theorem zk_122 : zchkM 122 = true := by decide +kernel
set_option maxRecDepth 100000 in
theorem zk_123 : zchkM 123 = true := by decide +kernel
set_option maxRecDepth 100000 in
theorem zk_124 : zchkM 124 = true := by decide +kernel
set_option maxRecDepth 100000 in
theorem zk_125 : zchkM 125 = true := by decide +kernel
set_option maxRecDepth 100000 in
theorem zk_126 : zchkM 126 = true := by decide +kernel
set_option maxRecDepth 100000 in
theorem zk_127 : zchkM 127 = true := by decide +kernel
set_option maxRecDepth 100000 in
theorem zk_128 : zchkM 128 = true := by decide +kernel
set_option maxRecDepth 100000 in
theorem zk_129 : zchkM 129 = true := by decide +kernel
set_option maxRecDepth 100000 in
theorem zk_130 : zchkM 130 = true := by decide +kernel
set_option maxRecDepth 100000 in
theorem zk_131 : zchkM 131 = true := by decide +kernel
set_option maxRecDepth 100000 in
theorem zk_132 : zchkM 132 = true := by decide +kernel
set_option maxRecDepth 100000 in
theorem zk_133 : zchkM 133 = true := by decide +kernel
set_option maxRecDepth 100000 in
theorem zk_134 : zchkM 134 = true := by decide +kernel
set_option maxRecDepth 100000 in
theorem zk_135 : zchkM 135 = true := by decide +kernel
set_option maxRecDepth 100000 in
theorem zk_136 : zchkM 136 = true := by decide +kernel
set_option maxRecDepth 100000 in
theorem zk_137 : zchkM 137 = true := by decide +kernel
set_option maxRecDepth 100000 in
theorem zk_138 : zchkM 138 = true := by decide +kernel
set_option maxRecDepth 100000 in
theorem zk_139 : zchkM 139 = true := by decide +kernel
set_option maxRecDepth 100000 in
theorem zk_140 : zchkM 140 = true := by decide +kernel
set_option maxRecDepth 100000 in
theorem zk_141 : zchkM 141 = true := by decide +kernel
set_option maxRecDepth 100000 in
theorem zk_142 : zchkM 142 = true := by decide +kernel
set_option maxRecDepth 100000 in
theorem zk_143 : zchkM 143 = true := by decide +kernel
set_option maxRecDepth 100000 in
theorem zk_144 : zchkM 144 = true := by decide +kernel
set_option maxRecDepth 100000 in
theorem zk_145 : zchkM 145 = true := by decide +kernel
set_option maxRecDepth 100000 in
theorem zk_146 : zchkM 146 = true := by decide +kernel
set_option maxRecDepth 100000 in
theorem zk_147 : zchkM 147 = true := by decide +kernel
set_option maxRecDepth 100000 in
theorem zk_148 : zchkM 148 = true := by decide +kernel
set_option maxRecDepth 100000 in
theorem zk_149 : zchkM 149 = true := by decide +kernel
set_option maxRecDepth 100000 in
theorem zk_150 : zchkM 150 = true := by decide +kernel
set_option maxRecDepth 100000 in
theorem zk_151 : zchkM 151 = true := by decide +kernel
set_option maxRecDepth 100000 in
theorem zk_152 : zchkM 152 = true := by decide +kernel
set_option maxRecDepth 100000 in
theorem zk_153 : zchkM 153 = true := by decide +kernel
set_option maxRecDepth 100000 in
theorem zk_154 : zchkM 154 = true := by decide +kernel
set_option maxRecDepth 100000 in
theorem zk_155 : zchkM 155 = true := by decide +kernel
set_option maxRecDepth 100000 in
theorem zk_156 : zchkM 156 = true := by decide +kernel
set_option maxRecDepth 100000 in
theorem zk_157 : zchkM 157 = true := by decide +kernel
set_option maxRecDepth 100000 in
theorem zk_158 : zchkM 158 = true := by decide +kernel
set_option maxRecDepth 100000 in
theorem zk_159 : zchkM 159 = true := by decide +kernel
set_option maxRecDepth 100000 in
theorem zk_160 : zchkM 160 = true := by decide +kernel
set_option maxRecDepth 100000 in
theorem zk_161 : zchkM 161 = true := by decide +kernel
set_option maxRecDepth 100000 in
theorem zk_162 : zchkM 162 = true := by decide +kernel
set_option maxRecDepth 100000 in
theorem zk_163 : zchkM 163 = true := by decide +kernel
set_option maxRecDepth 100000 in
theorem zk_164 : zchkM 164 = true := by decide +kernel
set_option maxRecDepth 100000 in
theorem zk_165 : zchkM 165 = true := by decide +kernel
set_option maxRecDepth 100000 in
theorem zk_166 : zchkM 166 = true := by decide +kernel
set_option maxRecDepth 100000 in
theorem zk_167 : zchkM 167 = true := by decide +kernel
set_option maxRecDepth 100000 in
theorem zk_168 : zchkM 168 = true := by decide +kernel
set_option maxRecDepth 100000 in
theorem zk_169 : zchkM 169 = true := by decide +kernel
set_option maxRecDepth 100000 in
theorem zk_170 : zchkM 170 = true := by decide +kernel
set_option maxRecDepth 100000 in
theorem zk_171 : zchkM 171 = true := by decide +kernel
set_option maxRecDepth 100000 in
theorem zk_172 : zchkM 172 = true := by decide +kernel
set_option maxRecDepth 100000 in
theorem zk_173 : zchkM 173 = true := by decide +kernel
set_option maxRecDepth 100000 in
theorem zk_174 : zchkM 174 = true := by decide +kernel
set_option maxRecDepth 100000 in
theorem zk_175 : zchkM 175 = true := by decide +kernel
set_option maxRecDepth 100000 in
theorem zk_176 : zchkM 176 = true := by decide +kernel
set_option maxRecDepth 100000 in
theorem zk_177 : zchkM 177 = true := by decide +kernel
set_option maxRecDepth 100000 in
theorem zk_178 : zchkM 178 = true := by decide +kernel
set_option maxRecDepth 100000 in
theorem zk_179 : zchkM 179 = true := by decide +kernel
set_option maxRecDepth 100000 in
theorem zk_180 : zchkM 180 = true := by decide +kernel
set_option maxRecDepth 100000 in
theorem zk_181 : zchkM 181 = true := by decide +kernel
set_option maxRecDepth 100000 in
theorem zk_182 : zchkM 182 = true := by decide +kernel
set_option maxRecDepth 100000 in
theorem zk_183 : zchkM 183 = true := by decide +kernel
set_option maxRecDepth 100000 in
theorem zk_184 : zchkM 184 = true := by decide +kernel
set_option maxRecDepth 100000 in
theorem zk_185 : zchkM 185 = true := by decide +kernel
set_option maxRecDepth 100000 in
theorem zk_186 : zchkM 186 = true := by decide +kernel
set_option maxRecDepth 100000 in
theorem zk_187 : zchkM 187 = true := by decide +kernel
set_option maxRecDepth 100000 in
theorem zk_188 : zchkM 188 = true := by decide +kernel
set_option maxRecDepth 100000 in
theorem zk_189 : zchkM 189 = true := by decide +kernel
set_option maxRecDepth 100000 in
theorem zk_190 : zchkM 190 = true := by decide +kernel
set_option maxRecDepth 100000 in
theorem zk_191 : zchkM 191 = true := by decide +kernel
set_option maxRecDepth 100000 in
theorem zk_192 : zchkM 192 = true := by decide +kernel
set_option maxRecDepth 100000 in
theorem zk_193 : zchkM 193 = true := by decide +kernel
set_option maxRecDepth 100000 in
theorem zk_194 : zchkM 194 = true := by decide +kernel
set_option maxRecDepth 100000 in
theorem zk_195 : zchkM 195 = true := by decide +kernel
set_option maxRecDepth 100000 in
theorem zk_196 : zchkM 196 = true := by decide +kernel
set_option maxRecDepth 100000 in
theorem zk_197 : zchkM 197 = true := by decide +kernel
set_option maxRecDepth 100000 in
theorem zk_198 : zchkM 198 = true := by decide +kernel
set_option maxRecDepth 100000 in
theorem zk_199 : zchkM 199 = true := by decide +kernel
set_option maxRecDepth 100000 in
theorem zk_200 : zchkM 200 = true := by decide +kernel
set_option maxRecDepth 100000 in
theorem zk_201 : zchkM 201 = true := by decide +kernel
set_option maxRecDepth 100000 in
theorem zk_202 : zchkM 202 = true := by decide +kernel
set_option maxRecDepth 100000 in
theorem zk_203 : zchkM 203 = true := by decide +kernel
set_option maxRecDepth 100000 in
theorem zk_204 : zchkM 204 = true := by decide +kernel
set_option maxRecDepth 100000 in
theorem zk_205 : zchkM 205 = true := by decide +kernel
set_option maxRecDepth 100000 in
theorem zk_206 : zchkM 206 = true := by decide +kernel
set_option maxRecDepth 100000 in
theorem zk_207 : zchkM 207 = true := by decide +kernel
set_option maxRecDepth 100000 in
theorem zk_208 : zchkM 208 = true := by decide +kernel
set_option maxRecDepth 100000 in
theorem zk_209 : zchkM 209 = true := by decide +kernel
set_option maxRecDepth 100000 in
theorem zk_210 : zchkM 210 = true := by decide +kernel
set_option maxRecDepth 100000 in
theorem zk_211 : zchkM 211 = true := by decide +kernel
set_option maxRecDepth 100000 in
theorem zk_212 : zchkM 212 = true := by decide +kernel
set_option maxRecDepth 100000 in
theorem zk_213 : zchkM 213 = true := by decide +kernel
set_option maxRecDepth 100000 in
theorem zk_214 : zchkM 214 = true := by decide +kernel
set_option maxRecDepth 100000 in
theorem zk_215 : zchkM 215 = true := by decide +kernel
set_option maxRecDepth 100000 in
theorem zk_216 : zchkM 216 = true := by decide +kernel
set_option maxRecDepth 100000 in
theorem zk_217 : zchkM 217 = true := by decide +kernel
set_option maxRecDepth 100000 in
theorem zk_218 : zchkM 218 = true := by decide +kernel
set_option maxRecDepth 100000 in
theorem zk_219 : zchkM 219 = true := by decide +kernel
set_option maxRecDepth 100000 in
theorem zk_220 : zchkM 220 = true := by decide +kernel
set_option maxRecDepth 100000 in
theorem zk_221 : zchkM 221 = true := by decide +kernel
set_option maxRecDepth 100000 in
theorem zk_222 : zchkM 222 = true := by decide +kernel
set_option maxRecDepth 100000 in
theorem zk_223 : zchkM 223 = true := by decide +kernel
set_option maxRecDepth 100000 in
theorem zk_224 : zchkM 224 = true := by decide +kernel
set_option maxRecDepth 100000 in
theorem zk_225 : zchkM 225 = true := by decide +kernel
set_option maxRecDepth 100000 in
theorem zk_226 : zchkM 226 = true := by decide +kernel
set_option maxRecDepth 100000 in
theorem zk_227 : zchkM 227 = true := by decide +kernel
set_option maxRecDepth 100000 in
theorem zk_228 : zchkM 228 = true := by decide +kernel
set_option maxRecDepth 100000 in
theorem zk_229 : zchkM 229 = true := by decide +kernel
set_option maxRecDepth 100000 in
theorem zk_230 : zchkM 230 = true := by decide +kernel
set_option maxRecDepth 100000 in
theorem zk_231 : zchkM 231 = true := by decide +kernel
set_option maxRecDepth 100000 in
theorem zk_232 : zchkM 232 = true := by decide +kernel
set_option maxRecDepth 100000 in
theorem zk_233 : zchkM 233 = true := by decide +kernel
set_option maxRecDepth 100000 in
theorem zk_234 : zchkM 234 = true := by decide +kernel
set_option maxRecDepth 100000 in
theorem zk_235 : zchkM 235 = true := by decide +kernel
set_option maxRecDepth 100000 in
theorem zk_236 : zchkM 236 = true := by decide +kernel
set_option maxRecDepth 100000 in
theorem zk_237 : zchkM 237 = true := by decide +kernel
set_option maxRecDepth 100000 in
theorem zk_238 : zchkM 238 = true := by decide +kernel
set_option maxRecDepth 100000 in
theorem zk_239 : zchkM 239 = true := by decide +kernel
set_option maxRecDepth 100000 in
theorem zk_240 : zchkM 240 = true := by decide +kernel
set_option maxRecDepth 100000 in
theorem zk_241 : zchkM 241 = true := by decide +kernel
set_option maxRecDepth 100000 in
theorem zk_242 : zchkM 242 = true := by decide +kernel
set_option maxRecDepth 100000 in
theorem zk_243 : zchkM 243 = true := by decide +kernel
set_option maxRecDepth 100000 in
theorem zk_244 : zchkM 244 = true := by decide +kernel
set_option maxRecDepth 100000 in
theorem zk_245 : zchkM 245 = true := by decide +kernel
set_option maxRecDepth 100000 in
theorem zk_246 : zchkM 246 = true := by decide +kernel
set_option maxRecDepth 100000 in
theorem zk_247 : zchkM 247 = true := by decide +kernel
set_option maxRecDepth 100000 in
theorem zk_248 : zchkM 248 = true := by decide +kernel
set_option maxRecDepth 100000 in
theorem zk_249 : zchkM 249 = true := by decide +kernel
set_option maxRecDepth 100000 in
theorem zk_250 : zchkM 250 = true := by decide +kernel
set_option maxRecDepth 100000 in
theorem zk_251 : zchkM 251 = true := by decide +kernel
set_option maxRecDepth 100000 in
theorem zk_252 : zchkM 252 = true := by decide +kernel
set_option maxRecDepth 100000 in
theorem zk_253 : zchkM 253 = true := by decide +kernel
set_option maxRecDepth 100000 in
theorem zk_254 : zchkM 254 = true := by decide +kernel
theorem zk_out : ∀ k, 255 ≤ k → zchkM k = true := fun k h => by
  have e : zM k = ([], 0) := by
    unfold zM
    rw [List.getElem?_eq_none (Nat.le_trans (Nat.le_of_ble_eq_true rfl) h)]
    rfl
  unfold zchkM
  rw [e]
  rfl
theorem zk_all : ∀ k, zchkM k = true := fun k => by
  by_cases h : 255 ≤ k
  · exact zk_out k h
  · have h2 : ∀ j, j < 255 → zchkM j = true := by
      have key : ∀ (P : Nat → Prop), (∀ j, j < 0 → P j) := fun P j hj => absurd hj (Nat.not_lt_zero j)
      exact lt_s (lt_s (lt_s (lt_s (lt_s (lt_s (lt_s (lt_s (lt_s (lt_s (lt_s (lt_s (lt_s (lt_s (lt_s (lt_s (lt_s (lt_s (lt_s (lt_s (lt_s (lt_s (lt_s (lt_s (lt_s (lt_s (lt_s (lt_s (lt_s (lt_s (lt_s (lt_s (lt_s (lt_s (lt_s (lt_s (lt_s (lt_s (lt_s (lt_s (lt_s (lt_s (lt_s (lt_s (lt_s (lt_s (lt_s (lt_s (lt_s (lt_s (lt_s (lt_s (lt_s (lt_s (lt_s (lt_s (lt_s (lt_s (lt_s (lt_s (lt_s (lt_s (lt_s (lt_s (lt_s (lt_s (lt_s (lt_s (lt_s (lt_s (lt_s (lt_s (lt_s (lt_s (lt_s (lt_s (lt_s (lt_s (lt_s (lt_s (lt_s (lt_s (lt_s (lt_s (lt_s (lt_s (lt_s (lt_s (lt_s (lt_s (lt_s (lt_s (lt_s (lt_s (lt_s (lt_s (lt_s (lt_s (lt_s (lt_s (lt_s (lt_s (lt_s (lt_s (lt_s (lt_s (lt_s (lt_s (lt_s (lt_s (lt_s (lt_s (lt_s (lt_s (lt_s (lt_s (lt_s (lt_s (lt_s (lt_s (lt_s (lt_s (lt_s (lt_s (lt_s (lt_s (lt_s (lt_s (lt_s (lt_s (lt_s (lt_s (lt_s (lt_s (lt_s (lt_s (lt_s (lt_s (lt_s (lt_s (lt_s (lt_s (lt_s (lt_s (lt_s (lt_s (lt_s (lt_s (lt_s (lt_s (lt_s (lt_s (lt_s (lt_s (lt_s (lt_s (lt_s (lt_s (lt_s (lt_s (lt_s (lt_s (lt_s (lt_s (lt_s (lt_s (lt_s (lt_s (lt_s (lt_s (lt_s (lt_s (lt_s (lt_s (lt_s (lt_s (lt_s (lt_s (lt_s (lt_s (lt_s (lt_s (lt_s (lt_s (lt_s (lt_s (lt_s (lt_s (lt_s (lt_s (lt_s (lt_s (lt_s (lt_s (lt_s (lt_s (lt_s (lt_s (lt_s (lt_s (lt_s (lt_s (lt_s (lt_s (lt_s (lt_s (lt_s (lt_s (lt_s (lt_s (lt_s (lt_s (lt_s (lt_s (lt_s (lt_s (lt_s (lt_s (lt_s (lt_s (lt_s (lt_s (lt_s (lt_s (lt_s (lt_s (lt_s (lt_s (lt_s (lt_s (lt_s (lt_s (lt_s (lt_s (lt_s (lt_s (lt_s (lt_s (lt_s (lt_s (lt_s (lt_s (lt_s (lt_s (lt_s (lt_s (lt_s (lt_s (lt_s (lt_s (lt_s (lt_s (lt_s (lt_s (lt_s (lt_0) zk_0) zk_1) zk_2) zk_3) zk_4) zk_5) zk_6) zk_7) zk_8) zk_9) zk_10) zk_11) zk_12) zk_13) zk_14) zk_15) zk_16) zk_17) zk_18) zk_19) zk_20) zk_21) zk_22) zk_23) zk_24) zk_25) zk_26) zk_27) zk_28) zk_29) zk_30) zk_31) zk_32) zk_33) zk_34) zk_35) zk_36) zk_37) zk_38) zk_39) zk_40) zk_41) zk_42) zk_43) zk_44) zk_45) zk_46) zk_47) zk_48) zk_49) zk_50) zk_51) zk_52) zk_53) zk_54) zk_55) zk_56) zk_57) zk_58) zk_59) zk_60) zk_61) zk_62) zk_63) zk_64) zk_65) zk_66) zk_67) zk_68) zk_69) zk_70) zk_71) zk_72) zk_73) zk_74) zk_75) zk_76) zk_77) zk_78) zk_79) zk_80) zk_81) zk_82) zk_83) zk_84) zk_85) zk_86) zk_87) zk_88) zk_89) zk_90) zk_91) zk_92) zk_93) zk_94) zk_95) zk_96) zk_97) zk_98) zk_99) zk_100) zk_101) zk_102) zk_103) zk_104) zk_105) zk_106) zk_107) zk_108) zk_109) zk_110) zk_111) zk_112) zk_113) zk_114) zk_115) zk_116) zk_117) zk_118) zk_119) zk_120) zk_121) zk_122) zk_123) zk_124) zk_125) zk_126) zk_127) zk_128) zk_129) zk_130) zk_131) zk_132) zk_133) zk_134) zk_135) zk_136) zk_137) zk_138) zk_139) zk_140) zk_141) zk_142) zk_143) zk_144) zk_145) zk_146) zk_147) zk_148) zk_149) zk_150) zk_151) zk_152) zk_153) zk_154) zk_155) zk_156) zk_157) zk_158) zk_159) zk_160) zk_161) zk_162) zk_163) zk_164) zk_165) zk_166) zk_167) zk_168) zk_169) zk_170) zk_171) zk_172) zk_173) zk_174) zk_175) zk_176) zk_177) zk_178) zk_179) zk_180) zk_181) zk_182) zk_183) zk_184) zk_185) zk_186) zk_187) zk_188) zk_189) zk_190) zk_191) zk_192) zk_193) zk_194) zk_195) zk_196) zk_197) zk_198) zk_199) zk_200) zk_201) zk_202) zk_203) zk_204) zk_205) zk_206) zk_207) zk_208) zk_209) zk_210) zk_211) zk_212) zk_213) zk_214) zk_215) zk_216) zk_217) zk_218) zk_219) zk_220) zk_221) zk_222) zk_223) zk_224) zk_225) zk_226) zk_227) zk_228) zk_229) zk_230) zk_231) zk_232) zk_233) zk_234) zk_235) zk_236) zk_237) zk_238) zk_239) zk_240) zk_241) zk_242) zk_243) zk_244) zk_245) zk_246) zk_247) zk_248) zk_249) zk_250) zk_251) zk_252) zk_253) zk_254
    exact h2 k (by omega)
set_option maxRecDepth 100000 in
theorem zk0 : ∀ k ∈ zvm ++ zsm, (zpcs k 0).headD 0 = 0 := by decide +kernel
