theorem dL_visits_158 : decode cL_visits 158 = .ok (.ifCond .le 7, 3) := by decide +kernel
theorem dL_visits_161 : decode cL_visits 161 = .ok (.iconst 1, 1) := by decide +kernel
theorem dL_visits_162 : decode cL_visits 162 = .ok (.goto 4, 3) := by decide +kernel
theorem dL_visits_165 : decode cL_visits 165 = .ok (.iconst 0, 1) := by decide +kernel
theorem dL_visits_166 : decode cL_visits 166 = .ok (.iadd, 1) := by decide +kernel
theorem dL_visits_167 : decode cL_visits 167 = .ok (.istore 7, 2) := by decide +kernel
theorem dL_visits_169 : decode cL_visits 169 = .ok (.aload_n 2, 1) := by decide +kernel
theorem dL_visits_170 : decode cL_visits 170 = .ok (.bipush 6, 2) := by decide +kernel
theorem dL_visits_172 : decode cL_visits 172 = .ok (.iload_n 0, 1) := by decide +kernel
theorem dL_visits_173 : decode cL_visits 173 = .ok (.imul, 1) := by decide +kernel
theorem dL_visits_174 : decode cL_visits 174 = .ok (.iconst 2, 1) := by decide +kernel
theorem dL_visits_175 : decode cL_visits 175 = .ok (.iadd, 1) := by decide +kernel
theorem dL_visits_176 : decode cL_visits 176 = .ok (.aload 4, 2) := by decide +kernel
theorem dL_visits_178 : decode cL_visits 178 = .ok (.iconst 0, 1) := by decide +kernel
theorem dL_visits_179 : decode cL_visits 179 = .ok (.iaload, 1) := by decide +kernel
theorem dL_visits_180 : decode cL_visits 180 = .ok (.iload 7, 2) := by decide +kernel
theorem dL_visits_182 : decode cL_visits 182 = .ok (.aload 4, 2) := by decide +kernel
theorem dL_visits_184 : decode cL_visits 184 = .ok (.iconst 2, 1) := by decide +kernel
theorem dL_visits_185 : decode cL_visits 185 = .ok (.iaload, 1) := by decide +kernel
theorem dL_visits_186 : decode cL_visits 186 = .ok (.if_icmp .le 10, 3) := by decide +kernel
theorem dL_visits_189 : decode cL_visits 189 = .ok (.aload 4, 2) := by decide +kernel
theorem dL_visits_191 : decode cL_visits 191 = .ok (.iconst 2, 1) := by decide +kernel
theorem dL_visits_192 : decode cL_visits 192 = .ok (.iaload, 1) := by decide +kernel
theorem dL_visits_193 : decode cL_visits 193 = .ok (.goto 5, 3) := by decide +kernel
theorem dL_visits_196 : decode cL_visits 196 = .ok (.iload 7, 2) := by decide +kernel
theorem dL_visits_198 : decode cL_visits 198 = .ok (.iadd, 1) := by decide +kernel
theorem dL_visits_199 : decode cL_visits 199 = .ok (.iastore, 1) := by decide +kernel
theorem dL_visits_200 : decode cL_visits 200 = .ok (.goto 37, 3) := by decide +kernel
theorem dL_visits_203 : decode cL_visits 203 = .ok (.iload_n 1, 1) := by decide +kernel
theorem dL_visits_204 : decode cL_visits 204 = .ok (.iconst 2, 1) := by decide +kernel
theorem dL_visits_205 : decode cL_visits 205 = .ok (.if_icmp .ne 23, 3) := by decide +kernel
theorem dL_visits_208 : decode cL_visits 208 = .ok (.aload_n 2, 1) := by decide +kernel
theorem dL_visits_209 : decode cL_visits 209 = .ok (.bipush 6, 2) := by decide +kernel
theorem dL_visits_211 : decode cL_visits 211 = .ok (.iload_n 0, 1) := by decide +kernel
theorem dL_visits_212 : decode cL_visits 212 = .ok (.imul, 1) := by decide +kernel
theorem dL_visits_213 : decode cL_visits 213 = .ok (.iconst 2, 1) := by decide +kernel
theorem dL_visits_214 : decode cL_visits 214 = .ok (.iadd, 1) := by decide +kernel
theorem dL_visits_215 : decode cL_visits 215 = .ok (.aload 4, 2) := by decide +kernel
theorem dL_visits_217 : decode cL_visits 217 = .ok (.iconst 0, 1) := by decide +kernel
theorem dL_visits_218 : decode cL_visits 218 = .ok (.iaload, 1) := by decide +kernel
theorem dL_visits_219 : decode cL_visits 219 = .ok (.aload 4, 2) := by decide +kernel
theorem dL_visits_221 : decode cL_visits 221 = .ok (.iconst 1, 1) := by decide +kernel
theorem dL_visits_222 : decode cL_visits 222 = .ok (.iaload, 1) := by decide +kernel
theorem dL_visits_223 : decode cL_visits 223 = .ok (.iadd, 1) := by decide +kernel
theorem dL_visits_224 : decode cL_visits 224 = .ok (.iastore, 1) := by decide +kernel
theorem dL_visits_225 : decode cL_visits 225 = .ok (.goto 12, 3) := by decide +kernel
theorem dL_visits_228 : decode cL_visits 228 = .ok (.aload_n 2, 1) := by decide +kernel
theorem dL_visits_229 : decode cL_visits 229 = .ok (.bipush 6, 2) := by decide +kernel
theorem dL_visits_231 : decode cL_visits 231 = .ok (.iload_n 0, 1) := by decide +kernel
theorem dL_visits_232 : decode cL_visits 232 = .ok (.imul, 1) := by decide +kernel
theorem dL_visits_233 : decode cL_visits 233 = .ok (.iconst 5, 1) := by decide +kernel
theorem dL_visits_234 : decode cL_visits 234 = .ok (.iadd, 1) := by decide +kernel
theorem dL_visits_235 : decode cL_visits 235 = .ok (.iconst 1, 1) := by decide +kernel
theorem dL_visits_236 : decode cL_visits 236 = .ok (.iastore, 1) := by decide +kernel
theorem dL_visits_237 : decode cL_visits 237 = .ok (.aload_n 3, 1) := by decide +kernel
theorem dL_visits_238 : decode cL_visits 238 = .ok (.iload 5, 2) := by decide +kernel
theorem dL_visits_240 : decode cL_visits 240 = .ok (.iaload, 1) := by decide +kernel
theorem dL_visits_241 : decode cL_visits 241 = .ok (.istore 6, 2) := by decide +kernel
theorem dL_visits_243 : decode cL_visits 243 = .ok (.iconst 0, 1) := by decide +kernel
theorem dL_visits_244 : decode cL_visits 244 = .ok (.istore 7, 2) := by decide +kernel
theorem dL_visits_246 : decode cL_visits 246 = .ok (.iload 7, 2) := by decide +kernel
theorem dL_visits_248 : decode cL_visits 248 = .ok (.iconst 5, 1) := by decide +kernel
theorem dL_visits_249 : decode cL_visits 249 = .ok (.if_icmp .ge 26, 3) := by decide +kernel
theorem dL_visits_252 : decode cL_visits 252 = .ok (.iload 7, 2) := by decide +kernel
theorem dL_visits_254 : decode cL_visits 254 = .ok (.aload_n 3, 1) := by decide +kernel
theorem dL_visits_255 : decode cL_visits 255 = .ok (.iload 5, 2) := by decide +kernel
theorem dL_visits_257 : decode cL_visits 257 = .ok (.iconst 1, 1) := by decide +kernel
theorem dL_visits_258 : decode cL_visits 258 = .ok (.iadd, 1) := by decide +kernel
theorem dL_visits_259 : decode cL_visits 259 = .ok (.iaload, 1) := by decide +kernel
theorem dL_visits_260 : decode cL_visits 260 = .ok (.if_icmp .ge 15, 3) := by decide +kernel
theorem dL_visits_263 : decode cL_visits 263 = .ok (.iload 6, 2) := by decide +kernel
theorem dL_visits_265 : decode cL_visits 265 = .ok (.iconst 2, 1) := by decide +kernel
theorem dL_visits_266 : decode cL_visits 266 = .ok (.imul, 1) := by decide +kernel
theorem dL_visits_267 : decode cL_visits 267 = .ok (.istore 6, 2) := by decide +kernel
theorem dL_visits_269 : decode cL_visits 269 = .ok (.iinc 7 1, 3) := by decide +kernel
theorem dL_visits_272 : decode cL_visits 272 = .ok (.goto (-26), 3) := by decide +kernel
theorem dL_visits_275 : decode cL_visits 275 = .ok (.aload_n 3, 1) := by decide +kernel
theorem dL_visits_276 : decode cL_visits 276 = .ok (.iload 5, 2) := by decide +kernel
theorem dL_visits_278 : decode cL_visits 278 = .ok (.iconst 2, 1) := by decide +kernel
theorem dL_visits_279 : decode cL_visits 279 = .ok (.iadd, 1) := by decide +kernel
theorem dL_visits_280 : decode cL_visits 280 = .ok (.aload 4, 2) := by decide +kernel
theorem dL_visits_282 : decode cL_visits 282 = .ok (.iconst 0, 1) := by decide +kernel
theorem dL_visits_283 : decode cL_visits 283 = .ok (.iaload, 1) := by decide +kernel
theorem dL_visits_284 : decode cL_visits 284 = .ok (.iload 6, 2) := by decide +kernel
theorem dL_visits_286 : decode cL_visits 286 = .ok (.iadd, 1) := by decide +kernel
theorem dL_visits_287 : decode cL_visits 287 = .ok (.iastore, 1) := by decide +kernel
theorem dL_visits_288 : decode cL_visits 288 = .ok (.aload_n 3, 1) := by decide +kernel
theorem dL_visits_289 : decode cL_visits 289 = .ok (.iload 5, 2) := by decide +kernel
theorem dL_visits_291 : decode cL_visits 291 = .ok (.iconst 2, 1) := by decide +kernel
theorem dL_visits_292 : decode cL_visits 292 = .ok (.iadd, 1) := by decide +kernel
theorem dL_visits_293 : decode cL_visits 293 = .ok (.iaload, 1) := by decide +kernel
theorem dL_visits_294 : decode cL_visits 294 = .ok (.ireturn, 1) := by decide +kernel
theorem dL_spread_0 : decode cL_spread 0 = .ok (.iconst 0, 1) := by decide +kernel
theorem dL_spread_1 : decode cL_spread 1 = .ok (.istore 4, 2) := by decide +kernel
theorem dL_spread_3 : decode cL_spread 3 = .ok (.iload 4, 2) := by decide +kernel
theorem dL_spread_5 : decode cL_spread 5 = .ok (.aload_n 3, 1) := by decide +kernel
theorem dL_spread_6 : decode cL_spread 6 = .ok (.bipush 6, 2) := by decide +kernel
theorem dL_spread_8 : decode cL_spread 8 = .ok (.iaload, 1) := by decide +kernel
theorem dL_spread_9 : decode cL_spread 9 = .ok (.if_icmp .ge 14, 3) := by decide +kernel
theorem dL_spread_12 : decode cL_spread 12 = .ok (.aload_n 2, 1) := by decide +kernel
theorem dL_spread_13 : decode cL_spread 13 = .ok (.iload 4, 2) := by decide +kernel
theorem dL_spread_15 : decode cL_spread 15 = .ok (.iconst 0, 1) := by decide +kernel
theorem dL_spread_16 : decode cL_spread 16 = .ok (.iastore, 1) := by decide +kernel
theorem dL_spread_17 : decode cL_spread 17 = .ok (.iinc 4 1, 3) := by decide +kernel
theorem dL_spread_20 : decode cL_spread 20 = .ok (.goto (-17), 3) := by decide +kernel
theorem dL_spread_23 : decode cL_spread 23 = .ok (.iconst 0, 1) := by decide +kernel
theorem dL_spread_24 : decode cL_spread 24 = .ok (.istore 4, 2) := by decide +kernel
theorem dL_spread_26 : decode cL_spread 26 = .ok (.iload 4, 2) := by decide +kernel
theorem dL_spread_28 : decode cL_spread 28 = .ok (.iload_n 0, 1) := by decide +kernel
theorem dL_spread_29 : decode cL_spread 29 = .ok (.if_icmp .ge 210, 3) := by decide +kernel
theorem dL_spread_32 : decode cL_spread 32 = .ok (.iconst (-1), 1) := by decide +kernel
theorem dL_spread_33 : decode cL_spread 33 = .ok (.istore 5, 2) := by decide +kernel
theorem dL_spread_35 : decode cL_spread 35 = .ok (.aload_n 3, 1) := by decide +kernel
theorem dL_spread_36 : decode cL_spread 36 = .ok (.bipush 6, 2) := by decide +kernel
theorem dL_spread_38 : decode cL_spread 38 = .ok (.iaload, 1) := by decide +kernel
theorem dL_spread_39 : decode cL_spread 39 = .ok (.iconst 1, 1) := by decide +kernel
theorem dL_spread_40 : decode cL_spread 40 = .ok (.isub, 1) := by decide +kernel
theorem dL_spread_41 : decode cL_spread 41 = .ok (.istore 6, 2) := by decide +kernel
theorem dL_spread_43 : decode cL_spread 43 = .ok (.iload 6, 2) := by decide +kernel
theorem dL_spread_45 : decode cL_spread 45 = .ok (.ifCond .lt 175, 3) := by decide +kernel
theorem dL_spread_48 : decode cL_spread 48 = .ok (.aload_n 1, 1) := by decide +kernel
theorem dL_spread_49 : decode cL_spread 49 = .ok (.bipush 6, 2) := by decide +kernel
theorem dL_spread_51 : decode cL_spread 51 = .ok (.iload 6, 2) := by decide +kernel
theorem dL_spread_53 : decode cL_spread 53 = .ok (.imul, 1) := by decide +kernel
theorem dL_spread_54 : decode cL_spread 54 = .ok (.iconst 4, 1) := by decide +kernel
theorem dL_spread_55 : decode cL_spread 55 = .ok (.iadd, 1) := by decide +kernel
theorem dL_spread_56 : decode cL_spread 56 = .ok (.iaload, 1) := by decide +kernel
theorem dL_spread_57 : decode cL_spread 57 = .ok (.i2l, 1) := by decide +kernel
theorem dL_spread_58 : decode cL_spread 58 = .ok (.lconst 1, 1) := by decide +kernel
theorem dL_spread_59 : decode cL_spread 59 = .ok (.ladd, 1) := by decide +kernel
theorem dL_spread_60 : decode cL_spread 60 = .ok (.lstore 7, 2) := by decide +kernel
theorem dL_spread_62 : decode cL_spread 62 = .ok (.iload 5, 2) := by decide +kernel
theorem dL_spread_64 : decode cL_spread 64 = .ok (.ifCond .ge 7, 3) := by decide +kernel
theorem dL_spread_67 : decode cL_spread 67 = .ok (.lconst 1, 1) := by decide +kernel
theorem dL_spread_68 : decode cL_spread 68 = .ok (.goto 15, 3) := by decide +kernel
theorem dL_spread_71 : decode cL_spread 71 = .ok (.aload_n 1, 1) := by decide +kernel
theorem dL_spread_72 : decode cL_spread 72 = .ok (.bipush 6, 2) := by decide +kernel
theorem dL_spread_74 : decode cL_spread 74 = .ok (.iload 5, 2) := by decide +kernel
theorem dL_spread_76 : decode cL_spread 76 = .ok (.imul, 1) := by decide +kernel
theorem dL_spread_77 : decode cL_spread 77 = .ok (.iconst 4, 1) := by decide +kernel
theorem dL_spread_78 : decode cL_spread 78 = .ok (.iadd, 1) := by decide +kernel
theorem dL_spread_79 : decode cL_spread 79 = .ok (.iaload, 1) := by decide +kernel
theorem dL_spread_80 : decode cL_spread 80 = .ok (.i2l, 1) := by decide +kernel
theorem dL_spread_81 : decode cL_spread 81 = .ok (.lconst 1, 1) := by decide +kernel
theorem dL_spread_82 : decode cL_spread 82 = .ok (.ladd, 1) := by decide +kernel
theorem dL_spread_83 : decode cL_spread 83 = .ok (.lstore 9, 2) := by decide +kernel
theorem dL_spread_85 : decode cL_spread 85 = .ok (.aload_n 1, 1) := by decide +kernel
theorem dL_spread_86 : decode cL_spread 86 = .ok (.bipush 6, 2) := by decide +kernel
theorem dL_spread_88 : decode cL_spread 88 = .ok (.iload 6, 2) := by decide +kernel
theorem dL_spread_90 : decode cL_spread 90 = .ok (.imul, 1) := by decide +kernel
theorem dL_spread_91 : decode cL_spread 91 = .ok (.iconst 1, 1) := by decide +kernel
theorem dL_spread_92 : decode cL_spread 92 = .ok (.iadd, 1) := by decide +kernel
theorem dL_spread_93 : decode cL_spread 93 = .ok (.iaload, 1) := by decide +kernel
theorem dL_spread_94 : decode cL_spread 94 = .ok (.i2l, 1) := by decide +kernel
theorem dL_spread_95 : decode cL_spread 95 = .ok (.lconst 1, 1) := by decide +kernel
theorem dL_spread_96 : decode cL_spread 96 = .ok (.ladd, 1) := by decide +kernel
theorem dL_spread_97 : decode cL_spread 97 = .ok (.lload 7, 2) := by decide +kernel
theorem dL_spread_99 : decode cL_spread 99 = .ok (.lmul, 1) := by decide +kernel
theorem dL_spread_100 : decode cL_spread 100 = .ok (.lstore 11, 2) := by decide +kernel
theorem dL_spread_102 : decode cL_spread 102 = .ok (.iload 5, 2) := by decide +kernel
theorem dL_spread_104 : decode cL_spread 104 = .ok (.ifCond .ge 7, 3) := by decide +kernel
theorem dL_spread_107 : decode cL_spread 107 = .ok (.lconst 0, 1) := by decide +kernel
theorem dL_spread_108 : decode cL_spread 108 = .ok (.goto 18, 3) := by decide +kernel
theorem dL_spread_111 : decode cL_spread 111 = .ok (.aload_n 1, 1) := by decide +kernel
theorem dL_spread_112 : decode cL_spread 112 = .ok (.bipush 6, 2) := by decide +kernel
theorem dL_spread_114 : decode cL_spread 114 = .ok (.iload 5, 2) := by decide +kernel
theorem dL_spread_116 : decode cL_spread 116 = .ok (.imul, 1) := by decide +kernel
theorem dL_spread_117 : decode cL_spread 117 = .ok (.iconst 1, 1) := by decide +kernel
theorem dL_spread_118 : decode cL_spread 118 = .ok (.iadd, 1) := by decide +kernel
theorem dL_spread_119 : decode cL_spread 119 = .ok (.iaload, 1) := by decide +kernel
theorem dL_spread_120 : decode cL_spread 120 = .ok (.i2l, 1) := by decide +kernel
theorem dL_spread_121 : decode cL_spread 121 = .ok (.lconst 1, 1) := by decide +kernel
theorem dL_spread_122 : decode cL_spread 122 = .ok (.ladd, 1) := by decide +kernel
theorem dL_spread_123 : decode cL_spread 123 = .ok (.lload 9, 2) := by decide +kernel
theorem dL_spread_125 : decode cL_spread 125 = .ok (.lmul, 1) := by decide +kernel
theorem dL_spread_126 : decode cL_spread 126 = .ok (.lstore 13, 2) := by decide +kernel
theorem dL_spread_128 : decode cL_spread 128 = .ok (.aload_n 2, 1) := by decide +kernel
theorem dL_spread_129 : decode cL_spread 129 = .ok (.iload 6, 2) := by decide +kernel
theorem dL_spread_131 : decode cL_spread 131 = .ok (.iaload, 1) := by decide +kernel
theorem dL_spread_132 : decode cL_spread 132 = .ok (.i2l, 1) := by decide +kernel
theorem dL_spread_133 : decode cL_spread 133 = .ok (.lload 7, 2) := by decide +kernel
theorem dL_spread_135 : decode cL_spread 135 = .ok (.ladd, 1) := by decide +kernel
theorem dL_spread_136 : decode cL_spread 136 = .ok (.aload_n 2, 1) := by decide +kernel
theorem dL_spread_137 : decode cL_spread 137 = .ok (.iload 6, 2) := by decide +kernel
theorem dL_spread_139 : decode cL_spread 139 = .ok (.iaload, 1) := by decide +kernel
theorem dL_spread_140 : decode cL_spread 140 = .ok (.i2l, 1) := by decide +kernel
theorem dL_spread_141 : decode cL_spread 141 = .ok (.lload 7, 2) := by decide +kernel
theorem dL_spread_143 : decode cL_spread 143 = .ok (.ladd, 1) := by decide +kernel
theorem dL_spread_144 : decode cL_spread 144 = .ok (.lconst 1, 1) := by decide +kernel
theorem dL_spread_145 : decode cL_spread 145 = .ok (.ladd, 1) := by decide +kernel
theorem dL_spread_146 : decode cL_spread 146 = .ok (.lmul, 1) := by decide +kernel
theorem dL_spread_147 : decode cL_spread 147 = .ok (.lstore 15, 2) := by decide +kernel
theorem dL_spread_149 : decode cL_spread 149 = .ok (.iload 5, 2) := by decide +kernel
theorem dL_spread_151 : decode cL_spread 151 = .ok (.ifCond .ge 7, 3) := by decide +kernel
theorem dL_spread_154 : decode cL_spread 154 = .ok (.lconst 1, 1) := by decide +kernel
theorem dL_spread_155 : decode cL_spread 155 = .ok (.goto 22, 3) := by decide +kernel
theorem dL_spread_158 : decode cL_spread 158 = .ok (.aload_n 2, 1) := by decide +kernel
theorem dL_spread_159 : decode cL_spread 159 = .ok (.iload 5, 2) := by decide +kernel
theorem dL_spread_161 : decode cL_spread 161 = .ok (.iaload, 1) := by decide +kernel
theorem dL_spread_162 : decode cL_spread 162 = .ok (.i2l, 1) := by decide +kernel
theorem dL_spread_163 : decode cL_spread 163 = .ok (.lload 9, 2) := by decide +kernel
theorem dL_spread_165 : decode cL_spread 165 = .ok (.ladd, 1) := by decide +kernel
theorem dL_spread_166 : decode cL_spread 166 = .ok (.aload_n 2, 1) := by decide +kernel
theorem dL_spread_167 : decode cL_spread 167 = .ok (.iload 5, 2) := by decide +kernel
theorem dL_spread_169 : decode cL_spread 169 = .ok (.iaload, 1) := by decide +kernel
theorem dL_spread_170 : decode cL_spread 170 = .ok (.i2l, 1) := by decide +kernel
theorem dL_spread_171 : decode cL_spread 171 = .ok (.lload 9, 2) := by decide +kernel
theorem dL_spread_173 : decode cL_spread 173 = .ok (.ladd, 1) := by decide +kernel
theorem dL_spread_174 : decode cL_spread 174 = .ok (.lconst 1, 1) := by decide +kernel
theorem dL_spread_175 : decode cL_spread 175 = .ok (.ladd, 1) := by decide +kernel
theorem dL_spread_176 : decode cL_spread 176 = .ok (.lmul, 1) := by decide +kernel
theorem dL_spread_177 : decode cL_spread 177 = .ok (.lstore 17, 2) := by decide +kernel
theorem dL_spread_179 : decode cL_spread 179 = .ok (.aload_n 1, 1) := by decide +kernel
theorem dL_spread_180 : decode cL_spread 180 = .ok (.bipush 6, 2) := by decide +kernel
theorem dL_spread_182 : decode cL_spread 182 = .ok (.iload 6, 2) := by decide +kernel
theorem dL_spread_184 : decode cL_spread 184 = .ok (.imul, 1) := by decide +kernel
theorem dL_spread_185 : decode cL_spread 185 = .ok (.iconst 5, 1) := by decide +kernel
theorem dL_spread_186 : decode cL_spread 186 = .ok (.iadd, 1) := by decide +kernel
theorem dL_spread_187 : decode cL_spread 187 = .ok (.iaload, 1) := by decide +kernel
theorem dL_spread_188 : decode cL_spread 188 = .ok (.ifCond .ne 22, 3) := by decide +kernel
theorem dL_spread_191 : decode cL_spread 191 = .ok (.lload 11, 2) := by decide +kernel
theorem dL_spread_193 : decode cL_spread 193 = .ok (.lload 17, 2) := by decide +kernel
theorem dL_spread_195 : decode cL_spread 195 = .ok (.lmul, 1) := by decide +kernel
theorem dL_spread_196 : decode cL_spread 196 = .ok (.lload 13, 2) := by decide +kernel
theorem dL_spread_198 : decode cL_spread 198 = .ok (.lload 15, 2) := by decide +kernel
theorem dL_spread_200 : decode cL_spread 200 = .ok (.lmul, 1) := by decide +kernel
theorem dL_spread_201 : decode cL_spread 201 = .ok (.lcmp, 1) := by decide +kernel
theorem dL_spread_202 : decode cL_spread 202 = .ok (.ifCond .lt 8, 3) := by decide +kernel
theorem dL_spread_205 : decode cL_spread 205 = .ok (.iload 6, 2) := by decide +kernel
theorem dL_spread_207 : decode cL_spread 207 = .ok (.goto 5, 3) := by decide +kernel
theorem dL_spread_210 : decode cL_spread 210 = .ok (.iload 5, 2) := by decide +kernel
theorem dL_spread_212 : decode cL_spread 212 = .ok (.istore 5, 2) := by decide +kernel
theorem dL_spread_214 : decode cL_spread 214 = .ok (.iinc 6 (-1), 3) := by decide +kernel
theorem dL_spread_217 : decode cL_spread 217 = .ok (.goto (-174), 3) := by decide +kernel
theorem dL_spread_220 : decode cL_spread 220 = .ok (.iload 5, 2) := by decide +kernel
theorem dL_spread_222 : decode cL_spread 222 = .ok (.ifCond .lt 11, 3) := by decide +kernel
theorem dL_spread_225 : decode cL_spread 225 = .ok (.aload_n 2, 1) := by decide +kernel
theorem dL_spread_226 : decode cL_spread 226 = .ok (.iload 5, 2) := by decide +kernel
theorem dL_spread_228 : decode cL_spread 228 = .ok (.dup2, 1) := by decide +kernel
theorem dL_spread_229 : decode cL_spread 229 = .ok (.iaload, 1) := by decide +kernel
theorem dL_spread_230 : decode cL_spread 230 = .ok (.iconst 1, 1) := by decide +kernel
theorem dL_spread_231 : decode cL_spread 231 = .ok (.iadd, 1) := by decide +kernel
theorem dL_spread_232 : decode cL_spread 232 = .ok (.iastore, 1) := by decide +kernel
theorem dL_spread_233 : decode cL_spread 233 = .ok (.iinc 4 1, 3) := by decide +kernel
theorem dL_spread_236 : decode cL_spread 236 = .ok (.goto (-210), 3) := by decide +kernel
theorem dL_spread_239 : decode cL_spread 239 = .ok (.return_, 1) := by decide +kernel
set_option maxRecDepth 20000 in
theorem ggL_isSo_X3_now : GoodIn wsL_isSo wsX3_now := goodIn_r _ [5, 6, 214, 215, 216, 217, 218, 219, 220, 221, 222] (by decide +kernel) (by decide +kernel)
set_option maxRecDepth 20000 in
theorem gL_isSo_X3_now : GoodIn wsL_isSo (wsV RL 34 RX3 yX3_now wsX3_now) := goodIn_app (goodIn_of _ (by decide +kernel)) ggL_isSo_X3_now
set_option maxRecDepth 20000 in
theorem ggL_isSo_X3_pages : GoodIn wsL_isSo wsX3_pages := goodIn_r _ [10, 11, 214, 215, 216, 217, 218, 219, 220, 221, 222] (by decide +kernel) (by decide +kernel)
set_option maxRecDepth 20000 in
theorem gL_isSo_X3_pages : GoodIn wsL_isSo (wsV RL 38 RX3 yX3_pages wsX3_pages) := goodIn_app (goodIn_of _ (by decide +kernel)) ggL_isSo_X3_pages
set_option maxRecDepth 20000 in
theorem ggL_isSo_X3_budgetLeft : GoodIn wsL_isSo wsX3_budgetLeft := goodIn_r _ [15, 16, 17, 18, 19, 20, 21, 214, 215, 216, 217, 218, 219, 220, 221, 222] (by decide +kernel) (by decide +kernel)
set_option maxRecDepth 20000 in
theorem gL_isSo_X3_budgetLeft : GoodIn wsL_isSo (wsV RL 41 RX3 yX3_budgetLeft wsX3_budgetLeft) := goodIn_app (goodIn_of _ (by decide +kernel)) ggL_isSo_X3_budgetLeft
set_option maxRecDepth 20000 in
theorem ggL_isSo_L_left : GoodIn wsL_isSo wsL_left := goodIn_r _ [25] (by decide +kernel) (by decide +kernel)
set_option maxRecDepth 20000 in
theorem gL_isSo_L_left : GoodIn wsL_isSo (va_wsS RL 26 yL_left wsL_left) := goodIn_app (goodIn_of _ (by decide +kernel)) ggL_isSo_L_left
set_option maxRecDepth 20000 in
theorem ggL_isSo_X3_next : GoodIn wsL_isSo wsX3_next := goodIn_r _ [29, 30, 31, 32, 33, 4, 34, 35, 36, 37, 38, 39, 40, 6, 41, 42, 43, 44, 45, 46, 47, 48, 49, 50, 51, 52, 53, 18, 19, 20, 21, 54, 13, 14, 15, 16, 17, 55, 56, 57, 58, 59, 60, 61, 62, 63, 64, 65, 66, 67, 68, 69, 70, 71, 72, 73, 74, 75, 76, 77, 214, 215, 216, 217, 218, 219, 220, 221, 222, 223, 224, 225, 226, 227, 228, 229, 230, 231, 232, 233, 234, 235] (by decide +kernel) (by decide +kernel)
set_option maxRecDepth 20000 in
theorem gL_isSo_X3_next : GoodIn wsL_isSo (wsV RL 44 RX3 yX3_next wsX3_next) := goodIn_app (goodIn_of _ (by decide +kernel)) ggL_isSo_X3_next
set_option maxRecDepth 20000 in
theorem ggL_isSo_L_next : GoodIn wsL_isSo wsL_next := goodIn_r _ [80, 81, 82, 24, 83, 22, 23, 25] (by decide +kernel) (by decide +kernel)
set_option maxRecDepth 20000 in
theorem gL_isSo_L_next : GoodIn wsL_isSo (va_wsS RL 47 yL_next wsL_next) := goodIn_app (goodIn_of _ (by decide +kernel)) ggL_isSo_L_next
set_option maxRecDepth 20000 in
theorem ggL_isSo_X3_nextByScan : GoodIn wsL_isSo wsX3_nextByScan := goodIn_r _ [87, 35, 37, 38, 39, 4, 40, 6, 41, 42, 43, 44, 45, 46, 47, 48, 49, 50, 51, 52, 36, 53, 18, 19, 20, 21, 54, 13, 14, 15, 16, 17, 55, 56, 57, 58, 59, 60, 61, 62, 63, 64, 65, 66, 67, 68, 69, 70, 71, 72, 73, 74, 75, 76, 77, 214, 215, 216, 217, 218, 219, 220, 221, 222, 223, 224, 225, 226, 227, 228, 229, 230, 231, 232, 233, 234, 235] (by decide +kernel) (by decide +kernel)
set_option maxRecDepth 20000 in
theorem gL_isSo_X3_nextByScan : GoodIn wsL_isSo (wsV RL 50 RX3 yX3_nextByScan wsX3_nextByScan) := goodIn_app (goodIn_of _ (by decide +kernel)) ggL_isSo_X3_nextByScan
set_option maxRecDepth 20000 in
theorem ggL_isSo_X3_waiting : GoodIn wsL_isSo wsX3_waiting := goodIn_r _ [91, 35, 6, 92, 93, 20, 94, 41, 42, 43, 44, 45, 46, 47, 48, 49, 50, 4, 51, 52, 36, 53, 18, 19, 21, 54, 13, 14, 15, 16, 17, 55, 56, 57, 58, 214, 215, 216, 217, 218, 219, 220, 221, 222, 223, 224, 225, 226, 227, 228, 229, 230, 231, 232, 233, 234, 235] (by decide +kernel) (by decide +kernel)
set_option maxRecDepth 20000 in
theorem gL_isSo_X3_waiting : GoodIn wsL_isSo (wsV RL 53 RX3 yX3_waiting wsX3_waiting) := goodIn_app (goodIn_of _ (by decide +kernel)) ggL_isSo_X3_waiting
set_option maxRecDepth 20000 in
theorem ggL_isSo_L_waiting : GoodIn wsL_isSo wsL_waiting := goodIn_r _ [97, 22, 23, 24, 25] (by decide +kernel) (by decide +kernel)
set_option maxRecDepth 20000 in
theorem gL_isSo_L_waiting : GoodIn wsL_isSo (va_wsS RL 56 yL_waiting wsL_waiting) := goodIn_app (goodIn_of _ (by decide +kernel)) ggL_isSo_L_waiting
set_option maxRecDepth 20000 in
theorem ggL_isSo_X3_segments : GoodIn wsL_isSo wsX3_segments := goodIn_r _ [101, 102, 103, 214, 215, 216, 217, 218, 219, 220, 221, 222, 236, 237, 238, 239] (by decide +kernel) (by decide +kernel)
set_option maxRecDepth 20000 in
theorem gL_isSo_X3_segments : GoodIn wsL_isSo (wsV RL 58 RX3 yX3_segments wsX3_segments) := goodIn_app (goodIn_of _ (by decide +kernel)) ggL_isSo_X3_segments
set_option maxRecDepth 20000 in
theorem ggL_isSo_L_segments : GoodIn wsL_isSo wsL_segments := goodIn_r _ [106, 107] (by decide +kernel) (by decide +kernel)
set_option maxRecDepth 20000 in
theorem gL_isSo_L_segments : GoodIn wsL_isSo (va_wsS RL 20 yL_segments wsL_segments) := goodIn_app (goodIn_of _ (by decide +kernel)) ggL_isSo_L_segments
set_option maxRecDepth 20000 in
theorem ggL_isSo_X3_isTrap : GoodIn wsL_isSo wsX3_isTrap := goodIn_r _ [111, 102, 112, 113, 114, 115, 116, 117, 118, 119, 120, 121, 122, 123, 124, 125, 126, 127, 128, 129, 130, 131, 132, 133, 134, 135, 136, 214, 215, 216, 217, 218, 219, 220, 221, 222, 236, 237, 238, 239] (by decide +kernel) (by decide +kernel)
set_option maxRecDepth 20000 in
theorem gL_isSo_X3_isTrap : GoodIn wsL_isSo (wsV RL 60 RX3 yX3_isTrap wsX3_isTrap) := goodIn_app (goodIn_of _ (by decide +kernel)) ggL_isSo_X3_isTrap
set_option maxRecDepth 20000 in
theorem ggL_isSo_L_isTrap : GoodIn wsL_isSo wsL_isTrap := goodIn_r _ [139, 104, 105, 24, 106, 107] (by decide +kernel) (by decide +kernel)
set_option maxRecDepth 20000 in
theorem gL_isSo_L_isTrap : GoodIn wsL_isSo (va_wsS RL 64 yL_isTrap wsL_isTrap) := goodIn_app (goodIn_of _ (by decide +kernel)) ggL_isSo_L_isTrap
set_option maxRecDepth 20000 in
theorem ggL_isSo_X3_failures : GoodIn wsL_isSo wsX3_failures := goodIn_ca (goodIn_r _ [143, 144, 145, 146, 147, 4, 148, 149, 150, 30, 233, 234, 235, 214, 215, 216, 217, 218, 219, 220, 221, 222] (by decide +kernel) (by decide +kernel)) (goodIn_sub (fun _ h => List.mem_cons_of_mem _ (List.mem_append_left _ (List.mem_append_right _ h))) (by decide +kernel))
set_option maxRecDepth 20000 in
theorem gL_isSo_X3_failures : GoodIn wsL_isSo (wsV RL 67 RX3 yX3_failures wsX3_failures) := goodIn_app (goodIn_of _ (by decide +kernel)) ggL_isSo_X3_failures
set_option maxRecDepth 20000 in
theorem ggL_isSo_X3_openFrom : GoodIn wsL_isSo wsX3_openFrom := goodIn_ca (goodIn_r _ [154, 53, 145, 146, 147, 4, 148, 149, 150, 30, 233, 234, 235, 214, 215, 216, 217, 218, 219, 220, 221, 222] (by decide +kernel) (by decide +kernel)) (goodIn_sub (fun _ h => List.mem_cons_of_mem _ (List.mem_append_left _ (List.mem_append_right _ h))) (by decide +kernel))
set_option maxRecDepth 20000 in
theorem gL_isSo_X3_openFrom : GoodIn wsL_isSo (wsV RL 71 RX3 yX3_openFrom wsX3_openFrom) := goodIn_app (goodIn_of _ (by decide +kernel)) ggL_isSo_X3_openFrom
set_option maxRecDepth 20000 in
theorem ggL_isSo_L_low : GoodIn wsL_isSo wsL_low := goodIn_r _ [157, 158] (by decide +kernel) (by decide +kernel)
set_option maxRecDepth 20000 in
theorem gL_isSo_L_low : GoodIn wsL_isSo (va_wsS RL 74 yL_low wsL_low) := goodIn_app (goodIn_of _ (by decide +kernel)) ggL_isSo_L_low
set_option maxRecDepth 20000 in
theorem ggL_isSo_L_spread : GoodIn wsL_isSo wsL_spread := goodIn_r _ [161] (by decide +kernel) (by decide +kernel)
set_option maxRecDepth 20000 in
theorem gL_isSo_L_spread : GoodIn wsL_isSo (va_wsS RL 77 yL_spread wsL_spread) := goodIn_app (goodIn_of _ (by decide +kernel)) ggL_isSo_L_spread
set_option maxRecDepth 20000 in
theorem ggL_isSo_X3_dueAt : GoodIn wsL_isSo wsX3_dueAt := goodIn_ca (goodIn_r _ [165, 52, 166, 167, 168, 4, 169, 149, 150, 35, 41, 42, 43, 44, 45, 46, 47, 223, 224, 225, 226, 227, 228, 229, 230, 231, 232, 214, 215, 216, 217, 218, 219, 220, 221, 222] (by decide +kernel) (by decide +kernel)) (goodIn_sub (fun _ h => List.mem_cons_of_mem _ (List.mem_append_left _ (List.mem_append_right _ h))) (by decide +kernel))
set_option maxRecDepth 20000 in
theorem gL_isSo_X3_dueAt : GoodIn wsL_isSo (wsV RL 81 RX3 yX3_dueAt wsX3_dueAt) := goodIn_app (goodIn_of _ (by decide +kernel)) ggL_isSo_X3_dueAt
set_option maxRecDepth 20000 in
theorem ggL_isSo_X3_visits : GoodIn wsL_isSo wsX3_visits := goodIn_ca (goodIn_r _ [173, 174, 166, 167, 168, 4, 169, 149, 150, 35, 223, 224, 225, 226, 227, 228, 229, 230, 231, 232, 214, 215, 216, 217, 218, 219, 220, 221, 222] (by decide +kernel) (by decide +kernel)) (goodIn_sub (fun _ h => List.mem_cons_of_mem _ (List.mem_append_left _ (List.mem_append_right _ h))) (by decide +kernel))
set_option maxRecDepth 20000 in
theorem gL_isSo_X3_visits : GoodIn wsL_isSo (wsV RL 84 RX3 yX3_visits wsX3_visits) := goodIn_app (goodIn_of _ (by decide +kernel)) ggL_isSo_X3_visits
set_option maxRecDepth 20000 in
theorem ggL_isSo_X3_changes : GoodIn wsL_isSo wsX3_changes := goodIn_ca (goodIn_r _ [178, 179, 166, 167, 168, 4, 169, 149, 150, 35, 223, 224, 225, 226, 227, 228, 229, 230, 231, 232, 214, 215, 216, 217, 218, 219, 220, 221, 222] (by decide +kernel) (by decide +kernel)) (goodIn_sub (fun _ h => List.mem_cons_of_mem _ (List.mem_append_left _ (List.mem_append_right _ h))) (by decide +kernel))
set_option maxRecDepth 20000 in
theorem gL_isSo_X3_changes : GoodIn wsL_isSo (wsV RL 87 RX3 yX3_changes wsX3_changes) := goodIn_app (goodIn_of _ (by decide +kernel)) ggL_isSo_X3_changes
set_option maxRecDepth 20000 in
theorem ggL_isSo_X3_mayVisit : GoodIn wsL_isSo wsX3_mayVisit := goodIn_ca (goodIn_r _ [183, 166, 167, 168, 4, 169, 149, 150, 35, 37, 38, 39, 40, 6, 41, 42, 43, 44, 45, 46, 47, 48, 49, 50, 51, 52, 36, 53, 18, 19, 20, 21, 54, 13, 14, 15, 16, 17, 55, 56, 57, 58, 214, 215, 216, 217, 218, 219, 220, 221, 222, 223, 224, 225, 226, 227, 228, 229, 230, 231, 232, 233, 234, 235] (by decide +kernel) (by decide +kernel)) (goodIn_sub (fun _ h => List.mem_cons_of_mem _ (List.mem_append_left _ (List.mem_append_right _ h))) (by decide +kernel))
set_option maxRecDepth 20000 in
theorem gL_isSo_X3_mayVisit : GoodIn wsL_isSo (wsV RL 90 RX3 yX3_mayVisit wsX3_mayVisit) := goodIn_app (goodIn_of _ (by decide +kernel)) ggL_isSo_X3_mayVisit
set_option maxRecDepth 20000 in
theorem ggL_isSo_L_may : GoodIn wsL_isSo wsL_may := goodIn_r _ [83, 22, 23, 24, 25] (by decide +kernel) (by decide +kernel)
set_option maxRecDepth 20000 in
theorem gL_isSo_L_may : GoodIn wsL_isSo (va_wsS RL 30 yL_may wsL_may) := goodIn_app (goodIn_of _ (by decide +kernel)) ggL_isSo_L_may
set_option maxRecDepth 20000 in
theorem ggL_isSo_X3_share : GoodIn wsL_isSo wsX3_share := goodIn_ca (goodIn_ca (goodIn_r _ [187, 188, 189, 190, 166, 167, 168, 4, 169, 149, 150, 35, 191, 192, 193, 194, 195, 196, 197, 198, 41, 42, 43, 44, 45, 46, 47, 199, 200, 201, 202, 203, 204, 205, 206, 73, 207, 208, 209, 210, 211, 212, 213, 223, 224, 225, 226, 227, 228, 229, 230, 231, 232, 214, 215, 216, 217, 218, 219, 220, 221, 222] (by decide +kernel) (by decide +kernel)) (goodIn_sub (fun _ h => List.mem_cons_of_mem _ (List.mem_append_right _ h)) (by decide +kernel))) (goodIn_sub (fun _ h => List.mem_cons_of_mem _ (List.mem_append_left _ (List.mem_append_right _ h))) (by decide +kernel))
set_option maxRecDepth 20000 in
theorem gL_isSo_X3_share : GoodIn wsL_isSo (wsV RL 94 RX3 yX3_share wsX3_share) := goodIn_app (goodIn_of _ (by decide +kernel)) ggL_isSo_X3_share
theorem dL_isSo_0 : decode cL_isSo 0 = .ok (.aload_n 0, 1) := by decide +kernel
theorem dL_isSo_1 : decode cL_isSo 1 = .ok (.invokevirtual 34, 3) := by decide +kernel
theorem dL_isSo_4 : decode cL_isSo 4 = .ok (.aload 7, 2) := by decide +kernel
theorem dL_isSo_6 : decode cL_isSo 6 = .ok (.iconst 0, 1) := by decide +kernel
theorem dL_isSo_7 : decode cL_isSo 7 = .ok (.iaload, 1) := by decide +kernel
theorem dL_isSo_8 : decode cL_isSo 8 = .ok (.if_icmp .ne 107, 3) := by decide +kernel
theorem dL_isSo_11 : decode cL_isSo 11 = .ok (.aload_n 0, 1) := by decide +kernel
theorem dL_isSo_12 : decode cL_isSo 12 = .ok (.invokevirtual 38, 3) := by decide +kernel
theorem dL_isSo_15 : decode cL_isSo 15 = .ok (.aload 7, 2) := by decide +kernel
theorem dL_isSo_17 : decode cL_isSo 17 = .ok (.bipush 6, 2) := by decide +kernel
theorem dL_isSo_19 : decode cL_isSo 19 = .ok (.iaload, 1) := by decide +kernel
theorem dL_isSo_20 : decode cL_isSo 20 = .ok (.if_icmp .ne 95, 3) := by decide +kernel
theorem dL_isSo_23 : decode cL_isSo 23 = .ok (.aload_n 0, 1) := by decide +kernel
theorem dL_isSo_24 : decode cL_isSo 24 = .ok (.invokevirtual 41, 3) := by decide +kernel
theorem dL_isSo_27 : decode cL_isSo 27 = .ok (.aload 7, 2) := by decide +kernel
theorem dL_isSo_29 : decode cL_isSo 29 = .ok (.invokestatic 26, 3) := by decide +kernel
theorem dL_isSo_32 : decode cL_isSo 32 = .ok (.if_icmp .ne 83, 3) := by decide +kernel
theorem dL_isSo_35 : decode cL_isSo 35 = .ok (.aload_n 0, 1) := by decide +kernel
theorem dL_isSo_36 : decode cL_isSo 36 = .ok (.invokevirtual 44, 3) := by decide +kernel
theorem dL_isSo_39 : decode cL_isSo 39 = .ok (.aload 4, 2) := by decide +kernel
theorem dL_isSo_41 : decode cL_isSo 41 = .ok (.aload 5, 2) := by decide +kernel
theorem dL_isSo_43 : decode cL_isSo 43 = .ok (.aload 7, 2) := by decide +kernel
theorem dL_isSo_45 : decode cL_isSo 45 = .ok (.invokestatic 47, 3) := by decide +kernel
theorem dL_isSo_48 : decode cL_isSo 48 = .ok (.if_icmp .ne 67, 3) := by decide +kernel
theorem dL_isSo_51 : decode cL_isSo 51 = .ok (.aload_n 0, 1) := by decide +kernel
theorem dL_isSo_52 : decode cL_isSo 52 = .ok (.invokevirtual 50, 3) := by decide +kernel
theorem dL_isSo_55 : decode cL_isSo 55 = .ok (.aload 4, 2) := by decide +kernel
theorem dL_isSo_57 : decode cL_isSo 57 = .ok (.aload 5, 2) := by decide +kernel
theorem dL_isSo_59 : decode cL_isSo 59 = .ok (.aload 7, 2) := by decide +kernel
theorem dL_isSo_61 : decode cL_isSo 61 = .ok (.invokestatic 47, 3) := by decide +kernel
theorem dL_isSo_64 : decode cL_isSo 64 = .ok (.if_icmp .ne 51, 3) := by decide +kernel
theorem dL_isSo_67 : decode cL_isSo 67 = .ok (.aload_n 0, 1) := by decide +kernel
theorem dL_isSo_68 : decode cL_isSo 68 = .ok (.invokevirtual 53, 3) := by decide +kernel
theorem dL_isSo_71 : decode cL_isSo 71 = .ok (.aload 4, 2) := by decide +kernel
theorem dL_isSo_73 : decode cL_isSo 73 = .ok (.aload 5, 2) := by decide +kernel
theorem dL_isSo_75 : decode cL_isSo 75 = .ok (.aload 7, 2) := by decide +kernel
theorem dL_isSo_77 : decode cL_isSo 77 = .ok (.invokestatic 56, 3) := by decide +kernel
theorem dL_isSo_80 : decode cL_isSo 80 = .ok (.if_icmp .ne 35, 3) := by decide +kernel
theorem dL_isSo_83 : decode cL_isSo 83 = .ok (.aload_n 0, 1) := by decide +kernel
theorem dL_isSo_84 : decode cL_isSo 84 = .ok (.invokevirtual 58, 3) := by decide +kernel
theorem dL_isSo_87 : decode cL_isSo 87 = .ok (.aload_n 2, 1) := by decide +kernel
theorem dL_isSo_88 : decode cL_isSo 88 = .ok (.aload_n 3, 1) := by decide +kernel
theorem dL_isSo_89 : decode cL_isSo 89 = .ok (.aload 7, 2) := by decide +kernel
theorem dL_isSo_91 : decode cL_isSo 91 = .ok (.invokestatic 20, 3) := by decide +kernel
theorem dL_isSo_94 : decode cL_isSo 94 = .ok (.if_icmp .ne 21, 3) := by decide +kernel
theorem dL_isSo_97 : decode cL_isSo 97 = .ok (.aload_n 0, 1) := by decide +kernel
theorem dL_isSo_98 : decode cL_isSo 98 = .ok (.invokevirtual 60, 3) := by decide +kernel
theorem dL_isSo_101 : decode cL_isSo 101 = .ok (.aload_n 2, 1) := by decide +kernel
theorem dL_isSo_102 : decode cL_isSo 102 = .ok (.aload_n 3, 1) := by decide +kernel
theorem dL_isSo_103 : decode cL_isSo 103 = .ok (.aload 7, 2) := by decide +kernel
theorem dL_isSo_105 : decode cL_isSo 105 = .ok (.invokestatic 64, 3) := by decide +kernel
theorem dL_isSo_108 : decode cL_isSo 108 = .ok (.if_icmp .ne 7, 3) := by decide +kernel
theorem dL_isSo_111 : decode cL_isSo 111 = .ok (.iconst 1, 1) := by decide +kernel
theorem dL_isSo_112 : decode cL_isSo 112 = .ok (.goto 4, 3) := by decide +kernel
theorem dL_isSo_115 : decode cL_isSo 115 = .ok (.iconst 0, 1) := by decide +kernel
theorem dL_isSo_116 : decode cL_isSo 116 = .ok (.istore 8, 2) := by decide +kernel
theorem dL_isSo_118 : decode cL_isSo 118 = .ok (.iconst 0, 1) := by decide +kernel
theorem dL_isSo_119 : decode cL_isSo 119 = .ok (.istore 9, 2) := by decide +kernel
theorem dL_isSo_121 : decode cL_isSo 121 = .ok (.iload 9, 2) := by decide +kernel
theorem dL_isSo_123 : decode cL_isSo 123 = .ok (.iconst 3, 1) := by decide +kernel
theorem dL_isSo_124 : decode cL_isSo 124 = .ok (.if_icmp .ge 61, 3) := by decide +kernel
theorem dL_isSo_127 : decode cL_isSo 127 = .ok (.iload 8, 2) := by decide +kernel
theorem dL_isSo_129 : decode cL_isSo 129 = .ok (.ifCond .eq 56, 3) := by decide +kernel
theorem dL_isSo_132 : decode cL_isSo 132 = .ok (.aload_n 0, 1) := by decide +kernel
theorem dL_isSo_133 : decode cL_isSo 133 = .ok (.iconst 2, 1) := by decide +kernel
theorem dL_isSo_134 : decode cL_isSo 134 = .ok (.iload 9, 2) := by decide +kernel
theorem dL_isSo_136 : decode cL_isSo 136 = .ok (.imul, 1) := by decide +kernel
theorem dL_isSo_137 : decode cL_isSo 137 = .ok (.invokevirtual 67, 3) := by decide +kernel
theorem dL_isSo_140 : decode cL_isSo 140 = .ok (.aload 5, 2) := by decide +kernel
theorem dL_isSo_142 : decode cL_isSo 142 = .ok (.iconst 3, 1) := by decide +kernel
theorem dL_isSo_143 : decode cL_isSo 143 = .ok (.iload 9, 2) := by decide +kernel
theorem dL_isSo_145 : decode cL_isSo 145 = .ok (.imul, 1) := by decide +kernel
theorem dL_isSo_146 : decode cL_isSo 146 = .ok (.iconst 1, 1) := by decide +kernel
theorem dL_isSo_147 : decode cL_isSo 147 = .ok (.iadd, 1) := by decide +kernel
theorem dL_isSo_148 : decode cL_isSo 148 = .ok (.iaload, 1) := by decide +kernel
theorem dL_isSo_149 : decode cL_isSo 149 = .ok (.if_icmp .ne 27, 3) := by decide +kernel
theorem dL_isSo_152 : decode cL_isSo 152 = .ok (.aload_n 0, 1) := by decide +kernel
theorem dL_isSo_153 : decode cL_isSo 153 = .ok (.iconst 2, 1) := by decide +kernel
theorem dL_isSo_154 : decode cL_isSo 154 = .ok (.iload 9, 2) := by decide +kernel
theorem dL_isSo_156 : decode cL_isSo 156 = .ok (.imul, 1) := by decide +kernel
theorem dL_isSo_157 : decode cL_isSo 157 = .ok (.invokevirtual 71, 3) := by decide +kernel
theorem dL_isSo_160 : decode cL_isSo 160 = .ok (.aload 5, 2) := by decide +kernel
theorem dL_isSo_162 : decode cL_isSo 162 = .ok (.iconst 3, 1) := by decide +kernel
theorem dL_isSo_163 : decode cL_isSo 163 = .ok (.iload 9, 2) := by decide +kernel
theorem dL_isSo_165 : decode cL_isSo 165 = .ok (.imul, 1) := by decide +kernel
theorem dL_isSo_166 : decode cL_isSo 166 = .ok (.iconst 2, 1) := by decide +kernel
theorem dL_isSo_167 : decode cL_isSo 167 = .ok (.iadd, 1) := by decide +kernel
theorem dL_isSo_168 : decode cL_isSo 168 = .ok (.iaload, 1) := by decide +kernel
theorem dL_isSo_169 : decode cL_isSo 169 = .ok (.if_icmp .ne 7, 3) := by decide +kernel
theorem dL_isSo_172 : decode cL_isSo 172 = .ok (.iconst 1, 1) := by decide +kernel
theorem dL_isSo_173 : decode cL_isSo 173 = .ok (.goto 4, 3) := by decide +kernel
theorem dL_isSo_176 : decode cL_isSo 176 = .ok (.iconst 0, 1) := by decide +kernel
theorem dL_isSo_177 : decode cL_isSo 177 = .ok (.istore 8, 2) := by decide +kernel
theorem dL_isSo_179 : decode cL_isSo 179 = .ok (.iinc 9 1, 3) := by decide +kernel
theorem dL_isSo_182 : decode cL_isSo 182 = .ok (.goto (-61), 3) := by decide +kernel
theorem dL_isSo_185 : decode cL_isSo 185 = .ok (.iload_n 1, 1) := by decide +kernel
theorem dL_isSo_186 : decode cL_isSo 186 = .ok (.bipush 30, 2) := by decide +kernel
theorem dL_isSo_188 : decode cL_isSo 188 = .ok (.invokestatic 74, 3) := by decide +kernel
theorem dL_isSo_191 : decode cL_isSo 191 = .ok (.istore 9, 2) := by decide +kernel
theorem dL_isSo_193 : decode cL_isSo 193 = .ok (.iload 9, 2) := by decide +kernel
theorem dL_isSo_195 : decode cL_isSo 195 = .ok (.aload 4, 2) := by decide +kernel
theorem dL_isSo_197 : decode cL_isSo 197 = .ok (.aload 6, 2) := by decide +kernel
theorem dL_isSo_199 : decode cL_isSo 199 = .ok (.aload 7, 2) := by decide +kernel
theorem dL_isSo_201 : decode cL_isSo 201 = .ok (.invokestatic 77, 3) := by decide +kernel
theorem dL_isSo_204 : decode cL_isSo 204 = .ok (.iconst 0, 1) := by decide +kernel
theorem dL_isSo_205 : decode cL_isSo 205 = .ok (.istore 10, 2) := by decide +kernel
theorem dL_isSo_207 : decode cL_isSo 207 = .ok (.iload 10, 2) := by decide +kernel
theorem dL_isSo_209 : decode cL_isSo 209 = .ok (.aload 7, 2) := by decide +kernel
theorem dL_isSo_211 : decode cL_isSo 211 = .ok (.bipush 6, 2) := by decide +kernel
theorem dL_isSo_213 : decode cL_isSo 213 = .ok (.iaload, 1) := by decide +kernel
theorem dL_isSo_214 : decode cL_isSo 214 = .ok (.if_icmp .ge 138, 3) := by decide +kernel
theorem dL_isSo_217 : decode cL_isSo 217 = .ok (.iload 8, 2) := by decide +kernel
theorem dL_isSo_219 : decode cL_isSo 219 = .ok (.ifCond .eq 133, 3) := by decide +kernel
theorem dL_isSo_222 : decode cL_isSo 222 = .ok (.aload_n 0, 1) := by decide +kernel
theorem dL_isSo_223 : decode cL_isSo 223 = .ok (.iload 10, 2) := by decide +kernel
theorem dL_isSo_225 : decode cL_isSo 225 = .ok (.invokevirtual 81, 3) := by decide +kernel
theorem dL_isSo_228 : decode cL_isSo 228 = .ok (.aload 4, 2) := by decide +kernel
theorem dL_isSo_230 : decode cL_isSo 230 = .ok (.bipush 6, 2) := by decide +kernel
theorem dL_isSo_232 : decode cL_isSo 232 = .ok (.iload 10, 2) := by decide +kernel
theorem dL_isSo_234 : decode cL_isSo 234 = .ok (.imul, 1) := by decide +kernel
theorem dL_isSo_235 : decode cL_isSo 235 = .ok (.iconst 5, 1) := by decide +kernel
theorem dL_isSo_236 : decode cL_isSo 236 = .ok (.iadd, 1) := by decide +kernel
theorem dL_isSo_237 : decode cL_isSo 237 = .ok (.iaload, 1) := by decide +kernel
theorem dL_isSo_238 : decode cL_isSo 238 = .ok (.ifCond .ne 16, 3) := by decide +kernel
theorem dL_isSo_241 : decode cL_isSo 241 = .ok (.aload 4, 2) := by decide +kernel
theorem dL_isSo_243 : decode cL_isSo 243 = .ok (.bipush 6, 2) := by decide +kernel
theorem dL_isSo_245 : decode cL_isSo 245 = .ok (.iload 10, 2) := by decide +kernel
theorem dL_isSo_247 : decode cL_isSo 247 = .ok (.imul, 1) := by decide +kernel
theorem dL_isSo_248 : decode cL_isSo 248 = .ok (.iconst 2, 1) := by decide +kernel
theorem dL_isSo_249 : decode cL_isSo 249 = .ok (.iadd, 1) := by decide +kernel
theorem dL_isSo_250 : decode cL_isSo 250 = .ok (.iaload, 1) := by decide +kernel
theorem dL_isSo_251 : decode cL_isSo 251 = .ok (.goto 4, 3) := by decide +kernel
theorem dL_isSo_254 : decode cL_isSo 254 = .ok (.iconst (-1), 1) := by decide +kernel
theorem dL_isSo_255 : decode cL_isSo 255 = .ok (.if_icmp .ne 88, 3) := by decide +kernel
theorem dL_isSo_258 : decode cL_isSo 258 = .ok (.aload_n 0, 1) := by decide +kernel
theorem dL_isSo_259 : decode cL_isSo 259 = .ok (.iload 10, 2) := by decide +kernel
theorem dL_isSo_261 : decode cL_isSo 261 = .ok (.invokevirtual 84, 3) := by decide +kernel
theorem dL_isSo_264 : decode cL_isSo 264 = .ok (.aload 4, 2) := by decide +kernel
theorem dL_isSo_266 : decode cL_isSo 266 = .ok (.bipush 6, 2) := by decide +kernel
theorem dL_isSo_268 : decode cL_isSo 268 = .ok (.iload 10, 2) := by decide +kernel
theorem dL_isSo_270 : decode cL_isSo 270 = .ok (.imul, 1) := by decide +kernel
theorem dL_isSo_271 : decode cL_isSo 271 = .ok (.iconst 3, 1) := by decide +kernel
theorem dL_isSo_272 : decode cL_isSo 272 = .ok (.iadd, 1) := by decide +kernel
theorem dL_isSo_273 : decode cL_isSo 273 = .ok (.iaload, 1) := by decide +kernel
theorem dL_isSo_274 : decode cL_isSo 274 = .ok (.if_icmp .ne 69, 3) := by decide +kernel
theorem dL_isSo_277 : decode cL_isSo 277 = .ok (.aload_n 0, 1) := by decide +kernel
theorem dL_isSo_278 : decode cL_isSo 278 = .ok (.iload 10, 2) := by decide +kernel
theorem dL_isSo_280 : decode cL_isSo 280 = .ok (.invokevirtual 87, 3) := by decide +kernel
theorem dL_isSo_283 : decode cL_isSo 283 = .ok (.aload 4, 2) := by decide +kernel
theorem dL_isSo_285 : decode cL_isSo 285 = .ok (.bipush 6, 2) := by decide +kernel
theorem dL_isSo_287 : decode cL_isSo 287 = .ok (.iload 10, 2) := by decide +kernel
theorem dL_isSo_289 : decode cL_isSo 289 = .ok (.imul, 1) := by decide +kernel
theorem dL_isSo_290 : decode cL_isSo 290 = .ok (.iconst 4, 1) := by decide +kernel
theorem dL_isSo_291 : decode cL_isSo 291 = .ok (.iadd, 1) := by decide +kernel
theorem dL_isSo_292 : decode cL_isSo 292 = .ok (.iaload, 1) := by decide +kernel
theorem dL_isSo_293 : decode cL_isSo 293 = .ok (.if_icmp .ne 50, 3) := by decide +kernel
theorem dL_isSo_296 : decode cL_isSo 296 = .ok (.aload_n 0, 1) := by decide +kernel
theorem dL_isSo_297 : decode cL_isSo 297 = .ok (.iload 10, 2) := by decide +kernel
theorem dL_isSo_299 : decode cL_isSo 299 = .ok (.invokevirtual 90, 3) := by decide +kernel
theorem dL_isSo_302 : decode cL_isSo 302 = .ok (.iload 10, 2) := by decide +kernel
theorem dL_isSo_304 : decode cL_isSo 304 = .ok (.aload 4, 2) := by decide +kernel
theorem dL_isSo_306 : decode cL_isSo 306 = .ok (.aload 5, 2) := by decide +kernel
theorem dL_isSo_308 : decode cL_isSo 308 = .ok (.aload 7, 2) := by decide +kernel
theorem dL_isSo_310 : decode cL_isSo 310 = .ok (.invokestatic 30, 3) := by decide +kernel
theorem dL_isSo_313 : decode cL_isSo 313 = .ok (.if_icmp .ne 30, 3) := by decide +kernel
theorem dL_isSo_316 : decode cL_isSo 316 = .ok (.iload 9, 2) := by decide +kernel
theorem dL_isSo_318 : decode cL_isSo 318 = .ok (.iconst 3, 1) := by decide +kernel
theorem dL_isSo_319 : decode cL_isSo 319 = .ok (.irem, 1) := by decide +kernel
theorem dL_isSo_320 : decode cL_isSo 320 = .ok (.ifCond .gt 19, 3) := by decide +kernel
theorem dL_isSo_323 : decode cL_isSo 323 = .ok (.aload_n 0, 1) := by decide +kernel
theorem dL_isSo_324 : decode cL_isSo 324 = .ok (.iload 10, 2) := by decide +kernel
theorem dL_isSo_326 : decode cL_isSo 326 = .ok (.iload 9, 2) := by decide +kernel
theorem dL_isSo_328 : decode cL_isSo 328 = .ok (.invokevirtual 94, 3) := by decide +kernel
theorem dL_isSo_331 : decode cL_isSo 331 = .ok (.aload 6, 2) := by decide +kernel
theorem dL_isSo_333 : decode cL_isSo 333 = .ok (.iload 10, 2) := by decide +kernel
theorem dL_isSo_335 : decode cL_isSo 335 = .ok (.iaload, 1) := by decide +kernel
theorem dL_isSo_336 : decode cL_isSo 336 = .ok (.if_icmp .ne 7, 3) := by decide +kernel
theorem dL_isSo_339 : decode cL_isSo 339 = .ok (.iconst 1, 1) := by decide +kernel
theorem dL_isSo_340 : decode cL_isSo 340 = .ok (.goto 4, 3) := by decide +kernel
theorem dL_isSo_343 : decode cL_isSo 343 = .ok (.iconst 0, 1) := by decide +kernel
theorem dL_isSo_344 : decode cL_isSo 344 = .ok (.istore 8, 2) := by decide +kernel
theorem dL_isSo_346 : decode cL_isSo 346 = .ok (.iinc 10 1, 3) := by decide +kernel
theorem dL_isSo_349 : decode cL_isSo 349 = .ok (.goto (-142), 3) := by decide +kernel
theorem dL_isSo_352 : decode cL_isSo 352 = .ok (.iload 8, 2) := by decide +kernel
theorem dL_isSo_354 : decode cL_isSo 354 = .ok (.ireturn, 1) := by decide +kernel
set_option maxRecDepth 20000 in
theorem ggL_types_X3_clearAddress : GoodIn wsL_types wsX3_clearAddress := goodIn_r _ [5, 6, 7, 8, 9, 10, 11, 12, 13, 14, 46, 47, 48, 49, 50, 51, 52, 53, 54, 55, 56, 57, 58] (by decide +kernel) (by decide +kernel)
set_option maxRecDepth 20000 in
theorem gL_types_X3_clearAddress : GoodIn wsL_types (wsV RL 97 RX3 yX3_clearAddress wsX3_clearAddress) := goodIn_app (goodIn_of _ (by decide +kernel)) ggL_types_X3_clearAddress
set_option maxRecDepth 20000 in
theorem ggL_types_L_low : GoodIn wsL_types wsL_low := goodIn_r _ [18, 19] (by decide +kernel) (by decide +kernel)
set_option maxRecDepth 20000 in
theorem gL_types_L_low : GoodIn wsL_types (va_wsS RL 74 yL_low wsL_low) := goodIn_app (goodIn_of _ (by decide +kernel)) ggL_types_L_low
set_option maxRecDepth 20000 in
theorem ggL_types_X3_type : GoodIn wsL_types wsX3_type := goodIn_ca (goodIn_ca (goodIn_r _ [23, 24, 25, 26, 27, 6, 7, 28, 29, 30, 11, 31, 13, 32, 33, 34, 35, 36, 37, 38, 39, 40, 41, 42, 43, 44, 14, 45, 46, 47, 48, 49, 50, 51, 52, 53, 54, 55, 56, 57, 58] (by decide +kernel) (by decide +kernel)) (goodIn_sub (fun _ h => List.mem_cons_of_mem _ (List.mem_append_left _ (List.mem_append_right _ h))) (by decide +kernel))) (goodIn_sub (fun _ h => List.mem_cons_of_mem _ (List.mem_append_right _ h)) (by decide +kernel))
set_option maxRecDepth 20000 in
theorem gL_types_X3_type : GoodIn wsL_types (wsV RL 100 RX3 yX3_type wsX3_type) := goodIn_app (goodIn_of _ (by decide +kernel)) ggL_types_X3_type
theorem dL_types_0 : decode cL_types 0 = .ok (.aload_n 0, 1) := by decide +kernel
theorem dL_types_1 : decode cL_types 1 = .ok (.invokevirtual 97, 3) := by decide +kernel
theorem dL_types_4 : decode cL_types 4 = .ok (.aload_n 3, 1) := by decide +kernel
theorem dL_types_5 : decode cL_types 5 = .ok (.bipush 7, 2) := by decide +kernel
theorem dL_types_7 : decode cL_types 7 = .ok (.iaload, 1) := by decide +kernel
theorem dL_types_8 : decode cL_types 8 = .ok (.if_icmp .eq 5, 3) := by decide +kernel
theorem dL_types_11 : decode cL_types 11 = .ok (.iconst 0, 1) := by decide +kernel
theorem dL_types_12 : decode cL_types 12 = .ok (.ireturn, 1) := by decide +kernel
theorem dL_types_13 : decode cL_types 13 = .ok (.aload_n 3, 1) := by decide +kernel
theorem dL_types_14 : decode cL_types 14 = .ok (.bipush 7, 2) := by decide +kernel
theorem dL_types_16 : decode cL_types 16 = .ok (.iconst 0, 1) := by decide +kernel
theorem dL_types_17 : decode cL_types 17 = .ok (.iastore, 1) := by decide +kernel
theorem dL_types_18 : decode cL_types 18 = .ok (.iconst 1, 1) := by decide +kernel
theorem dL_types_19 : decode cL_types 19 = .ok (.iload_n 1, 1) := by decide +kernel
theorem dL_types_20 : decode cL_types 20 = .ok (.iconst 3, 1) := by decide +kernel
theorem dL_types_21 : decode cL_types 21 = .ok (.ishr, 1) := by decide +kernel
theorem dL_types_22 : decode cL_types 22 = .ok (.bipush 12, 2) := by decide +kernel
theorem dL_types_24 : decode cL_types 24 = .ok (.invokestatic 74, 3) := by decide +kernel
theorem dL_types_27 : decode cL_types 27 = .ok (.iadd, 1) := by decide +kernel
theorem dL_types_28 : decode cL_types 28 = .ok (.istore 4, 2) := by decide +kernel
theorem dL_types_30 : decode cL_types 30 = .ok (.iconst 1, 1) := by decide +kernel
theorem dL_types_31 : decode cL_types 31 = .ok (.istore 5, 2) := by decide +kernel
theorem dL_types_33 : decode cL_types 33 = .ok (.iconst 0, 1) := by decide +kernel
theorem dL_types_34 : decode cL_types 34 = .ok (.istore 6, 2) := by decide +kernel
theorem dL_types_36 : decode cL_types 36 = .ok (.iload 6, 2) := by decide +kernel
theorem dL_types_38 : decode cL_types 38 = .ok (.iload 4, 2) := by decide +kernel
theorem dL_types_40 : decode cL_types 40 = .ok (.if_icmp .ge 174, 3) := by decide +kernel
theorem dL_types_43 : decode cL_types 43 = .ok (.iload 5, 2) := by decide +kernel
theorem dL_types_45 : decode cL_types 45 = .ok (.ifCond .eq 169, 3) := by decide +kernel
theorem dL_types_48 : decode cL_types 48 = .ok (.iload_n 1, 1) := by decide +kernel
theorem dL_types_49 : decode cL_types 49 = .ok (.iconst 3, 1) := by decide +kernel
theorem dL_types_50 : decode cL_types 50 = .ok (.invokestatic 74, 3) := by decide +kernel
theorem dL_types_53 : decode cL_types 53 = .ok (.ifCond .ne 27, 3) := by decide +kernel
theorem dL_types_56 : decode cL_types 56 = .ok (.iload 6, 2) := by decide +kernel
theorem dL_types_58 : decode cL_types 58 = .ok (.iconst 2, 1) := by decide +kernel
theorem dL_types_59 : decode cL_types 59 = .ok (.irem, 1) := by decide +kernel
theorem dL_types_60 : decode cL_types 60 = .ok (.iconst 1, 1) := by decide +kernel
theorem dL_types_61 : decode cL_types 61 = .ok (.if_icmp .ne 7, 3) := by decide +kernel
theorem dL_types_64 : decode cL_types 64 = .ok (.iconst 0, 1) := by decide +kernel
theorem dL_types_65 : decode cL_types 65 = .ok (.goto 84, 3) := by decide +kernel
theorem dL_types_68 : decode cL_types 68 = .ok (.iconst 1, 1) := by decide +kernel
theorem dL_types_69 : decode cL_types 69 = .ok (.iload_n 1, 1) := by decide +kernel
theorem dL_types_70 : decode cL_types 70 = .ok (.iconst 5, 1) := by decide +kernel
theorem dL_types_71 : decode cL_types 71 = .ok (.ishr, 1) := by decide +kernel
theorem dL_types_72 : decode cL_types 72 = .ok (.iconst 2, 1) := by decide +kernel
theorem dL_types_73 : decode cL_types 73 = .ok (.invokestatic 74, 3) := by decide +kernel
theorem dL_types_76 : decode cL_types 76 = .ok (.iadd, 1) := by decide +kernel
theorem dL_types_77 : decode cL_types 77 = .ok (.goto 72, 3) := by decide +kernel
theorem dL_types_80 : decode cL_types 80 = .ok (.iload_n 1, 1) := by decide +kernel
theorem dL_types_81 : decode cL_types 81 = .ok (.iconst 3, 1) := by decide +kernel
theorem dL_types_82 : decode cL_types 82 = .ok (.invokestatic 74, 3) := by decide +kernel
theorem dL_types_85 : decode cL_types 85 = .ok (.iconst 1, 1) := by decide +kernel
theorem dL_types_86 : decode cL_types 86 = .ok (.if_icmp .ne 34, 3) := by decide +kernel
theorem dL_types_89 : decode cL_types 89 = .ok (.iload 6, 2) := by decide +kernel
theorem dL_types_91 : decode cL_types 91 = .ok (.iconst 4, 1) := by decide +kernel
theorem dL_types_92 : decode cL_types 92 = .ok (.irem, 1) := by decide +kernel
theorem dL_types_93 : decode cL_types 93 = .ok (.iconst 1, 1) := by decide +kernel
theorem dL_types_94 : decode cL_types 94 = .ok (.if_icmp .eq 11, 3) := by decide +kernel
theorem dL_types_97 : decode cL_types 97 = .ok (.iload 6, 2) := by decide +kernel
theorem dL_types_99 : decode cL_types 99 = .ok (.iconst 4, 1) := by decide +kernel
theorem dL_types_100 : decode cL_types 100 = .ok (.irem, 1) := by decide +kernel
theorem dL_types_101 : decode cL_types 101 = .ok (.iconst 3, 1) := by decide +kernel
theorem dL_types_102 : decode cL_types 102 = .ok (.if_icmp .ne 7, 3) := by decide +kernel
theorem dL_types_105 : decode cL_types 105 = .ok (.iconst 0, 1) := by decide +kernel
theorem dL_types_106 : decode cL_types 106 = .ok (.goto 43, 3) := by decide +kernel
theorem dL_types_109 : decode cL_types 109 = .ok (.iconst 1, 1) := by decide +kernel
theorem dL_types_110 : decode cL_types 110 = .ok (.iload 6, 2) := by decide +kernel
theorem dL_types_112 : decode cL_types 112 = .ok (.iconst 4, 1) := by decide +kernel
theorem dL_types_113 : decode cL_types 113 = .ok (.irem, 1) := by decide +kernel
theorem dL_types_114 : decode cL_types 114 = .ok (.iconst 2, 1) := by decide +kernel
theorem dL_types_115 : decode cL_types 115 = .ok (.idiv, 1) := by decide +kernel
theorem dL_types_116 : decode cL_types 116 = .ok (.iadd, 1) := by decide +kernel
theorem dL_types_117 : decode cL_types 117 = .ok (.goto 32, 3) := by decide +kernel
theorem dL_types_120 : decode cL_types 120 = .ok (.iload_n 1, 1) := by decide +kernel
theorem dL_types_121 : decode cL_types 121 = .ok (.iload 6, 2) := by decide +kernel
theorem dL_types_123 : decode cL_types 123 = .ok (.iconst 4, 1) := by decide +kernel
theorem dL_types_124 : decode cL_types 124 = .ok (.iadd, 1) := by decide +kernel
theorem dL_types_125 : decode cL_types 125 = .ok (.ishr, 1) := by decide +kernel
theorem dL_types_126 : decode cL_types 126 = .ok (.iconst 4, 1) := by decide +kernel
theorem dL_types_127 : decode cL_types 127 = .ok (.invokestatic 74, 3) := by decide +kernel
theorem dL_types_130 : decode cL_types 130 = .ok (.ifCond .ne 7, 3) := by decide +kernel
theorem dL_types_133 : decode cL_types 133 = .ok (.iconst 0, 1) := by decide +kernel
theorem dL_types_134 : decode cL_types 134 = .ok (.goto 15, 3) := by decide +kernel
theorem dL_types_137 : decode cL_types 137 = .ok (.iconst 1, 1) := by decide +kernel
theorem dL_types_138 : decode cL_types 138 = .ok (.iload_n 1, 1) := by decide +kernel
theorem dL_types_139 : decode cL_types 139 = .ok (.iload 6, 2) := by decide +kernel
theorem dL_types_141 : decode cL_types 141 = .ok (.iconst 5, 1) := by decide +kernel
theorem dL_types_142 : decode cL_types 142 = .ok (.iadd, 1) := by decide +kernel
theorem dL_types_143 : decode cL_types 143 = .ok (.ishr, 1) := by decide +kernel
theorem dL_types_144 : decode cL_types 144 = .ok (.iconst 2, 1) := by decide +kernel
theorem dL_types_145 : decode cL_types 145 = .ok (.invokestatic 74, 3) := by decide +kernel
theorem dL_types_148 : decode cL_types 148 = .ok (.iadd, 1) := by decide +kernel
theorem dL_types_149 : decode cL_types 149 = .ok (.istore 7, 2) := by decide +kernel
theorem dL_types_151 : decode cL_types 151 = .ok (.aload_n 2, 1) := by decide +kernel
theorem dL_types_152 : decode cL_types 152 = .ok (.aload_n 3, 1) := by decide +kernel
theorem dL_types_153 : decode cL_types 153 = .ok (.bipush 7, 2) := by decide +kernel
theorem dL_types_155 : decode cL_types 155 = .ok (.iaload, 1) := by decide +kernel
theorem dL_types_156 : decode cL_types 156 = .ok (.iload 7, 2) := by decide +kernel
theorem dL_types_158 : decode cL_types 158 = .ok (.iastore, 1) := by decide +kernel
theorem dL_types_159 : decode cL_types 159 = .ok (.aload_n 3, 1) := by decide +kernel
theorem dL_types_160 : decode cL_types 160 = .ok (.bipush 7, 2) := by decide +kernel
theorem dL_types_162 : decode cL_types 162 = .ok (.dup2, 1) := by decide +kernel
theorem dL_types_163 : decode cL_types 163 = .ok (.iaload, 1) := by decide +kernel
theorem dL_types_164 : decode cL_types 164 = .ok (.iconst 1, 1) := by decide +kernel
theorem dL_types_165 : decode cL_types 165 = .ok (.iadd, 1) := by decide +kernel
theorem dL_types_166 : decode cL_types 166 = .ok (.iastore, 1) := by decide +kernel
theorem dL_types_167 : decode cL_types 167 = .ok (.aload_n 0, 1) := by decide +kernel
theorem dL_types_168 : decode cL_types 168 = .ok (.iload 7, 2) := by decide +kernel
theorem dL_types_170 : decode cL_types 170 = .ok (.ifCond .ne 8, 3) := by decide +kernel
theorem dL_types_173 : decode cL_types 173 = .ok (.bipush 47, 2) := by decide +kernel
theorem dL_types_175 : decode cL_types 175 = .ok (.goto 16, 3) := by decide +kernel
theorem dL_types_178 : decode cL_types 178 = .ok (.iload 7, 2) := by decide +kernel
theorem dL_types_180 : decode cL_types 180 = .ok (.iconst 1, 1) := by decide +kernel
theorem dL_types_181 : decode cL_types 181 = .ok (.if_icmp .ne 8, 3) := by decide +kernel
theorem dL_types_184 : decode cL_types 184 = .ok (.bipush 97, 2) := by decide +kernel
theorem dL_types_186 : decode cL_types 186 = .ok (.goto 5, 3) := by decide +kernel
theorem dL_types_189 : decode cL_types 189 = .ok (.bipush 98, 2) := by decide +kernel
theorem dL_types_191 : decode cL_types 191 = .ok (.invokevirtual 100, 3) := by decide +kernel
theorem dL_types_194 : decode cL_types 194 = .ok (.aload_n 3, 1) := by decide +kernel
theorem dL_types_195 : decode cL_types 195 = .ok (.bipush 7, 2) := by decide +kernel
theorem dL_types_197 : decode cL_types 197 = .ok (.iaload, 1) := by decide +kernel
theorem dL_types_198 : decode cL_types 198 = .ok (.if_icmp .ne 7, 3) := by decide +kernel
theorem dL_types_201 : decode cL_types 201 = .ok (.iconst 1, 1) := by decide +kernel
theorem dL_types_202 : decode cL_types 202 = .ok (.goto 4, 3) := by decide +kernel
theorem dL_types_205 : decode cL_types 205 = .ok (.iconst 0, 1) := by decide +kernel
theorem dL_types_206 : decode cL_types 206 = .ok (.istore 5, 2) := by decide +kernel
theorem dL_types_208 : decode cL_types 208 = .ok (.iinc 6 1, 3) := by decide +kernel
theorem dL_types_211 : decode cL_types 211 = .ok (.goto (-175), 3) := by decide +kernel
theorem dL_types_214 : decode cL_types 214 = .ok (.iload 5, 2) := by decide +kernel
theorem dL_types_216 : decode cL_types 216 = .ok (.ireturn, 1) := by decide +kernel
set_option maxRecDepth 20000 in
theorem ggL_finds_L_low : GoodIn wsL_finds wsL_low := goodIn_r _ [4, 5] (by decide +kernel) (by decide +kernel)
set_option maxRecDepth 20000 in
theorem gL_finds_L_low : GoodIn wsL_finds (va_wsS RL 74 yL_low wsL_low) := goodIn_app (goodIn_of _ (by decide +kernel)) ggL_finds_L_low
set_option maxRecDepth 20000 in
theorem ggL_finds_L_address : GoodIn wsL_finds wsL_address := goodIn_r _ [8, 9] (by decide +kernel) (by decide +kernel)
set_option maxRecDepth 20000 in
theorem gL_finds_L_address : GoodIn wsL_finds (va_wsS RL 104 yL_address wsL_address) := goodIn_app (goodIn_of _ (by decide +kernel)) ggL_finds_L_address
set_option maxRecDepth 20000 in
theorem ggL_finds_L_isTrap : GoodIn wsL_finds wsL_isTrap := goodIn_r _ [12, 13, 14, 3, 15, 9] (by decide +kernel) (by decide +kernel)
set_option maxRecDepth 20000 in
theorem gL_finds_L_isTrap : GoodIn wsL_finds (va_wsS RL 64 yL_isTrap wsL_isTrap) := goodIn_app (goodIn_of _ (by decide +kernel)) ggL_finds_L_isTrap
set_option maxRecDepth 20000 in
theorem ggL_finds_X3_find : GoodIn wsL_finds wsX3_find := goodIn_ca (goodIn_ca (goodIn_ca (goodIn_r _ [20, 21, 22, 23, 24, 25, 26, 27, 28, 29, 30, 31, 32, 33, 34, 35, 36, 19, 37, 38, 39, 40, 41, 42, 43, 44, 45, 46, 47, 48, 49, 50, 51, 52, 53, 54, 55, 56, 57, 58, 59, 60, 61, 62, 63, 64, 65, 66, 67, 68, 69, 70, 71, 72, 73, 74, 75, 76, 77, 78, 79, 80, 81, 82, 83, 84, 85, 86, 87, 88, 89, 90, 91, 92, 93, 94, 95, 96, 97, 98, 99, 100, 101, 102, 103, 104, 105, 106, 107, 108, 109, 110, 111, 112, 113, 114, 115, 116, 117, 118, 119, 120, 121, 122, 123, 124, 125, 126, 127, 128] (by decide +kernel) (by decide +kernel)) (goodIn_sub (fun _ h => List.mem_cons_of_mem _ (List.mem_append_left _ (List.mem_append_left _ (List.mem_append_right _ h)))) (by decide +kernel))) (goodIn_sub (fun _ h => List.mem_cons_of_mem _ (List.mem_append_left _ (List.mem_append_right _ h))) (by decide +kernel))) (goodIn_sub (fun _ h => List.mem_cons_of_mem _ (List.mem_append_right _ h)) (by decide +kernel))
set_option maxRecDepth 20000 in
theorem gL_finds_X3_find : GoodIn wsL_finds (wsV RL 108 RX3 yX3_find wsX3_find) := goodIn_app (goodIn_of _ (by decide +kernel)) ggL_finds_X3_find
theorem dL_finds_0 : decode cL_finds 0 = .ok (.iload_n 1, 1) := by decide +kernel
theorem dL_finds_1 : decode cL_finds 1 = .ok (.iconst 3, 1) := by decide +kernel
theorem dL_finds_2 : decode cL_finds 2 = .ok (.invokestatic 74, 3) := by decide +kernel
theorem dL_finds_5 : decode cL_finds 5 = .ok (.istore 7, 2) := by decide +kernel
theorem dL_finds_7 : decode cL_finds 7 = .ok (.iload_n 1, 1) := by decide +kernel
theorem dL_finds_8 : decode cL_finds 8 = .ok (.iconst 2, 1) := by decide +kernel
theorem dL_finds_9 : decode cL_finds 9 = .ok (.ishr, 1) := by decide +kernel
theorem dL_finds_10 : decode cL_finds 10 = .ok (.bipush 10, 2) := by decide +kernel
theorem dL_finds_12 : decode cL_finds 12 = .ok (.invokestatic 74, 3) := by decide +kernel
theorem dL_finds_15 : decode cL_finds 15 = .ok (.istore 8, 2) := by decide +kernel
theorem dL_finds_17 : decode cL_finds 17 = .ok (.aload_n 2, 1) := by decide +kernel
theorem dL_finds_18 : decode cL_finds 18 = .ok (.aload 6, 2) := by decide +kernel
theorem dL_finds_20 : decode cL_finds 20 = .ok (.invokestatic 104, 3) := by decide +kernel
theorem dL_finds_23 : decode cL_finds 23 = .ok (.lstore 9, 2) := by decide +kernel
theorem dL_finds_25 : decode cL_finds 25 = .ok (.iconst (-1), 1) := by decide +kernel
theorem dL_finds_26 : decode cL_finds 26 = .ok (.istore 11, 2) := by decide +kernel
theorem dL_finds_28 : decode cL_finds 28 = .ok (.iconst 0, 1) := by decide +kernel
theorem dL_finds_29 : decode cL_finds 29 = .ok (.istore 12, 2) := by decide +kernel
theorem dL_finds_31 : decode cL_finds 31 = .ok (.iload 12, 2) := by decide +kernel
