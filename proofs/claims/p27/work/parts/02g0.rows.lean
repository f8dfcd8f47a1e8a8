theorem dL_finds_33 : decode cL_finds 33 = .ok (.aload 6, 2) := by decide +kernel
theorem dL_finds_35 : decode cL_finds 35 = .ok (.bipush 6, 2) := by decide +kernel
theorem dL_finds_37 : decode cL_finds 37 = .ok (.iaload, 1) := by decide +kernel
theorem dL_finds_38 : decode cL_finds 38 = .ok (.if_icmp .ge 42, 3) := by decide +kernel
theorem dL_finds_41 : decode cL_finds 41 = .ok (.aload 5, 2) := by decide +kernel
theorem dL_finds_43 : decode cL_finds 43 = .ok (.bipush 6, 2) := by decide +kernel
theorem dL_finds_45 : decode cL_finds 45 = .ok (.iload 12, 2) := by decide +kernel
theorem dL_finds_47 : decode cL_finds 47 = .ok (.imul, 1) := by decide +kernel
theorem dL_finds_48 : decode cL_finds 48 = .ok (.iaload, 1) := by decide +kernel
theorem dL_finds_49 : decode cL_finds 49 = .ok (.iload 7, 2) := by decide +kernel
theorem dL_finds_51 : decode cL_finds 51 = .ok (.if_icmp .ne 19, 3) := by decide +kernel
theorem dL_finds_54 : decode cL_finds 54 = .ok (.aload 4, 2) := by decide +kernel
theorem dL_finds_56 : decode cL_finds 56 = .ok (.iload 12, 2) := by decide +kernel
theorem dL_finds_58 : decode cL_finds 58 = .ok (.laload, 1) := by decide +kernel
theorem dL_finds_59 : decode cL_finds 59 = .ok (.lload 9, 2) := by decide +kernel
theorem dL_finds_61 : decode cL_finds 61 = .ok (.lcmp, 1) := by decide +kernel
theorem dL_finds_62 : decode cL_finds 62 = .ok (.ifCond .ne 8, 3) := by decide +kernel
theorem dL_finds_65 : decode cL_finds 65 = .ok (.iload 12, 2) := by decide +kernel
theorem dL_finds_67 : decode cL_finds 67 = .ok (.goto 5, 3) := by decide +kernel
theorem dL_finds_70 : decode cL_finds 70 = .ok (.iload 11, 2) := by decide +kernel
theorem dL_finds_72 : decode cL_finds 72 = .ok (.istore 11, 2) := by decide +kernel
theorem dL_finds_74 : decode cL_finds 74 = .ok (.iinc 12 1, 3) := by decide +kernel
theorem dL_finds_77 : decode cL_finds 77 = .ok (.goto (-46), 3) := by decide +kernel
theorem dL_finds_80 : decode cL_finds 80 = .ok (.iload 11, 2) := by decide +kernel
theorem dL_finds_82 : decode cL_finds 82 = .ok (.ifCond .ge 15, 3) := by decide +kernel
theorem dL_finds_85 : decode cL_finds 85 = .ok (.aload 6, 2) := by decide +kernel
theorem dL_finds_87 : decode cL_finds 87 = .ok (.bipush 6, 2) := by decide +kernel
theorem dL_finds_89 : decode cL_finds 89 = .ok (.iaload, 1) := by decide +kernel
theorem dL_finds_90 : decode cL_finds 90 = .ok (.bipush 10, 2) := by decide +kernel
theorem dL_finds_92 : decode cL_finds 92 = .ok (.if_icmp .ne 5, 3) := by decide +kernel
theorem dL_finds_95 : decode cL_finds 95 = .ok (.iconst 1, 1) := by decide +kernel
theorem dL_finds_96 : decode cL_finds 96 = .ok (.ireturn, 1) := by decide +kernel
theorem dL_finds_97 : decode cL_finds 97 = .ok (.iload 11, 2) := by decide +kernel
theorem dL_finds_99 : decode cL_finds 99 = .ok (.ifCond .ge 109, 3) := by decide +kernel
theorem dL_finds_102 : decode cL_finds 102 = .ok (.aload 6, 2) := by decide +kernel
theorem dL_finds_104 : decode cL_finds 104 = .ok (.bipush 6, 2) := by decide +kernel
theorem dL_finds_106 : decode cL_finds 106 = .ok (.iaload, 1) := by decide +kernel
theorem dL_finds_107 : decode cL_finds 107 = .ok (.istore 11, 2) := by decide +kernel
theorem dL_finds_109 : decode cL_finds 109 = .ok (.aload 4, 2) := by decide +kernel
theorem dL_finds_111 : decode cL_finds 111 = .ok (.iload 11, 2) := by decide +kernel
theorem dL_finds_113 : decode cL_finds 113 = .ok (.lload 9, 2) := by decide +kernel
theorem dL_finds_115 : decode cL_finds 115 = .ok (.lastore, 1) := by decide +kernel
theorem dL_finds_116 : decode cL_finds 116 = .ok (.aload 5, 2) := by decide +kernel
theorem dL_finds_118 : decode cL_finds 118 = .ok (.bipush 6, 2) := by decide +kernel
theorem dL_finds_120 : decode cL_finds 120 = .ok (.iload 11, 2) := by decide +kernel
theorem dL_finds_122 : decode cL_finds 122 = .ok (.imul, 1) := by decide +kernel
theorem dL_finds_123 : decode cL_finds 123 = .ok (.iload 7, 2) := by decide +kernel
theorem dL_finds_125 : decode cL_finds 125 = .ok (.iastore, 1) := by decide +kernel
theorem dL_finds_126 : decode cL_finds 126 = .ok (.aload 5, 2) := by decide +kernel
theorem dL_finds_128 : decode cL_finds 128 = .ok (.bipush 6, 2) := by decide +kernel
theorem dL_finds_130 : decode cL_finds 130 = .ok (.iload 11, 2) := by decide +kernel
theorem dL_finds_132 : decode cL_finds 132 = .ok (.imul, 1) := by decide +kernel
theorem dL_finds_133 : decode cL_finds 133 = .ok (.iconst 1, 1) := by decide +kernel
theorem dL_finds_134 : decode cL_finds 134 = .ok (.iadd, 1) := by decide +kernel
theorem dL_finds_135 : decode cL_finds 135 = .ok (.iload 8, 2) := by decide +kernel
theorem dL_finds_137 : decode cL_finds 137 = .ok (.iastore, 1) := by decide +kernel
theorem dL_finds_138 : decode cL_finds 138 = .ok (.aload 5, 2) := by decide +kernel
theorem dL_finds_140 : decode cL_finds 140 = .ok (.bipush 6, 2) := by decide +kernel
theorem dL_finds_142 : decode cL_finds 142 = .ok (.iload 11, 2) := by decide +kernel
theorem dL_finds_144 : decode cL_finds 144 = .ok (.imul, 1) := by decide +kernel
theorem dL_finds_145 : decode cL_finds 145 = .ok (.iconst 2, 1) := by decide +kernel
theorem dL_finds_146 : decode cL_finds 146 = .ok (.iadd, 1) := by decide +kernel
theorem dL_finds_147 : decode cL_finds 147 = .ok (.aload 6, 2) := by decide +kernel
theorem dL_finds_149 : decode cL_finds 149 = .ok (.iconst 0, 1) := by decide +kernel
theorem dL_finds_150 : decode cL_finds 150 = .ok (.iaload, 1) := by decide +kernel
theorem dL_finds_151 : decode cL_finds 151 = .ok (.iastore, 1) := by decide +kernel
theorem dL_finds_152 : decode cL_finds 152 = .ok (.aload 5, 2) := by decide +kernel
theorem dL_finds_154 : decode cL_finds 154 = .ok (.bipush 6, 2) := by decide +kernel
theorem dL_finds_156 : decode cL_finds 156 = .ok (.iload 11, 2) := by decide +kernel
theorem dL_finds_158 : decode cL_finds 158 = .ok (.imul, 1) := by decide +kernel
theorem dL_finds_159 : decode cL_finds 159 = .ok (.iconst 3, 1) := by decide +kernel
theorem dL_finds_160 : decode cL_finds 160 = .ok (.iadd, 1) := by decide +kernel
theorem dL_finds_161 : decode cL_finds 161 = .ok (.iconst 0, 1) := by decide +kernel
theorem dL_finds_162 : decode cL_finds 162 = .ok (.iastore, 1) := by decide +kernel
theorem dL_finds_163 : decode cL_finds 163 = .ok (.aload 5, 2) := by decide +kernel
theorem dL_finds_165 : decode cL_finds 165 = .ok (.bipush 6, 2) := by decide +kernel
theorem dL_finds_167 : decode cL_finds 167 = .ok (.iload 11, 2) := by decide +kernel
theorem dL_finds_169 : decode cL_finds 169 = .ok (.imul, 1) := by decide +kernel
theorem dL_finds_170 : decode cL_finds 170 = .ok (.iconst 4, 1) := by decide +kernel
theorem dL_finds_171 : decode cL_finds 171 = .ok (.iadd, 1) := by decide +kernel
theorem dL_finds_172 : decode cL_finds 172 = .ok (.iconst 0, 1) := by decide +kernel
theorem dL_finds_173 : decode cL_finds 173 = .ok (.iastore, 1) := by decide +kernel
theorem dL_finds_174 : decode cL_finds 174 = .ok (.aload 5, 2) := by decide +kernel
theorem dL_finds_176 : decode cL_finds 176 = .ok (.bipush 6, 2) := by decide +kernel
theorem dL_finds_178 : decode cL_finds 178 = .ok (.iload 11, 2) := by decide +kernel
theorem dL_finds_180 : decode cL_finds 180 = .ok (.imul, 1) := by decide +kernel
theorem dL_finds_181 : decode cL_finds 181 = .ok (.iconst 5, 1) := by decide +kernel
theorem dL_finds_182 : decode cL_finds 182 = .ok (.iadd, 1) := by decide +kernel
theorem dL_finds_183 : decode cL_finds 183 = .ok (.aload_n 2, 1) := by decide +kernel
theorem dL_finds_184 : decode cL_finds 184 = .ok (.aload_n 3, 1) := by decide +kernel
theorem dL_finds_185 : decode cL_finds 185 = .ok (.aload 6, 2) := by decide +kernel
theorem dL_finds_187 : decode cL_finds 187 = .ok (.invokestatic 64, 3) := by decide +kernel
theorem dL_finds_190 : decode cL_finds 190 = .ok (.ifCond .eq 7, 3) := by decide +kernel
theorem dL_finds_193 : decode cL_finds 193 = .ok (.iconst 2, 1) := by decide +kernel
theorem dL_finds_194 : decode cL_finds 194 = .ok (.goto 4, 3) := by decide +kernel
theorem dL_finds_197 : decode cL_finds 197 = .ok (.iconst 0, 1) := by decide +kernel
theorem dL_finds_198 : decode cL_finds 198 = .ok (.iastore, 1) := by decide +kernel
theorem dL_finds_199 : decode cL_finds 199 = .ok (.aload 6, 2) := by decide +kernel
theorem dL_finds_201 : decode cL_finds 201 = .ok (.bipush 6, 2) := by decide +kernel
theorem dL_finds_203 : decode cL_finds 203 = .ok (.dup2, 1) := by decide +kernel
theorem dL_finds_204 : decode cL_finds 204 = .ok (.iaload, 1) := by decide +kernel
theorem dL_finds_205 : decode cL_finds 205 = .ok (.iconst 1, 1) := by decide +kernel
theorem dL_finds_206 : decode cL_finds 206 = .ok (.iadd, 1) := by decide +kernel
theorem dL_finds_207 : decode cL_finds 207 = .ok (.iastore, 1) := by decide +kernel
theorem dL_finds_208 : decode cL_finds 208 = .ok (.aload_n 0, 1) := by decide +kernel
theorem dL_finds_209 : decode cL_finds 209 = .ok (.iconst 2, 1) := by decide +kernel
theorem dL_finds_210 : decode cL_finds 210 = .ok (.iload 7, 2) := by decide +kernel
theorem dL_finds_212 : decode cL_finds 212 = .ok (.imul, 1) := by decide +kernel
theorem dL_finds_213 : decode cL_finds 213 = .ok (.iload 8, 2) := by decide +kernel
theorem dL_finds_215 : decode cL_finds 215 = .ok (.invokevirtual 108, 3) := by decide +kernel
theorem dL_finds_218 : decode cL_finds 218 = .ok (.iload 11, 2) := by decide +kernel
theorem dL_finds_220 : decode cL_finds 220 = .ok (.if_icmp .ne 7, 3) := by decide +kernel
theorem dL_finds_223 : decode cL_finds 223 = .ok (.iconst 1, 1) := by decide +kernel
theorem dL_finds_224 : decode cL_finds 224 = .ok (.goto 4, 3) := by decide +kernel
theorem dL_finds_227 : decode cL_finds 227 = .ok (.iconst 0, 1) := by decide +kernel
theorem dL_finds_228 : decode cL_finds 228 = .ok (.ireturn, 1) := by decide +kernel
set_option maxRecDepth 20000 in
theorem ggL_law_X3_init : GoodIn wsL_law wsX3_init := goodIn_r _ [7, 8, 9, 10, 11, 12, 13, 14, 15, 16, 17, 18, 19, 20, 21, 22, 23, 24, 25, 26, 27, 28, 29, 3, 30, 31, 32, 33, 34, 383, 384, 385, 386, 374, 375, 376, 377, 378, 379, 380, 381, 382, 387, 388, 389] (by decide +kernel) (by decide +kernel)
set_option maxRecDepth 20000 in
theorem gL_law_X3_init : GoodIn wsL_law (wsX3_init) := ggL_law_X3_init
set_option maxRecDepth 20000 in
theorem ggL_law_L_cell : GoodIn wsL_law wsL_cell := goodIn_r _ [38, 39, 40] (by decide +kernel) (by decide +kernel)
set_option maxRecDepth 20000 in
theorem gL_law_L_cell : GoodIn wsL_law (va_wsS RL 112 yL_cell wsL_cell) := goodIn_app (goodIn_of _ (by decide +kernel)) ggL_law_L_cell
set_option maxRecDepth 20000 in
theorem ggL_law_L_low : GoodIn wsL_law wsL_low := goodIn_r _ [43, 44] (by decide +kernel) (by decide +kernel)
set_option maxRecDepth 20000 in
theorem gL_law_L_low : GoodIn wsL_law (va_wsS RL 74 yL_low wsL_low) := goodIn_app (goodIn_of _ (by decide +kernel)) ggL_law_L_low
