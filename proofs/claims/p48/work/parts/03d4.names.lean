set_option maxRecDepth 20000 in
theorem gL_isDone_L_isPassed : GoodIn wsL_isDone (va_wsS RL 268 yL_isPassed wsL_isPassed) := goodIn_app (goodIn_of _ (by decide +kernel)) ggL_isDone_L_isPassed
theorem dL_isDone_0 : decode cL_isDone 0 = .ok (.aload_n 2, 1) := by decide +kernel
theorem dL_isDone_1 : decode cL_isDone 1 = .ok (.iload_n 3, 1) := by decide +kernel
theorem dL_isDone_2 : decode cL_isDone 2 = .ok (.iconst 1, 1) := by decide +kernel
theorem dL_isDone_3 : decode cL_isDone 3 = .ok (.iadd, 1) := by decide +kernel
theorem dL_isDone_4 : decode cL_isDone 4 = .ok (.aload_n 1, 1) := by decide +kernel
theorem dL_isDone_5 : decode cL_isDone 5 = .ok (.iconst 2, 1) := by decide +kernel
theorem dL_isDone_6 : decode cL_isDone 6 = .ok (.iaload, 1) := by decide +kernel
theorem dL_isDone_7 : decode cL_isDone 7 = .ok (.invokestatic 136, 3) := by decide +kernel
theorem dL_isDone_10 : decode cL_isDone 10 = .ok (.istore 4, 2) := by decide +kernel
theorem dL_isDone_12 : decode cL_isDone 12 = .ok (.aload_n 2, 1) := by decide +kernel
theorem dL_isDone_13 : decode cL_isDone 13 = .ok (.iload_n 3, 1) := by decide +kernel
theorem dL_isDone_14 : decode cL_isDone 14 = .ok (.iconst 1, 1) := by decide +kernel
theorem dL_isDone_15 : decode cL_isDone 15 = .ok (.iadd, 1) := by decide +kernel
theorem dL_isDone_16 : decode cL_isDone 16 = .ok (.aload_n 1, 1) := by decide +kernel
theorem dL_isDone_17 : decode cL_isDone 17 = .ok (.iconst 0, 1) := by decide +kernel
theorem dL_isDone_18 : decode cL_isDone 18 = .ok (.iaload, 1) := by decide +kernel
theorem dL_isDone_19 : decode cL_isDone 19 = .ok (.invokestatic 136, 3) := by decide +kernel
theorem dL_isDone_22 : decode cL_isDone 22 = .ok (.istore 5, 2) := by decide +kernel
theorem dL_isDone_24 : decode cL_isDone 24 = .ok (.aload_n 2, 1) := by decide +kernel
theorem dL_isDone_25 : decode cL_isDone 25 = .ok (.iload_n 3, 1) := by decide +kernel
theorem dL_isDone_26 : decode cL_isDone 26 = .ok (.bipush 14, 2) := by decide +kernel
theorem dL_isDone_28 : decode cL_isDone 28 = .ok (.invokestatic 136, 3) := by decide +kernel
theorem dL_isDone_31 : decode cL_isDone 31 = .ok (.tableswitch 418 0 11 #[61, 61, 61, 69, 77, 139, 139, 169, 175, 248, 314, 385], 61) := by decide +kernel
theorem dL_isDone_92 : decode cL_isDone 92 = .ok (.aload_n 0, 1) := by decide +kernel
theorem dL_isDone_93 : decode cL_isDone 93 = .ok (.aload_n 1, 1) := by decide +kernel
theorem dL_isDone_94 : decode cL_isDone 94 = .ok (.iload 4, 2) := by decide +kernel
theorem dL_isDone_96 : decode cL_isDone 96 = .ok (.invokestatic 244, 3) := by decide +kernel
theorem dL_isDone_99 : decode cL_isDone 99 = .ok (.ireturn, 1) := by decide +kernel
theorem dL_isDone_100 : decode cL_isDone 100 = .ok (.aload_n 0, 1) := by decide +kernel
theorem dL_isDone_101 : decode cL_isDone 101 = .ok (.aload_n 1, 1) := by decide +kernel
theorem dL_isDone_102 : decode cL_isDone 102 = .ok (.iload 5, 2) := by decide +kernel
theorem dL_isDone_104 : decode cL_isDone 104 = .ok (.invokestatic 248, 3) := by decide +kernel
theorem dL_isDone_107 : decode cL_isDone 107 = .ok (.ireturn, 1) := by decide +kernel
theorem dL_isDone_108 : decode cL_isDone 108 = .ok (.aload_n 1, 1) := by decide +kernel
theorem dL_isDone_109 : decode cL_isDone 109 = .ok (.bipush 54, 2) := by decide +kernel
theorem dL_isDone_111 : decode cL_isDone 111 = .ok (.bipush 9, 2) := by decide +kernel
theorem dL_isDone_113 : decode cL_isDone 113 = .ok (.iload 4, 2) := by decide +kernel
theorem dL_isDone_115 : decode cL_isDone 115 = .ok (.imul, 1) := by decide +kernel
theorem dL_isDone_116 : decode cL_isDone 116 = .ok (.iadd, 1) := by decide +kernel
theorem dL_isDone_117 : decode cL_isDone 117 = .ok (.dup2, 1) := by decide +kernel
theorem dL_isDone_118 : decode cL_isDone 118 = .ok (.iaload, 1) := by decide +kernel
theorem dL_isDone_119 : decode cL_isDone 119 = .ok (.iconst 1, 1) := by decide +kernel
theorem dL_isDone_120 : decode cL_isDone 120 = .ok (.aload_n 2, 1) := by decide +kernel
theorem dL_isDone_121 : decode cL_isDone 121 = .ok (.iload_n 3, 1) := by decide +kernel
theorem dL_isDone_122 : decode cL_isDone 122 = .ok (.iconst 2, 1) := by decide +kernel
theorem dL_isDone_123 : decode cL_isDone 123 = .ok (.iadd, 1) := by decide +kernel
theorem dL_isDone_124 : decode cL_isDone 124 = .ok (.sipush 300, 3) := by decide +kernel
theorem dL_isDone_127 : decode cL_isDone 127 = .ok (.invokestatic 136, 3) := by decide +kernel
theorem dL_isDone_130 : decode cL_isDone 130 = .ok (.iadd, 1) := by decide +kernel
theorem dL_isDone_131 : decode cL_isDone 131 = .ok (.iadd, 1) := by decide +kernel
theorem dL_isDone_132 : decode cL_isDone 132 = .ok (.iastore, 1) := by decide +kernel
theorem dL_isDone_133 : decode cL_isDone 133 = .ok (.aload_n 0, 1) := by decide +kernel
theorem dL_isDone_134 : decode cL_isDone 134 = .ok (.iload 4, 2) := by decide +kernel
theorem dL_isDone_136 : decode cL_isDone 136 = .ok (.iconst 1, 1) := by decide +kernel
theorem dL_isDone_137 : decode cL_isDone 137 = .ok (.aload_n 2, 1) := by decide +kernel
theorem dL_isDone_138 : decode cL_isDone 138 = .ok (.iload_n 3, 1) := by decide +kernel
theorem dL_isDone_139 : decode cL_isDone 139 = .ok (.iconst 2, 1) := by decide +kernel
theorem dL_isDone_140 : decode cL_isDone 140 = .ok (.iadd, 1) := by decide +kernel
theorem dL_isDone_141 : decode cL_isDone 141 = .ok (.sipush 300, 3) := by decide +kernel
theorem dL_isDone_144 : decode cL_isDone 144 = .ok (.invokestatic 136, 3) := by decide +kernel
theorem dL_isDone_147 : decode cL_isDone 147 = .ok (.iadd, 1) := by decide +kernel
theorem dL_isDone_148 : decode cL_isDone 148 = .ok (.invokestatic 251, 3) := by decide +kernel
theorem dL_isDone_151 : decode cL_isDone 151 = .ok (.aload_n 1, 1) := by decide +kernel
theorem dL_isDone_152 : decode cL_isDone 152 = .ok (.bipush 54, 2) := by decide +kernel
theorem dL_isDone_154 : decode cL_isDone 154 = .ok (.bipush 9, 2) := by decide +kernel
theorem dL_isDone_156 : decode cL_isDone 156 = .ok (.iload 4, 2) := by decide +kernel
theorem dL_isDone_158 : decode cL_isDone 158 = .ok (.imul, 1) := by decide +kernel
theorem dL_isDone_159 : decode cL_isDone 159 = .ok (.iadd, 1) := by decide +kernel
theorem dL_isDone_160 : decode cL_isDone 160 = .ok (.iaload, 1) := by decide +kernel
theorem dL_isDone_161 : decode cL_isDone 161 = .ok (.if_icmp .ne 7, 3) := by decide +kernel
theorem dL_isDone_164 : decode cL_isDone 164 = .ok (.iconst 1, 1) := by decide +kernel
theorem dL_isDone_165 : decode cL_isDone 165 = .ok (.goto 4, 3) := by decide +kernel
theorem dL_isDone_168 : decode cL_isDone 168 = .ok (.iconst 0, 1) := by decide +kernel
theorem dL_isDone_169 : decode cL_isDone 169 = .ok (.ireturn, 1) := by decide +kernel
theorem dL_isDone_170 : decode cL_isDone 170 = .ok (.aload_n 1, 1) := by decide +kernel
theorem dL_isDone_171 : decode cL_isDone 171 = .ok (.iconst 1, 1) := by decide +kernel
theorem dL_isDone_172 : decode cL_isDone 172 = .ok (.iaload, 1) := by decide +kernel
theorem dL_isDone_173 : decode cL_isDone 173 = .ok (.ifCond .eq 21, 3) := by decide +kernel
theorem dL_isDone_176 : decode cL_isDone 176 = .ok (.aload_n 0, 1) := by decide +kernel
theorem dL_isDone_177 : decode cL_isDone 177 = .ok (.aload_n 1, 1) := by decide +kernel
theorem dL_isDone_178 : decode cL_isDone 178 = .ok (.aload_n 2, 1) := by decide +kernel
theorem dL_isDone_179 : decode cL_isDone 179 = .ok (.iload_n 3, 1) := by decide +kernel
theorem dL_isDone_180 : decode cL_isDone 180 = .ok (.iconst 1, 1) := by decide +kernel
theorem dL_isDone_181 : decode cL_isDone 181 = .ok (.iadd, 1) := by decide +kernel
theorem dL_isDone_182 : decode cL_isDone 182 = .ok (.aload_n 1, 1) := by decide +kernel
theorem dL_isDone_183 : decode cL_isDone 183 = .ok (.iconst 1, 1) := by decide +kernel
theorem dL_isDone_184 : decode cL_isDone 184 = .ok (.iaload, 1) := by decide +kernel
theorem dL_isDone_185 : decode cL_isDone 185 = .ok (.invokestatic 136, 3) := by decide +kernel
theorem dL_isDone_188 : decode cL_isDone 188 = .ok (.invokestatic 253, 3) := by decide +kernel
theorem dL_isDone_191 : decode cL_isDone 191 = .ok (.ifCond .eq 7, 3) := by decide +kernel
theorem dL_isDone_194 : decode cL_isDone 194 = .ok (.iconst 1, 1) := by decide +kernel
theorem dL_isDone_195 : decode cL_isDone 195 = .ok (.goto 4, 3) := by decide +kernel
theorem dL_isDone_198 : decode cL_isDone 198 = .ok (.iconst 0, 1) := by decide +kernel
theorem dL_isDone_199 : decode cL_isDone 199 = .ok (.ireturn, 1) := by decide +kernel
theorem dL_isDone_200 : decode cL_isDone 200 = .ok (.aload_n 0, 1) := by decide +kernel
theorem dL_isDone_201 : decode cL_isDone 201 = .ok (.aload_n 1, 1) := by decide +kernel
theorem dL_isDone_202 : decode cL_isDone 202 = .ok (.invokestatic 256, 3) := by decide +kernel
theorem dL_isDone_205 : decode cL_isDone 205 = .ok (.ireturn, 1) := by decide +kernel
theorem dL_isDone_206 : decode cL_isDone 206 = .ok (.aload_n 1, 1) := by decide +kernel
theorem dL_isDone_207 : decode cL_isDone 207 = .ok (.bipush 10, 2) := by decide +kernel
theorem dL_isDone_209 : decode cL_isDone 209 = .ok (.iload 5, 2) := by decide +kernel
theorem dL_isDone_211 : decode cL_isDone 211 = .ok (.iadd, 1) := by decide +kernel
theorem dL_isDone_212 : decode cL_isDone 212 = .ok (.iaload, 1) := by decide +kernel
theorem dL_isDone_213 : decode cL_isDone 213 = .ok (.istore 6, 2) := by decide +kernel
theorem dL_isDone_215 : decode cL_isDone 215 = .ok (.aload_n 1, 1) := by decide +kernel
theorem dL_isDone_216 : decode cL_isDone 216 = .ok (.bipush 10, 2) := by decide +kernel
theorem dL_isDone_218 : decode cL_isDone 218 = .ok (.iload 5, 2) := by decide +kernel
theorem dL_isDone_220 : decode cL_isDone 220 = .ok (.iadd, 1) := by decide +kernel
theorem dL_isDone_221 : decode cL_isDone 221 = .ok (.aload_n 2, 1) := by decide +kernel
theorem dL_isDone_222 : decode cL_isDone 222 = .ok (.iload_n 3, 1) := by decide +kernel
theorem dL_isDone_223 : decode cL_isDone 223 = .ok (.iconst 2, 1) := by decide +kernel
theorem dL_isDone_224 : decode cL_isDone 224 = .ok (.iadd, 1) := by decide +kernel
theorem dL_isDone_225 : decode cL_isDone 225 = .ok (.iconst 2, 1) := by decide +kernel
theorem dL_isDone_226 : decode cL_isDone 226 = .ok (.invokestatic 136, 3) := by decide +kernel
theorem dL_isDone_229 : decode cL_isDone 229 = .ok (.ifCond .ne 15, 3) := by decide +kernel
theorem dL_isDone_232 : decode cL_isDone 232 = .ok (.aload_n 2, 1) := by decide +kernel
theorem dL_isDone_233 : decode cL_isDone 233 = .ok (.iload_n 3, 1) := by decide +kernel
theorem dL_isDone_234 : decode cL_isDone 234 = .ok (.iconst 3, 1) := by decide +kernel
theorem dL_isDone_235 : decode cL_isDone 235 = .ok (.iadd, 1) := by decide +kernel
theorem dL_isDone_236 : decode cL_isDone 236 = .ok (.bipush 12, 2) := by decide +kernel
theorem dL_isDone_238 : decode cL_isDone 238 = .ok (.invokestatic 136, 3) := by decide +kernel
theorem dL_isDone_241 : decode cL_isDone 241 = .ok (.goto 13, 3) := by decide +kernel
theorem dL_isDone_244 : decode cL_isDone 244 = .ok (.aload_n 2, 1) := by decide +kernel
theorem dL_isDone_245 : decode cL_isDone 245 = .ok (.iload_n 3, 1) := by decide +kernel
theorem dL_isDone_246 : decode cL_isDone 246 = .ok (.iconst 3, 1) := by decide +kernel
theorem dL_isDone_247 : decode cL_isDone 247 = .ok (.iadd, 1) := by decide +kernel
theorem dL_isDone_248 : decode cL_isDone 248 = .ok (.sipush 360, 3) := by decide +kernel
theorem dL_isDone_251 : decode cL_isDone 251 = .ok (.invokestatic 136, 3) := by decide +kernel
theorem dL_isDone_254 : decode cL_isDone 254 = .ok (.iastore, 1) := by decide +kernel
theorem dL_isDone_255 : decode cL_isDone 255 = .ok (.aload_n 0, 1) := by decide +kernel
theorem dL_isDone_256 : decode cL_isDone 256 = .ok (.iload 5, 2) := by decide +kernel
theorem dL_isDone_258 : decode cL_isDone 258 = .ok (.aload_n 1, 1) := by decide +kernel
theorem dL_isDone_259 : decode cL_isDone 259 = .ok (.bipush 10, 2) := by decide +kernel
theorem dL_isDone_261 : decode cL_isDone 261 = .ok (.iload 5, 2) := by decide +kernel
theorem dL_isDone_263 : decode cL_isDone 263 = .ok (.iadd, 1) := by decide +kernel
theorem dL_isDone_264 : decode cL_isDone 264 = .ok (.iaload, 1) := by decide +kernel
theorem dL_isDone_265 : decode cL_isDone 265 = .ok (.invokestatic 260, 3) := by decide +kernel
theorem dL_isDone_268 : decode cL_isDone 268 = .ok (.iload 6, 2) := by decide +kernel
theorem dL_isDone_270 : decode cL_isDone 270 = .ok (.if_icmp .ne 7, 3) := by decide +kernel
theorem dL_isDone_273 : decode cL_isDone 273 = .ok (.iconst 1, 1) := by decide +kernel
theorem dL_isDone_274 : decode cL_isDone 274 = .ok (.goto 4, 3) := by decide +kernel
theorem dL_isDone_277 : decode cL_isDone 277 = .ok (.iconst 0, 1) := by decide +kernel
theorem dL_isDone_278 : decode cL_isDone 278 = .ok (.ireturn, 1) := by decide +kernel
theorem dL_isDone_279 : decode cL_isDone 279 = .ok (.aload_n 1, 1) := by decide +kernel
theorem dL_isDone_280 : decode cL_isDone 280 = .ok (.iconst 5, 1) := by decide +kernel
theorem dL_isDone_281 : decode cL_isDone 281 = .ok (.iaload, 1) := by decide +kernel
theorem dL_isDone_282 : decode cL_isDone 282 = .ok (.istore 6, 2) := by decide +kernel
theorem dL_isDone_284 : decode cL_isDone 284 = .ok (.aload_n 1, 1) := by decide +kernel
theorem dL_isDone_285 : decode cL_isDone 285 = .ok (.iconst 5, 1) := by decide +kernel
theorem dL_isDone_286 : decode cL_isDone 286 = .ok (.aload_n 2, 1) := by decide +kernel
theorem dL_isDone_287 : decode cL_isDone 287 = .ok (.iload_n 3, 1) := by decide +kernel
theorem dL_isDone_288 : decode cL_isDone 288 = .ok (.iconst 2, 1) := by decide +kernel
theorem dL_isDone_289 : decode cL_isDone 289 = .ok (.iadd, 1) := by decide +kernel
theorem dL_isDone_290 : decode cL_isDone 290 = .ok (.bipush 40, 2) := by decide +kernel
theorem dL_isDone_292 : decode cL_isDone 292 = .ok (.invokestatic 136, 3) := by decide +kernel
theorem dL_isDone_295 : decode cL_isDone 295 = .ok (.iastore, 1) := by decide +kernel
theorem dL_isDone_296 : decode cL_isDone 296 = .ok (.aload_n 1, 1) := by decide +kernel
theorem dL_isDone_297 : decode cL_isDone 297 = .ok (.bipush 6, 2) := by decide +kernel
theorem dL_isDone_299 : decode cL_isDone 299 = .ok (.iaload, 1) := by decide +kernel
theorem dL_isDone_300 : decode cL_isDone 300 = .ok (.istore 7, 2) := by decide +kernel
