theorem dX11_work_88 : decode cX11_work 88 = .ok (.istore_n 2, 1) := by decide +kernel
theorem dX11_work_89 : decode cX11_work 89 = .ok (.iinc 3 1, 3) := by decide +kernel
theorem dX11_work_92 : decode cX11_work 92 = .ok (.goto (-87), 3) := by decide +kernel
theorem dX11_work_95 : decode cX11_work 95 = .ok (.iload_n 2, 1) := by decide +kernel
theorem dX11_work_96 : decode cX11_work 96 = .ok (.ldc 69, 2) := by decide +kernel
theorem dX11_work_98 : decode cX11_work 98 = .ok (.if_icmp .eq 143, 3) := by decide +kernel
theorem dX11_work_101 : decode cX11_work 101 = .ok (.aload_n 0, 1) := by decide +kernel
theorem dX11_work_102 : decode cX11_work 102 = .ok (.getfield 36, 3) := by decide +kernel
theorem dX11_work_105 : decode cX11_work 105 = .ok (.aload_n 0, 1) := by decide +kernel
theorem dX11_work_106 : decode cX11_work 106 = .ok (.getfield 70, 3) := by decide +kernel
theorem dX11_work_109 : decode cX11_work 109 = .ok (.iload_n 2, 1) := by decide +kernel
theorem dX11_work_110 : decode cX11_work 110 = .ok (.iaload, 1) := by decide +kernel
theorem dX11_work_111 : decode cX11_work 111 = .ok (.isub, 1) := by decide +kernel
theorem dX11_work_112 : decode cX11_work 112 = .ok (.aload_n 0, 1) := by decide +kernel
theorem dX11_work_113 : decode cX11_work 113 = .ok (.getfield 54, 3) := by decide +kernel
theorem dX11_work_116 : decode cX11_work 116 = .ok (.iload_n 1, 1) := by decide +kernel
theorem dX11_work_117 : decode cX11_work 117 = .ok (.iaload, 1) := by decide +kernel
theorem dX11_work_118 : decode cX11_work 118 = .ok (.if_icmp .lt 123, 3) := by decide +kernel
theorem dX11_work_121 : decode cX11_work 121 = .ok (.aload_n 0, 1) := by decide +kernel
theorem dX11_work_122 : decode cX11_work 122 = .ok (.getfield 60, 3) := by decide +kernel
theorem dX11_work_125 : decode cX11_work 125 = .ok (.iconst 4, 1) := by decide +kernel
theorem dX11_work_126 : decode cX11_work 126 = .ok (.iload_n 1, 1) := by decide +kernel
theorem dX11_work_127 : decode cX11_work 127 = .ok (.imul, 1) := by decide +kernel
theorem dX11_work_128 : decode cX11_work 128 = .ok (.iload_n 2, 1) := by decide +kernel
theorem dX11_work_129 : decode cX11_work 129 = .ok (.iadd, 1) := by decide +kernel
theorem dX11_work_130 : decode cX11_work 130 = .ok (.iaload, 1) := by decide +kernel
theorem dX11_work_131 : decode cX11_work 131 = .ok (.aload_n 0, 1) := by decide +kernel
theorem dX11_work_132 : decode cX11_work 132 = .ok (.getfield 48, 3) := by decide +kernel
theorem dX11_work_135 : decode cX11_work 135 = .ok (.iload_n 1, 1) := by decide +kernel
theorem dX11_work_136 : decode cX11_work 136 = .ok (.iaload, 1) := by decide +kernel
theorem dX11_work_137 : decode cX11_work 137 = .ok (.if_icmp .ge 16, 3) := by decide +kernel
theorem dX11_work_140 : decode cX11_work 140 = .ok (.aload_n 0, 1) := by decide +kernel
theorem dX11_work_141 : decode cX11_work 141 = .ok (.getfield 60, 3) := by decide +kernel
theorem dX11_work_144 : decode cX11_work 144 = .ok (.iconst 4, 1) := by decide +kernel
theorem dX11_work_145 : decode cX11_work 145 = .ok (.iload_n 1, 1) := by decide +kernel
theorem dX11_work_146 : decode cX11_work 146 = .ok (.imul, 1) := by decide +kernel
theorem dX11_work_147 : decode cX11_work 147 = .ok (.iload_n 2, 1) := by decide +kernel
theorem dX11_work_148 : decode cX11_work 148 = .ok (.iadd, 1) := by decide +kernel
theorem dX11_work_149 : decode cX11_work 149 = .ok (.iaload, 1) := by decide +kernel
theorem dX11_work_150 : decode cX11_work 150 = .ok (.goto 9, 3) := by decide +kernel
theorem dX11_work_153 : decode cX11_work 153 = .ok (.aload_n 0, 1) := by decide +kernel
theorem dX11_work_154 : decode cX11_work 154 = .ok (.getfield 48, 3) := by decide +kernel
theorem dX11_work_157 : decode cX11_work 157 = .ok (.iload_n 1, 1) := by decide +kernel
theorem dX11_work_158 : decode cX11_work 158 = .ok (.iaload, 1) := by decide +kernel
theorem dX11_work_159 : decode cX11_work 159 = .ok (.istore_n 3, 1) := by decide +kernel
theorem dX11_work_160 : decode cX11_work 160 = .ok (.aload_n 0, 1) := by decide +kernel
theorem dX11_work_161 : decode cX11_work 161 = .ok (.getfield 60, 3) := by decide +kernel
theorem dX11_work_164 : decode cX11_work 164 = .ok (.iconst 4, 1) := by decide +kernel
theorem dX11_work_165 : decode cX11_work 165 = .ok (.iload_n 1, 1) := by decide +kernel
theorem dX11_work_166 : decode cX11_work 166 = .ok (.imul, 1) := by decide +kernel
theorem dX11_work_167 : decode cX11_work 167 = .ok (.iload_n 2, 1) := by decide +kernel
theorem dX11_work_168 : decode cX11_work 168 = .ok (.iadd, 1) := by decide +kernel
theorem dX11_work_169 : decode cX11_work 169 = .ok (.dup2, 1) := by decide +kernel
theorem dX11_work_170 : decode cX11_work 170 = .ok (.iaload, 1) := by decide +kernel
theorem dX11_work_171 : decode cX11_work 171 = .ok (.iload_n 3, 1) := by decide +kernel
theorem dX11_work_172 : decode cX11_work 172 = .ok (.isub, 1) := by decide +kernel
theorem dX11_work_173 : decode cX11_work 173 = .ok (.iastore, 1) := by decide +kernel
theorem dX11_work_174 : decode cX11_work 174 = .ok (.aload_n 0, 1) := by decide +kernel
theorem dX11_work_175 : decode cX11_work 175 = .ok (.getfield 33, 3) := by decide +kernel
theorem dX11_work_178 : decode cX11_work 178 = .ok (.iload_n 2, 1) := by decide +kernel
theorem dX11_work_179 : decode cX11_work 179 = .ok (.dup2, 1) := by decide +kernel
theorem dX11_work_180 : decode cX11_work 180 = .ok (.iaload, 1) := by decide +kernel
theorem dX11_work_181 : decode cX11_work 181 = .ok (.aload_n 0, 1) := by decide +kernel
theorem dX11_work_182 : decode cX11_work 182 = .ok (.getfield 48, 3) := by decide +kernel
theorem dX11_work_185 : decode cX11_work 185 = .ok (.iload_n 1, 1) := by decide +kernel
theorem dX11_work_186 : decode cX11_work 186 = .ok (.iaload, 1) := by decide +kernel
theorem dX11_work_187 : decode cX11_work 187 = .ok (.iload_n 3, 1) := by decide +kernel
theorem dX11_work_188 : decode cX11_work 188 = .ok (.isub, 1) := by decide +kernel
theorem dX11_work_189 : decode cX11_work 189 = .ok (.isub, 1) := by decide +kernel
theorem dX11_work_190 : decode cX11_work 190 = .ok (.iastore, 1) := by decide +kernel
theorem dX11_work_191 : decode cX11_work 191 = .ok (.aload_n 0, 1) := by decide +kernel
theorem dX11_work_192 : decode cX11_work 192 = .ok (.getfield 66, 3) := by decide +kernel
theorem dX11_work_195 : decode cX11_work 195 = .ok (.bipush 100, 2) := by decide +kernel
theorem dX11_work_197 : decode cX11_work 197 = .ok (.iload_n 1, 1) := by decide +kernel
theorem dX11_work_198 : decode cX11_work 198 = .ok (.imul, 1) := by decide +kernel
theorem dX11_work_199 : decode cX11_work 199 = .ok (.aload_n 0, 1) := by decide +kernel
theorem dX11_work_200 : decode cX11_work 200 = .ok (.getfield 188, 3) := by decide +kernel
theorem dX11_work_203 : decode cX11_work 203 = .ok (.iadd, 1) := by decide +kernel
theorem dX11_work_204 : decode cX11_work 204 = .ok (.iload_n 2, 1) := by decide +kernel
theorem dX11_work_205 : decode cX11_work 205 = .ok (.iastore, 1) := by decide +kernel
theorem dX11_work_206 : decode cX11_work 206 = .ok (.aload_n 0, 1) := by decide +kernel
theorem dX11_work_207 : decode cX11_work 207 = .ok (.iload_n 1, 1) := by decide +kernel
theorem dX11_work_208 : decode cX11_work 208 = .ok (.aload_n 0, 1) := by decide +kernel
theorem dX11_work_209 : decode cX11_work 209 = .ok (.getfield 48, 3) := by decide +kernel
theorem dX11_work_212 : decode cX11_work 212 = .ok (.iload_n 1, 1) := by decide +kernel
theorem dX11_work_213 : decode cX11_work 213 = .ok (.iaload, 1) := by decide +kernel
theorem dX11_work_214 : decode cX11_work 214 = .ok (.aload_n 0, 1) := by decide +kernel
theorem dX11_work_215 : decode cX11_work 215 = .ok (.getfield 36, 3) := by decide +kernel
theorem dX11_work_218 : decode cX11_work 218 = .ok (.imul, 1) := by decide +kernel
theorem dX11_work_219 : decode cX11_work 219 = .ok (.aload_n 0, 1) := by decide +kernel
theorem dX11_work_220 : decode cX11_work 220 = .ok (.getfield 48, 3) := by decide +kernel
theorem dX11_work_223 : decode cX11_work 223 = .ok (.iload_n 1, 1) := by decide +kernel
theorem dX11_work_224 : decode cX11_work 224 = .ok (.iaload, 1) := by decide +kernel
theorem dX11_work_225 : decode cX11_work 225 = .ok (.iload_n 3, 1) := by decide +kernel
theorem dX11_work_226 : decode cX11_work 226 = .ok (.isub, 1) := by decide +kernel
theorem dX11_work_227 : decode cX11_work 227 = .ok (.aload_n 0, 1) := by decide +kernel
theorem dX11_work_228 : decode cX11_work 228 = .ok (.getfield 70, 3) := by decide +kernel
theorem dX11_work_231 : decode cX11_work 231 = .ok (.iload_n 2, 1) := by decide +kernel
theorem dX11_work_232 : decode cX11_work 232 = .ok (.iaload, 1) := by decide +kernel
theorem dX11_work_233 : decode cX11_work 233 = .ok (.imul, 1) := by decide +kernel
theorem dX11_work_234 : decode cX11_work 234 = .ok (.isub, 1) := by decide +kernel
theorem dX11_work_235 : decode cX11_work 235 = .ok (.invokevirtual 191, 3) := by decide +kernel
theorem dX11_work_238 : decode cX11_work 238 = .ok (.goto 92, 3) := by decide +kernel
theorem dX11_work_241 : decode cX11_work 241 = .ok (.iconst 0, 1) := by decide +kernel
theorem dX11_work_242 : decode cX11_work 242 = .ok (.istore_n 3, 1) := by decide +kernel
theorem dX11_work_243 : decode cX11_work 243 = .ok (.iload_n 3, 1) := by decide +kernel
theorem dX11_work_244 : decode cX11_work 244 = .ok (.iconst 4, 1) := by decide +kernel
theorem dX11_work_245 : decode cX11_work 245 = .ok (.if_icmp .ge 85, 3) := by decide +kernel
theorem dX11_work_248 : decode cX11_work 248 = .ok (.aload_n 0, 1) := by decide +kernel
theorem dX11_work_249 : decode cX11_work 249 = .ok (.getfield 57, 3) := by decide +kernel
theorem dX11_work_252 : decode cX11_work 252 = .ok (.iload_n 1, 1) := by decide +kernel
theorem dX11_work_253 : decode cX11_work 253 = .ok (.iaload, 1) := by decide +kernel
theorem dX11_work_254 : decode cX11_work 254 = .ok (.ifCond .le 70, 3) := by decide +kernel
theorem dX11_work_257 : decode cX11_work 257 = .ok (.aload_n 0, 1) := by decide +kernel
theorem dX11_work_258 : decode cX11_work 258 = .ok (.getfield 70, 3) := by decide +kernel
theorem dX11_work_261 : decode cX11_work 261 = .ok (.iload_n 3, 1) := by decide +kernel
theorem dX11_work_262 : decode cX11_work 262 = .ok (.iaload, 1) := by decide +kernel
theorem dX11_work_263 : decode cX11_work 263 = .ok (.aload_n 0, 1) := by decide +kernel
theorem dX11_work_264 : decode cX11_work 264 = .ok (.getfield 57, 3) := by decide +kernel
theorem dX11_work_267 : decode cX11_work 267 = .ok (.iload_n 1, 1) := by decide +kernel
theorem dX11_work_268 : decode cX11_work 268 = .ok (.iaload, 1) := by decide +kernel
theorem dX11_work_269 : decode cX11_work 269 = .ok (.if_icmp .lt 55, 3) := by decide +kernel
theorem dX11_work_272 : decode cX11_work 272 = .ok (.aload_n 0, 1) := by decide +kernel
theorem dX11_work_273 : decode cX11_work 273 = .ok (.iload_n 1, 1) := by decide +kernel
theorem dX11_work_274 : decode cX11_work 274 = .ok (.aload_n 0, 1) := by decide +kernel
theorem dX11_work_275 : decode cX11_work 275 = .ok (.getfield 60, 3) := by decide +kernel
theorem dX11_work_278 : decode cX11_work 278 = .ok (.iconst 4, 1) := by decide +kernel
theorem dX11_work_279 : decode cX11_work 279 = .ok (.iload_n 1, 1) := by decide +kernel
theorem dX11_work_280 : decode cX11_work 280 = .ok (.imul, 1) := by decide +kernel
theorem dX11_work_281 : decode cX11_work 281 = .ok (.iload_n 3, 1) := by decide +kernel
theorem dX11_work_282 : decode cX11_work 282 = .ok (.iadd, 1) := by decide +kernel
theorem dX11_work_283 : decode cX11_work 283 = .ok (.iaload, 1) := by decide +kernel
theorem dX11_work_284 : decode cX11_work 284 = .ok (.aload_n 0, 1) := by decide +kernel
theorem dX11_work_285 : decode cX11_work 285 = .ok (.getfield 70, 3) := by decide +kernel
theorem dX11_work_288 : decode cX11_work 288 = .ok (.iload_n 3, 1) := by decide +kernel
theorem dX11_work_289 : decode cX11_work 289 = .ok (.iaload, 1) := by decide +kernel
theorem dX11_work_290 : decode cX11_work 290 = .ok (.imul, 1) := by decide +kernel
theorem dX11_work_291 : decode cX11_work 291 = .ok (.invokevirtual 191, 3) := by decide +kernel
theorem dX11_work_294 : decode cX11_work 294 = .ok (.aload_n 0, 1) := by decide +kernel
theorem dX11_work_295 : decode cX11_work 295 = .ok (.getfield 33, 3) := by decide +kernel
theorem dX11_work_298 : decode cX11_work 298 = .ok (.iload_n 3, 1) := by decide +kernel
theorem dX11_work_299 : decode cX11_work 299 = .ok (.dup2, 1) := by decide +kernel
theorem dX11_work_300 : decode cX11_work 300 = .ok (.iaload, 1) := by decide +kernel
theorem dX11_work_301 : decode cX11_work 301 = .ok (.aload_n 0, 1) := by decide +kernel
theorem dX11_work_302 : decode cX11_work 302 = .ok (.getfield 60, 3) := by decide +kernel
theorem dX11_work_305 : decode cX11_work 305 = .ok (.iconst 4, 1) := by decide +kernel
theorem dX11_work_306 : decode cX11_work 306 = .ok (.iload_n 1, 1) := by decide +kernel
theorem dX11_work_307 : decode cX11_work 307 = .ok (.imul, 1) := by decide +kernel
theorem dX11_work_308 : decode cX11_work 308 = .ok (.iload_n 3, 1) := by decide +kernel
theorem dX11_work_309 : decode cX11_work 309 = .ok (.iadd, 1) := by decide +kernel
theorem dX11_work_310 : decode cX11_work 310 = .ok (.iaload, 1) := by decide +kernel
theorem dX11_work_311 : decode cX11_work 311 = .ok (.iadd, 1) := by decide +kernel
theorem dX11_work_312 : decode cX11_work 312 = .ok (.iastore, 1) := by decide +kernel
theorem dX11_work_313 : decode cX11_work 313 = .ok (.aload_n 0, 1) := by decide +kernel
theorem dX11_work_314 : decode cX11_work 314 = .ok (.getfield 60, 3) := by decide +kernel
theorem dX11_work_317 : decode cX11_work 317 = .ok (.iconst 4, 1) := by decide +kernel
theorem dX11_work_318 : decode cX11_work 318 = .ok (.iload_n 1, 1) := by decide +kernel
theorem dX11_work_319 : decode cX11_work 319 = .ok (.imul, 1) := by decide +kernel
theorem dX11_work_320 : decode cX11_work 320 = .ok (.iload_n 3, 1) := by decide +kernel
theorem dX11_work_321 : decode cX11_work 321 = .ok (.iadd, 1) := by decide +kernel
theorem dX11_work_322 : decode cX11_work 322 = .ok (.iconst 0, 1) := by decide +kernel
theorem dX11_work_323 : decode cX11_work 323 = .ok (.iastore, 1) := by decide +kernel
theorem dX11_work_324 : decode cX11_work 324 = .ok (.iinc 3 1, 3) := by decide +kernel
theorem dX11_work_327 : decode cX11_work 327 = .ok (.goto (-84), 3) := by decide +kernel
theorem dX11_work_330 : decode cX11_work 330 = .ok (.return_, 1) := by decide +kernel
theorem dX11_stepOnce_0 : decode cX11_stepOnce 0 = .ok (.iconst 0, 1) := by decide +kernel
theorem dX11_stepOnce_1 : decode cX11_stepOnce 1 = .ok (.istore_n 1, 1) := by decide +kernel
theorem dX11_stepOnce_2 : decode cX11_stepOnce 2 = .ok (.iload_n 1, 1) := by decide +kernel
theorem dX11_stepOnce_3 : decode cX11_stepOnce 3 = .ok (.aload_n 0, 1) := by decide +kernel
theorem dX11_stepOnce_4 : decode cX11_stepOnce 4 = .ok (.getfield 169, 3) := by decide +kernel
theorem dX11_stepOnce_7 : decode cX11_stepOnce 7 = .ok (.if_icmp .ge 46, 3) := by decide +kernel
theorem dX11_stepOnce_10 : decode cX11_stepOnce 10 = .ok (.aload_n 0, 1) := by decide +kernel
theorem dX11_stepOnce_11 : decode cX11_stepOnce 11 = .ok (.getfield 33, 3) := by decide +kernel
theorem dX11_stepOnce_14 : decode cX11_stepOnce 14 = .ok (.aload_n 0, 1) := by decide +kernel
theorem dX11_stepOnce_15 : decode cX11_stepOnce 15 = .ok (.getfield 42, 3) := by decide +kernel
theorem dX11_stepOnce_18 : decode cX11_stepOnce 18 = .ok (.iload_n 1, 1) := by decide +kernel
theorem dX11_stepOnce_19 : decode cX11_stepOnce 19 = .ok (.iaload, 1) := by decide +kernel
theorem dX11_stepOnce_20 : decode cX11_stepOnce 20 = .ok (.dup2, 1) := by decide +kernel
theorem dX11_stepOnce_21 : decode cX11_stepOnce 21 = .ok (.iaload, 1) := by decide +kernel
theorem dX11_stepOnce_22 : decode cX11_stepOnce 22 = .ok (.aload_n 0, 1) := by decide +kernel
theorem dX11_stepOnce_23 : decode cX11_stepOnce 23 = .ok (.getfield 39, 3) := by decide +kernel
theorem dX11_stepOnce_26 : decode cX11_stepOnce 26 = .ok (.iload_n 1, 1) := by decide +kernel
theorem dX11_stepOnce_27 : decode cX11_stepOnce 27 = .ok (.iaload, 1) := by decide +kernel
theorem dX11_stepOnce_28 : decode cX11_stepOnce 28 = .ok (.aload_n 0, 1) := by decide +kernel
theorem dX11_stepOnce_29 : decode cX11_stepOnce 29 = .ok (.getfield 188, 3) := by decide +kernel
theorem dX11_stepOnce_32 : decode cX11_stepOnce 32 = .ok (.if_icmp .ne 12, 3) := by decide +kernel
theorem dX11_stepOnce_35 : decode cX11_stepOnce 35 = .ok (.aload_n 0, 1) := by decide +kernel
theorem dX11_stepOnce_36 : decode cX11_stepOnce 36 = .ok (.getfield 45, 3) := by decide +kernel
theorem dX11_stepOnce_39 : decode cX11_stepOnce 39 = .ok (.iload_n 1, 1) := by decide +kernel
theorem dX11_stepOnce_40 : decode cX11_stepOnce 40 = .ok (.iaload, 1) := by decide +kernel
theorem dX11_stepOnce_41 : decode cX11_stepOnce 41 = .ok (.goto 4, 3) := by decide +kernel
theorem dX11_stepOnce_44 : decode cX11_stepOnce 44 = .ok (.iconst 0, 1) := by decide +kernel
theorem dX11_stepOnce_45 : decode cX11_stepOnce 45 = .ok (.iadd, 1) := by decide +kernel
theorem dX11_stepOnce_46 : decode cX11_stepOnce 46 = .ok (.iastore, 1) := by decide +kernel
theorem dX11_stepOnce_47 : decode cX11_stepOnce 47 = .ok (.iinc 1 1, 3) := by decide +kernel
theorem dX11_stepOnce_50 : decode cX11_stepOnce 50 = .ok (.goto (-48), 3) := by decide +kernel
theorem dX11_stepOnce_53 : decode cX11_stepOnce 53 = .ok (.iconst 0, 1) := by decide +kernel
theorem dX11_stepOnce_54 : decode cX11_stepOnce 54 = .ok (.istore_n 1, 1) := by decide +kernel
theorem dX11_stepOnce_55 : decode cX11_stepOnce 55 = .ok (.iload_n 1, 1) := by decide +kernel
theorem dX11_stepOnce_56 : decode cX11_stepOnce 56 = .ok (.iconst 4, 1) := by decide +kernel
theorem dX11_stepOnce_57 : decode cX11_stepOnce 57 = .ok (.if_icmp .ge 20, 3) := by decide +kernel
theorem dX11_stepOnce_60 : decode cX11_stepOnce 60 = .ok (.aload_n 0, 1) := by decide +kernel
theorem dX11_stepOnce_61 : decode cX11_stepOnce 61 = .ok (.getfield 70, 3) := by decide +kernel
theorem dX11_stepOnce_64 : decode cX11_stepOnce 64 = .ok (.iload_n 1, 1) := by decide +kernel
theorem dX11_stepOnce_65 : decode cX11_stepOnce 65 = .ok (.aload_n 0, 1) := by decide +kernel
theorem dX11_stepOnce_66 : decode cX11_stepOnce 66 = .ok (.iload_n 1, 1) := by decide +kernel
theorem dX11_stepOnce_67 : decode cX11_stepOnce 67 = .ok (.invokevirtual 195, 3) := by decide +kernel
theorem dX11_stepOnce_70 : decode cX11_stepOnce 70 = .ok (.iastore, 1) := by decide +kernel
theorem dX11_stepOnce_71 : decode cX11_stepOnce 71 = .ok (.iinc 1 1, 3) := by decide +kernel
theorem dX11_stepOnce_74 : decode cX11_stepOnce 74 = .ok (.goto (-19), 3) := by decide +kernel
theorem dX11_stepOnce_77 : decode cX11_stepOnce 77 = .ok (.iconst 0, 1) := by decide +kernel
theorem dX11_stepOnce_78 : decode cX11_stepOnce 78 = .ok (.istore_n 1, 1) := by decide +kernel
theorem dX11_stepOnce_79 : decode cX11_stepOnce 79 = .ok (.iload_n 1, 1) := by decide +kernel
theorem dX11_stepOnce_80 : decode cX11_stepOnce 80 = .ok (.aload_n 0, 1) := by decide +kernel
theorem dX11_stepOnce_81 : decode cX11_stepOnce 81 = .ok (.getfield 145, 3) := by decide +kernel
theorem dX11_stepOnce_84 : decode cX11_stepOnce 84 = .ok (.if_icmp .ge 14, 3) := by decide +kernel
theorem dX11_stepOnce_87 : decode cX11_stepOnce 87 = .ok (.aload_n 0, 1) := by decide +kernel
theorem dX11_stepOnce_88 : decode cX11_stepOnce 88 = .ok (.iload_n 1, 1) := by decide +kernel
theorem dX11_stepOnce_89 : decode cX11_stepOnce 89 = .ok (.invokevirtual 198, 3) := by decide +kernel
theorem dX11_stepOnce_92 : decode cX11_stepOnce 92 = .ok (.iinc 1 1, 3) := by decide +kernel
theorem dX11_stepOnce_95 : decode cX11_stepOnce 95 = .ok (.goto (-16), 3) := by decide +kernel
theorem dX11_stepOnce_98 : decode cX11_stepOnce 98 = .ok (.iconst 0, 1) := by decide +kernel
theorem dX11_stepOnce_99 : decode cX11_stepOnce 99 = .ok (.istore_n 1, 1) := by decide +kernel
theorem dX11_stepOnce_100 : decode cX11_stepOnce 100 = .ok (.iload_n 1, 1) := by decide +kernel
theorem dX11_stepOnce_101 : decode cX11_stepOnce 101 = .ok (.aload_n 0, 1) := by decide +kernel
theorem dX11_stepOnce_102 : decode cX11_stepOnce 102 = .ok (.getfield 202, 3) := by decide +kernel
theorem dX11_stepOnce_105 : decode cX11_stepOnce 105 = .ok (.if_icmp .ge 14, 3) := by decide +kernel
theorem dX11_stepOnce_108 : decode cX11_stepOnce 108 = .ok (.aload_n 0, 1) := by decide +kernel
theorem dX11_stepOnce_109 : decode cX11_stepOnce 109 = .ok (.iload_n 1, 1) := by decide +kernel
theorem dX11_stepOnce_110 : decode cX11_stepOnce 110 = .ok (.invokevirtual 205, 3) := by decide +kernel
theorem dX11_stepOnce_113 : decode cX11_stepOnce 113 = .ok (.iinc 1 1, 3) := by decide +kernel
theorem dX11_stepOnce_116 : decode cX11_stepOnce 116 = .ok (.goto (-16), 3) := by decide +kernel
theorem dX11_stepOnce_119 : decode cX11_stepOnce 119 = .ok (.aload_n 0, 1) := by decide +kernel
theorem dX11_stepOnce_120 : decode cX11_stepOnce 120 = .ok (.dup, 1) := by decide +kernel
theorem dX11_stepOnce_121 : decode cX11_stepOnce 121 = .ok (.getfield 188, 3) := by decide +kernel
theorem dX11_stepOnce_124 : decode cX11_stepOnce 124 = .ok (.iconst 1, 1) := by decide +kernel
theorem dX11_stepOnce_125 : decode cX11_stepOnce 125 = .ok (.iadd, 1) := by decide +kernel
theorem dX11_stepOnce_126 : decode cX11_stepOnce 126 = .ok (.putfield 188, 3) := by decide +kernel
theorem dX11_stepOnce_129 : decode cX11_stepOnce 129 = .ok (.return_, 1) := by decide +kernel
theorem dX11_step_0 : decode cX11_step 0 = .ok (.aload_n 0, 1) := by decide +kernel
theorem dX11_step_1 : decode cX11_step 1 = .ok (.iconst 0, 1) := by decide +kernel
theorem dX11_step_2 : decode cX11_step 2 = .ok (.putfield 1, 3) := by decide +kernel
theorem dX11_step_5 : decode cX11_step 5 = .ok (.iload_n 1, 1) := by decide +kernel
theorem dX11_step_6 : decode cX11_step 6 = .ok (.i2l, 1) := by decide +kernel
theorem dX11_step_7 : decode cX11_step 7 = .ok (.lconst 1, 1) := by decide +kernel
theorem dX11_step_8 : decode cX11_step 8 = .ok (.ldc2_w 208, 3) := by decide +kernel
theorem dX11_step_11 : decode cX11_step 11 = .ok (.invokestatic 126, 3) := by decide +kernel
theorem dX11_step_14 : decode cX11_step 14 = .ok (.ifCond .ne 6, 3) := by decide +kernel
theorem dX11_step_17 : decode cX11_step 17 = .ok (.ldc 136, 2) := by decide +kernel
theorem dX11_step_19 : decode cX11_step 19 = .ok (.ireturn, 1) := by decide +kernel
theorem dX11_step_20 : decode cX11_step 20 = .ok (.iconst 0, 1) := by decide +kernel
theorem dX11_step_21 : decode cX11_step 21 = .ok (.istore_n 2, 1) := by decide +kernel
theorem dX11_step_22 : decode cX11_step 22 = .ok (.iload_n 2, 1) := by decide +kernel
theorem dX11_step_23 : decode cX11_step 23 = .ok (.iload_n 1, 1) := by decide +kernel
theorem dX11_step_24 : decode cX11_step 24 = .ok (.if_icmp .ge 22, 3) := by decide +kernel
theorem dX11_step_27 : decode cX11_step 27 = .ok (.aload_n 0, 1) := by decide +kernel
theorem dX11_step_28 : decode cX11_step 28 = .ok (.getfield 188, 3) := by decide +kernel
theorem dX11_step_31 : decode cX11_step 31 = .ok (.bipush 100, 2) := by decide +kernel
theorem dX11_step_33 : decode cX11_step 33 = .ok (.if_icmp .ge 13, 3) := by decide +kernel
theorem dX11_step_36 : decode cX11_step 36 = .ok (.aload_n 0, 1) := by decide +kernel
theorem dX11_step_37 : decode cX11_step 37 = .ok (.invokevirtual 210, 3) := by decide +kernel
theorem dX11_step_40 : decode cX11_step 40 = .ok (.iinc 2 1, 3) := by decide +kernel
theorem dX11_step_43 : decode cX11_step 43 = .ok (.goto (-21), 3) := by decide +kernel
theorem dX11_step_46 : decode cX11_step 46 = .ok (.iload_n 2, 1) := by decide +kernel
theorem dX11_step_47 : decode cX11_step 47 = .ok (.ireturn, 1) := by decide +kernel
theorem dX11_ran_0 : decode cX11_ran 0 = .ok (.aload_n 0, 1) := by decide +kernel
theorem dX11_ran_1 : decode cX11_ran 1 = .ok (.iconst 0, 1) := by decide +kernel
theorem dX11_ran_2 : decode cX11_ran 2 = .ok (.putfield 1, 3) := by decide +kernel
theorem dX11_ran_5 : decode cX11_ran 5 = .ok (.iload_n 1, 1) := by decide +kernel
theorem dX11_ran_6 : decode cX11_ran 6 = .ok (.i2l, 1) := by decide +kernel
theorem dX11_ran_7 : decode cX11_ran 7 = .ok (.lconst 0, 1) := by decide +kernel
theorem dX11_ran_8 : decode cX11_ran 8 = .ok (.ldc2_w 213, 3) := by decide +kernel
theorem dX11_ran_11 : decode cX11_ran 11 = .ok (.invokestatic 126, 3) := by decide +kernel
theorem dX11_ran_14 : decode cX11_ran 14 = .ok (.ifCond .eq 10, 3) := by decide +kernel
theorem dX11_ran_17 : decode cX11_ran 17 = .ok (.iload_n 2, 1) := by decide +kernel
theorem dX11_ran_18 : decode cX11_ran 18 = .ok (.invokestatic 164, 3) := by decide +kernel
theorem dX11_ran_21 : decode cX11_ran 21 = .ok (.ifCond .ne 8, 3) := by decide +kernel
theorem dX11_ran_24 : decode cX11_ran 24 = .ok (.ldc 136, 2) := by decide +kernel
theorem dX11_ran_26 : decode cX11_ran 26 = .ok (.goto 14, 3) := by decide +kernel
theorem dX11_ran_29 : decode cX11_ran 29 = .ok (.aload_n 0, 1) := by decide +kernel
theorem dX11_ran_30 : decode cX11_ran 30 = .ok (.getfield 66, 3) := by decide +kernel
theorem dX11_ran_33 : decode cX11_ran 33 = .ok (.bipush 100, 2) := by decide +kernel
theorem dX11_ran_35 : decode cX11_ran 35 = .ok (.iload_n 1, 1) := by decide +kernel
theorem dX11_ran_36 : decode cX11_ran 36 = .ok (.imul, 1) := by decide +kernel
theorem dX11_ran_37 : decode cX11_ran 37 = .ok (.iload_n 2, 1) := by decide +kernel
theorem dX11_ran_38 : decode cX11_ran 38 = .ok (.iadd, 1) := by decide +kernel
theorem dX11_ran_39 : decode cX11_ran 39 = .ok (.iaload, 1) := by decide +kernel
theorem dX11_ran_40 : decode cX11_ran 40 = .ok (.ireturn, 1) := by decide +kernel
theorem dX11_price_0 : decode cX11_price 0 = .ok (.aload_n 0, 1) := by decide +kernel
theorem dX11_price_1 : decode cX11_price 1 = .ok (.iconst 0, 1) := by decide +kernel
theorem dX11_price_2 : decode cX11_price 2 = .ok (.putfield 1, 3) := by decide +kernel
theorem dX11_price_5 : decode cX11_price 5 = .ok (.iload_n 1, 1) := by decide +kernel
theorem dX11_price_6 : decode cX11_price 6 = .ok (.invokestatic 150, 3) := by decide +kernel
theorem dX11_price_9 : decode cX11_price 9 = .ok (.ifCond .eq 13, 3) := by decide +kernel
theorem dX11_price_12 : decode cX11_price 12 = .ok (.iload_n 2, 1) := by decide +kernel
theorem dX11_price_13 : decode cX11_price 13 = .ok (.i2l, 1) := by decide +kernel
theorem dX11_price_14 : decode cX11_price 14 = .ok (.lconst 0, 1) := by decide +kernel
theorem dX11_price_15 : decode cX11_price 15 = .ok (.lconst 1, 1) := by decide +kernel
theorem dX11_price_16 : decode cX11_price 16 = .ok (.invokestatic 126, 3) := by decide +kernel
theorem dX11_price_19 : decode cX11_price 19 = .ok (.ifCond .ne 8, 3) := by decide +kernel
theorem dX11_price_22 : decode cX11_price 22 = .ok (.ldc 136, 2) := by decide +kernel
theorem dX11_price_24 : decode cX11_price 24 = .ok (.goto 21, 3) := by decide +kernel
theorem dX11_price_27 : decode cX11_price 27 = .ok (.iload_n 2, 1) := by decide +kernel
theorem dX11_price_28 : decode cX11_price 28 = .ok (.ifCond .ne 11, 3) := by decide +kernel
theorem dX11_price_31 : decode cX11_price 31 = .ok (.aload_n 0, 1) := by decide +kernel
theorem dX11_price_32 : decode cX11_price 32 = .ok (.iload_n 1, 1) := by decide +kernel
theorem dX11_price_33 : decode cX11_price 33 = .ok (.invokevirtual 195, 3) := by decide +kernel
theorem dX11_price_36 : decode cX11_price 36 = .ok (.goto 9, 3) := by decide +kernel
theorem dX11_price_39 : decode cX11_price 39 = .ok (.aload_n 0, 1) := by decide +kernel
theorem dX11_price_40 : decode cX11_price 40 = .ok (.getfield 70, 3) := by decide +kernel
theorem dX11_price_43 : decode cX11_price 43 = .ok (.iload_n 1, 1) := by decide +kernel
theorem dX11_price_44 : decode cX11_price 44 = .ok (.iaload, 1) := by decide +kernel
theorem dX11_price_45 : decode cX11_price 45 = .ok (.ireturn, 1) := by decide +kernel
theorem dX11_feed_0 : decode cX11_feed 0 = .ok (.aload_n 0, 1) := by decide +kernel
theorem dX11_feed_1 : decode cX11_feed 1 = .ok (.iconst 0, 1) := by decide +kernel
theorem dX11_feed_2 : decode cX11_feed 2 = .ok (.putfield 1, 3) := by decide +kernel
theorem dX11_feed_5 : decode cX11_feed 5 = .ok (.iload_n 3, 1) := by decide +kernel
theorem dX11_feed_6 : decode cX11_feed 6 = .ok (.i2l, 1) := by decide +kernel
theorem dX11_feed_7 : decode cX11_feed 7 = .ok (.lconst 1, 1) := by decide +kernel
theorem dX11_feed_8 : decode cX11_feed 8 = .ok (.ldc2_w 215, 3) := by decide +kernel
theorem dX11_feed_11 : decode cX11_feed 11 = .ok (.invokestatic 126, 3) := by decide +kernel
theorem dX11_feed_14 : decode cX11_feed 14 = .ok (.ifCond .ne 6, 3) := by decide +kernel
theorem dX11_feed_17 : decode cX11_feed 17 = .ok (.ldc 136, 2) := by decide +kernel
theorem dX11_feed_19 : decode cX11_feed 19 = .ok (.ireturn, 1) := by decide +kernel
theorem dX11_feed_20 : decode cX11_feed 20 = .ok (.aload_n 0, 1) := by decide +kernel
theorem dX11_feed_21 : decode cX11_feed 21 = .ok (.getfield 217, 3) := by decide +kernel
theorem dX11_feed_24 : decode cX11_feed 24 = .ok (.iload_n 3, 1) := by decide +kernel
theorem dX11_feed_25 : decode cX11_feed 25 = .ok (.iadd, 1) := by decide +kernel
theorem dX11_feed_26 : decode cX11_feed 26 = .ok (.sipush 400, 3) := by decide +kernel
theorem dX11_feed_29 : decode cX11_feed 29 = .ok (.if_icmp .le 6, 3) := by decide +kernel
theorem dX11_feed_32 : decode cX11_feed 32 = .ok (.ldc 172, 2) := by decide +kernel
theorem dX11_feed_34 : decode cX11_feed 34 = .ok (.ireturn, 1) := by decide +kernel
theorem dX11_feed_35 : decode cX11_feed 35 = .ok (.iload_n 3, 1) := by decide +kernel
theorem dX11_feed_36 : decode cX11_feed 36 = .ok (.iconst 1, 1) := by decide +kernel
theorem dX11_feed_37 : decode cX11_feed 37 = .ok (.isub, 1) := by decide +kernel
theorem dX11_feed_38 : decode cX11_feed 38 = .ok (.istore 4, 2) := by decide +kernel
theorem dX11_feed_40 : decode cX11_feed 40 = .ok (.iload 4, 2) := by decide +kernel
theorem dX11_feed_42 : decode cX11_feed 42 = .ok (.ifCond .lt 40, 3) := by decide +kernel
theorem dX11_feed_45 : decode cX11_feed 45 = .ok (.aload_n 0, 1) := by decide +kernel
theorem dX11_feed_46 : decode cX11_feed 46 = .ok (.getfield 85, 3) := by decide +kernel
theorem dX11_feed_49 : decode cX11_feed 49 = .ok (.aload_n 0, 1) := by decide +kernel
theorem dX11_feed_50 : decode cX11_feed 50 = .ok (.getfield 217, 3) := by decide +kernel
theorem dX11_feed_53 : decode cX11_feed 53 = .ok (.lload_n 1, 1) := by decide +kernel
theorem dX11_feed_54 : decode cX11_feed 54 = .ok (.bipush 8, 2) := by decide +kernel
theorem dX11_feed_56 : decode cX11_feed 56 = .ok (.iload 4, 2) := by decide +kernel
theorem dX11_feed_58 : decode cX11_feed 58 = .ok (.imul, 1) := by decide +kernel
theorem dX11_feed_59 : decode cX11_feed 59 = .ok (.lshr, 1) := by decide +kernel
theorem dX11_feed_60 : decode cX11_feed 60 = .ok (.ldc2_w 220, 3) := by decide +kernel
theorem dX11_feed_63 : decode cX11_feed 63 = .ok (.land, 1) := by decide +kernel
theorem dX11_feed_64 : decode cX11_feed 64 = .ok (.l2i, 1) := by decide +kernel
theorem dX11_feed_65 : decode cX11_feed 65 = .ok (.iastore, 1) := by decide +kernel
theorem dX11_feed_66 : decode cX11_feed 66 = .ok (.aload_n 0, 1) := by decide +kernel
theorem dX11_feed_67 : decode cX11_feed 67 = .ok (.dup, 1) := by decide +kernel
theorem dX11_feed_68 : decode cX11_feed 68 = .ok (.getfield 217, 3) := by decide +kernel
theorem dX11_feed_71 : decode cX11_feed 71 = .ok (.iconst 1, 1) := by decide +kernel
theorem dX11_feed_72 : decode cX11_feed 72 = .ok (.iadd, 1) := by decide +kernel
theorem dX11_feed_73 : decode cX11_feed 73 = .ok (.putfield 217, 3) := by decide +kernel
theorem dX11_feed_76 : decode cX11_feed 76 = .ok (.iinc 4 (-1), 3) := by decide +kernel
theorem dX11_feed_79 : decode cX11_feed 79 = .ok (.goto (-39), 3) := by decide +kernel
theorem dX11_feed_82 : decode cX11_feed 82 = .ok (.aload_n 0, 1) := by decide +kernel
theorem dX11_feed_83 : decode cX11_feed 83 = .ok (.getfield 217, 3) := by decide +kernel
theorem dX11_feed_86 : decode cX11_feed 86 = .ok (.ireturn, 1) := by decide +kernel
theorem dX11_byteAt_0 : decode cX11_byteAt 0 = .ok (.iload_n 1, 1) := by decide +kernel
theorem dX11_byteAt_1 : decode cX11_byteAt 1 = .ok (.aload_n 0, 1) := by decide +kernel
theorem dX11_byteAt_2 : decode cX11_byteAt 2 = .ok (.getfield 222, 3) := by decide +kernel
theorem dX11_byteAt_5 : decode cX11_byteAt 5 = .ok (.if_icmp .ge 12, 3) := by decide +kernel
theorem dX11_byteAt_8 : decode cX11_byteAt 8 = .ok (.aload_n 0, 1) := by decide +kernel
theorem dX11_byteAt_9 : decode cX11_byteAt 9 = .ok (.getfield 85, 3) := by decide +kernel
theorem dX11_byteAt_12 : decode cX11_byteAt 12 = .ok (.iload_n 1, 1) := by decide +kernel
theorem dX11_byteAt_13 : decode cX11_byteAt 13 = .ok (.iaload, 1) := by decide +kernel
theorem dX11_byteAt_14 : decode cX11_byteAt 14 = .ok (.goto 5, 3) := by decide +kernel
theorem dX11_byteAt_17 : decode cX11_byteAt 17 = .ok (.ldc 69, 2) := by decide +kernel
theorem dX11_byteAt_19 : decode cX11_byteAt 19 = .ok (.ireturn, 1) := by decide +kernel
theorem dX11_isLetter_0 : decode cX11_isLetter 0 = .ok (.iload_n 0, 1) := by decide +kernel
theorem dX11_isLetter_1 : decode cX11_isLetter 1 = .ok (.bipush 97, 2) := by decide +kernel
theorem dX11_isLetter_3 : decode cX11_isLetter 3 = .ok (.if_icmp .lt 13, 3) := by decide +kernel
theorem dX11_isLetter_6 : decode cX11_isLetter 6 = .ok (.iload_n 0, 1) := by decide +kernel
theorem dX11_isLetter_7 : decode cX11_isLetter 7 = .ok (.bipush 122, 2) := by decide +kernel
theorem dX11_isLetter_9 : decode cX11_isLetter 9 = .ok (.if_icmp .gt 7, 3) := by decide +kernel
theorem dX11_isLetter_12 : decode cX11_isLetter 12 = .ok (.iconst 1, 1) := by decide +kernel
theorem dX11_isLetter_13 : decode cX11_isLetter 13 = .ok (.goto 4, 3) := by decide +kernel
theorem dX11_isLetter_16 : decode cX11_isLetter 16 = .ok (.iconst 0, 1) := by decide +kernel
theorem dX11_isLetter_17 : decode cX11_isLetter 17 = .ok (.ireturn, 1) := by decide +kernel
theorem dX11_isFigure_0 : decode cX11_isFigure 0 = .ok (.iload_n 0, 1) := by decide +kernel
theorem dX11_isFigure_1 : decode cX11_isFigure 1 = .ok (.bipush 48, 2) := by decide +kernel
theorem dX11_isFigure_3 : decode cX11_isFigure 3 = .ok (.if_icmp .lt 13, 3) := by decide +kernel
theorem dX11_isFigure_6 : decode cX11_isFigure 6 = .ok (.iload_n 0, 1) := by decide +kernel
theorem dX11_isFigure_7 : decode cX11_isFigure 7 = .ok (.bipush 57, 2) := by decide +kernel
theorem dX11_isFigure_9 : decode cX11_isFigure 9 = .ok (.if_icmp .gt 7, 3) := by decide +kernel
theorem dX11_isFigure_12 : decode cX11_isFigure 12 = .ok (.iconst 1, 1) := by decide +kernel
theorem dX11_isFigure_13 : decode cX11_isFigure 13 = .ok (.goto 4, 3) := by decide +kernel
theorem dX11_isFigure_16 : decode cX11_isFigure 16 = .ok (.iconst 0, 1) := by decide +kernel
theorem dX11_isFigure_17 : decode cX11_isFigure 17 = .ok (.ireturn, 1) := by decide +kernel
theorem dX11_next_0 : decode cX11_next 0 = .ok (.aload_n 0, 1) := by decide +kernel
theorem dX11_next_1 : decode cX11_next 1 = .ok (.aload_n 0, 1) := by decide +kernel
theorem dX11_next_2 : decode cX11_next 2 = .ok (.getfield 225, 3) := by decide +kernel
theorem dX11_next_5 : decode cX11_next 5 = .ok (.invokevirtual 228, 3) := by decide +kernel
theorem dX11_next_8 : decode cX11_next 8 = .ok (.bipush 32, 2) := by decide +kernel
theorem dX11_next_10 : decode cX11_next 10 = .ok (.if_icmp .eq 16, 3) := by decide +kernel
theorem dX11_next_13 : decode cX11_next 13 = .ok (.aload_n 0, 1) := by decide +kernel
theorem dX11_next_14 : decode cX11_next 14 = .ok (.aload_n 0, 1) := by decide +kernel
theorem dX11_next_15 : decode cX11_next 15 = .ok (.getfield 225, 3) := by decide +kernel
theorem dX11_next_18 : decode cX11_next 18 = .ok (.invokevirtual 228, 3) := by decide +kernel
theorem dX11_next_21 : decode cX11_next 21 = .ok (.bipush 10, 2) := by decide +kernel
theorem dX11_next_23 : decode cX11_next 23 = .ok (.if_icmp .ne 16, 3) := by decide +kernel
theorem dX11_next_26 : decode cX11_next 26 = .ok (.aload_n 0, 1) := by decide +kernel
theorem dX11_next_27 : decode cX11_next 27 = .ok (.dup, 1) := by decide +kernel
theorem dX11_next_28 : decode cX11_next 28 = .ok (.getfield 225, 3) := by decide +kernel
theorem dX11_next_31 : decode cX11_next 31 = .ok (.iconst 1, 1) := by decide +kernel
theorem dX11_next_32 : decode cX11_next 32 = .ok (.iadd, 1) := by decide +kernel
theorem dX11_next_33 : decode cX11_next 33 = .ok (.putfield 225, 3) := by decide +kernel
theorem dX11_next_36 : decode cX11_next 36 = .ok (.goto (-36), 3) := by decide +kernel
theorem dX11_next_39 : decode cX11_next 39 = .ok (.aload_n 0, 1) := by decide +kernel
theorem dX11_next_40 : decode cX11_next 40 = .ok (.aload_n 0, 1) := by decide +kernel
theorem dX11_next_41 : decode cX11_next 41 = .ok (.getfield 225, 3) := by decide +kernel
theorem dX11_next_44 : decode cX11_next 44 = .ok (.putfield 231, 3) := by decide +kernel
theorem dX11_next_47 : decode cX11_next 47 = .ok (.aload_n 0, 1) := by decide +kernel
theorem dX11_next_48 : decode cX11_next 48 = .ok (.aload_n 0, 1) := by decide +kernel
theorem dX11_next_49 : decode cX11_next 49 = .ok (.getfield 225, 3) := by decide +kernel
theorem dX11_next_52 : decode cX11_next 52 = .ok (.invokevirtual 228, 3) := by decide +kernel
theorem dX11_next_55 : decode cX11_next 55 = .ok (.istore_n 1, 1) := by decide +kernel
theorem dX11_next_56 : decode cX11_next 56 = .ok (.iload_n 1, 1) := by decide +kernel
theorem dX11_next_57 : decode cX11_next 57 = .ok (.ldc 69, 2) := by decide +kernel
theorem dX11_next_59 : decode cX11_next 59 = .ok (.if_icmp .ne 11, 3) := by decide +kernel
theorem dX11_next_62 : decode cX11_next 62 = .ok (.aload_n 0, 1) := by decide +kernel
theorem dX11_next_63 : decode cX11_next 63 = .ok (.iconst 1, 1) := by decide +kernel
theorem dX11_next_64 : decode cX11_next 64 = .ok (.putfield 234, 3) := by decide +kernel
theorem dX11_next_67 : decode cX11_next 67 = .ok (.goto 129, 3) := by decide +kernel
theorem dX11_next_70 : decode cX11_next 70 = .ok (.iload_n 1, 1) := by decide +kernel
theorem dX11_next_71 : decode cX11_next 71 = .ok (.invokestatic 237, 3) := by decide +kernel
theorem dX11_next_74 : decode cX11_next 74 = .ok (.ifCond .eq 38, 3) := by decide +kernel
theorem dX11_next_77 : decode cX11_next 77 = .ok (.aload_n 0, 1) := by decide +kernel
theorem dX11_next_78 : decode cX11_next 78 = .ok (.aload_n 0, 1) := by decide +kernel
theorem dX11_next_79 : decode cX11_next 79 = .ok (.getfield 225, 3) := by decide +kernel
theorem dX11_next_82 : decode cX11_next 82 = .ok (.invokevirtual 228, 3) := by decide +kernel
theorem dX11_next_85 : decode cX11_next 85 = .ok (.invokestatic 237, 3) := by decide +kernel
theorem dX11_next_88 : decode cX11_next 88 = .ok (.ifCond .eq 16, 3) := by decide +kernel
theorem dX11_next_91 : decode cX11_next 91 = .ok (.aload_n 0, 1) := by decide +kernel
theorem dX11_next_92 : decode cX11_next 92 = .ok (.dup, 1) := by decide +kernel
theorem dX11_next_93 : decode cX11_next 93 = .ok (.getfield 225, 3) := by decide +kernel
theorem dX11_next_96 : decode cX11_next 96 = .ok (.iconst 1, 1) := by decide +kernel
theorem dX11_next_97 : decode cX11_next 97 = .ok (.iadd, 1) := by decide +kernel
theorem dX11_next_98 : decode cX11_next 98 = .ok (.putfield 225, 3) := by decide +kernel
theorem dX11_next_101 : decode cX11_next 101 = .ok (.goto (-24), 3) := by decide +kernel
theorem dX11_next_104 : decode cX11_next 104 = .ok (.aload_n 0, 1) := by decide +kernel
theorem dX11_next_105 : decode cX11_next 105 = .ok (.iconst 2, 1) := by decide +kernel
theorem dX11_next_106 : decode cX11_next 106 = .ok (.putfield 234, 3) := by decide +kernel
theorem dX11_next_109 : decode cX11_next 109 = .ok (.goto 87, 3) := by decide +kernel
theorem dX11_next_112 : decode cX11_next 112 = .ok (.iload_n 1, 1) := by decide +kernel
theorem dX11_next_113 : decode cX11_next 113 = .ok (.invokestatic 240, 3) := by decide +kernel
theorem dX11_next_116 : decode cX11_next 116 = .ok (.ifCond .eq 55, 3) := by decide +kernel
theorem dX11_next_119 : decode cX11_next 119 = .ok (.aload_n 0, 1) := by decide +kernel
theorem dX11_next_120 : decode cX11_next 120 = .ok (.aload_n 0, 1) := by decide +kernel
theorem dX11_next_121 : decode cX11_next 121 = .ok (.getfield 225, 3) := by decide +kernel
theorem dX11_next_124 : decode cX11_next 124 = .ok (.invokevirtual 228, 3) := by decide +kernel
theorem dX11_next_127 : decode cX11_next 127 = .ok (.invokestatic 240, 3) := by decide +kernel
theorem dX11_next_130 : decode cX11_next 130 = .ok (.ifCond .eq 16, 3) := by decide +kernel
theorem dX11_next_133 : decode cX11_next 133 = .ok (.aload_n 0, 1) := by decide +kernel
theorem dX11_next_134 : decode cX11_next 134 = .ok (.dup, 1) := by decide +kernel
theorem dX11_next_135 : decode cX11_next 135 = .ok (.getfield 225, 3) := by decide +kernel
theorem dX11_next_138 : decode cX11_next 138 = .ok (.iconst 1, 1) := by decide +kernel
theorem dX11_next_139 : decode cX11_next 139 = .ok (.iadd, 1) := by decide +kernel
theorem dX11_next_140 : decode cX11_next 140 = .ok (.putfield 225, 3) := by decide +kernel
theorem dX11_next_143 : decode cX11_next 143 = .ok (.goto (-24), 3) := by decide +kernel
theorem dX11_next_146 : decode cX11_next 146 = .ok (.aload_n 0, 1) := by decide +kernel
theorem dX11_next_147 : decode cX11_next 147 = .ok (.aload_n 0, 1) := by decide +kernel
theorem dX11_next_148 : decode cX11_next 148 = .ok (.getfield 225, 3) := by decide +kernel
theorem dX11_next_151 : decode cX11_next 151 = .ok (.aload_n 0, 1) := by decide +kernel
theorem dX11_next_152 : decode cX11_next 152 = .ok (.getfield 231, 3) := by decide +kernel
theorem dX11_next_155 : decode cX11_next 155 = .ok (.isub, 1) := by decide +kernel
theorem dX11_next_156 : decode cX11_next 156 = .ok (.iconst 4, 1) := by decide +kernel
theorem dX11_next_157 : decode cX11_next 157 = .ok (.if_icmp .le 7, 3) := by decide +kernel
theorem dX11_next_160 : decode cX11_next 160 = .ok (.iconst 0, 1) := by decide +kernel
theorem dX11_next_161 : decode cX11_next 161 = .ok (.goto 4, 3) := by decide +kernel
theorem dX11_next_164 : decode cX11_next 164 = .ok (.iconst 3, 1) := by decide +kernel
theorem dX11_next_165 : decode cX11_next 165 = .ok (.putfield 234, 3) := by decide +kernel
theorem dX11_next_168 : decode cX11_next 168 = .ok (.goto 28, 3) := by decide +kernel
theorem dX11_next_171 : decode cX11_next 171 = .ok (.aload_n 0, 1) := by decide +kernel
theorem dX11_next_172 : decode cX11_next 172 = .ok (.dup, 1) := by decide +kernel
theorem dX11_next_173 : decode cX11_next 173 = .ok (.getfield 225, 3) := by decide +kernel
theorem dX11_next_176 : decode cX11_next 176 = .ok (.iconst 1, 1) := by decide +kernel
theorem dX11_next_177 : decode cX11_next 177 = .ok (.iadd, 1) := by decide +kernel
theorem dX11_next_178 : decode cX11_next 178 = .ok (.putfield 225, 3) := by decide +kernel
theorem dX11_next_181 : decode cX11_next 181 = .ok (.aload_n 0, 1) := by decide +kernel
theorem dX11_next_182 : decode cX11_next 182 = .ok (.iload_n 1, 1) := by decide +kernel
theorem dX11_next_183 : decode cX11_next 183 = .ok (.bipush 59, 2) := by decide +kernel
theorem dX11_next_185 : decode cX11_next 185 = .ok (.if_icmp .ne 7, 3) := by decide +kernel
theorem dX11_next_188 : decode cX11_next 188 = .ok (.iconst 4, 1) := by decide +kernel
theorem dX11_next_189 : decode cX11_next 189 = .ok (.goto 4, 3) := by decide +kernel
theorem dX11_next_192 : decode cX11_next 192 = .ok (.iconst 0, 1) := by decide +kernel
theorem dX11_next_193 : decode cX11_next 193 = .ok (.putfield 234, 3) := by decide +kernel
theorem dX11_next_196 : decode cX11_next 196 = .ok (.aload_n 0, 1) := by decide +kernel
theorem dX11_next_197 : decode cX11_next 197 = .ok (.aload_n 0, 1) := by decide +kernel
theorem dX11_next_198 : decode cX11_next 198 = .ok (.getfield 225, 3) := by decide +kernel
theorem dX11_next_201 : decode cX11_next 201 = .ok (.putfield 243, 3) := by decide +kernel
theorem dX11_next_204 : decode cX11_next 204 = .ok (.return_, 1) := by decide +kernel
theorem dX11_bad_0 : decode cX11_bad 0 = .ok (.aload_n 0, 1) := by decide +kernel
theorem dX11_bad_1 : decode cX11_bad 1 = .ok (.getfield 246, 3) := by decide +kernel
theorem dX11_bad_4 : decode cX11_bad 4 = .ok (.ifCond .ne 16, 3) := by decide +kernel
theorem dX11_bad_7 : decode cX11_bad 7 = .ok (.aload_n 0, 1) := by decide +kernel
theorem dX11_bad_8 : decode cX11_bad 8 = .ok (.iload_n 1, 1) := by decide +kernel
theorem dX11_bad_9 : decode cX11_bad 9 = .ok (.putfield 246, 3) := by decide +kernel
theorem dX11_bad_12 : decode cX11_bad 12 = .ok (.aload_n 0, 1) := by decide +kernel
theorem dX11_bad_13 : decode cX11_bad 13 = .ok (.aload_n 0, 1) := by decide +kernel
theorem dX11_bad_14 : decode cX11_bad 14 = .ok (.getfield 231, 3) := by decide +kernel
theorem dX11_bad_17 : decode cX11_bad 17 = .ok (.putfield 249, 3) := by decide +kernel
theorem dX11_bad_20 : decode cX11_bad 20 = .ok (.return_, 1) := by decide +kernel
theorem dX11_must_0 : decode cX11_must 0 = .ok (.iload_n 1, 1) := by decide +kernel
theorem dX11_must_1 : decode cX11_must 1 = .ok (.ifCond .ne 8, 3) := by decide +kernel
theorem dX11_must_4 : decode cX11_must 4 = .ok (.aload_n 0, 1) := by decide +kernel
theorem dX11_must_5 : decode cX11_must 5 = .ok (.iconst 1, 1) := by decide +kernel
theorem dX11_must_6 : decode cX11_must 6 = .ok (.invokevirtual 252, 3) := by decide +kernel
theorem dX11_must_9 : decode cX11_must 9 = .ok (.aload_n 0, 1) := by decide +kernel
theorem dX11_must_10 : decode cX11_must 10 = .ok (.getfield 246, 3) := by decide +kernel
theorem dX11_must_13 : decode cX11_must 13 = .ok (.ifCond .ne 7, 3) := by decide +kernel
theorem dX11_must_16 : decode cX11_must 16 = .ok (.aload_n 0, 1) := by decide +kernel
theorem dX11_must_17 : decode cX11_must 17 = .ok (.invokevirtual 255, 3) := by decide +kernel
theorem dX11_must_20 : decode cX11_must 20 = .ok (.return_, 1) := by decide +kernel
theorem dX11_word_0 : decode cX11_word 0 = .ok (.lconst 0, 1) := by decide +kernel
theorem dX11_word_1 : decode cX11_word 1 = .ok (.lstore_n 1, 1) := by decide +kernel
theorem dX11_word_2 : decode cX11_word 2 = .ok (.aload_n 0, 1) := by decide +kernel
theorem dX11_word_3 : decode cX11_word 3 = .ok (.getfield 231, 3) := by decide +kernel
theorem dX11_word_6 : decode cX11_word 6 = .ok (.istore_n 3, 1) := by decide +kernel
theorem dX11_word_7 : decode cX11_word 7 = .ok (.iload_n 3, 1) := by decide +kernel
theorem dX11_word_8 : decode cX11_word 8 = .ok (.aload_n 0, 1) := by decide +kernel
theorem dX11_word_9 : decode cX11_word 9 = .ok (.getfield 243, 3) := by decide +kernel
theorem dX11_word_12 : decode cX11_word 12 = .ok (.if_icmp .ge 44, 3) := by decide +kernel
theorem dX11_word_15 : decode cX11_word 15 = .ok (.aload_n 0, 1) := by decide +kernel
theorem dX11_word_16 : decode cX11_word 16 = .ok (.getfield 234, 3) := by decide +kernel
theorem dX11_word_19 : decode cX11_word 19 = .ok (.iconst 2, 1) := by decide +kernel
theorem dX11_word_20 : decode cX11_word 20 = .ok (.if_icmp .ne 36, 3) := by decide +kernel
theorem dX11_word_23 : decode cX11_word 23 = .ok (.aload_n 0, 1) := by decide +kernel
theorem dX11_word_24 : decode cX11_word 24 = .ok (.getfield 243, 3) := by decide +kernel
theorem dX11_word_27 : decode cX11_word 27 = .ok (.aload_n 0, 1) := by decide +kernel
theorem dX11_word_28 : decode cX11_word 28 = .ok (.getfield 231, 3) := by decide +kernel
theorem dX11_word_31 : decode cX11_word 31 = .ok (.isub, 1) := by decide +kernel
theorem dX11_word_32 : decode cX11_word 32 = .ok (.bipush 8, 2) := by decide +kernel
theorem dX11_word_34 : decode cX11_word 34 = .ok (.if_icmp .ge 22, 3) := by decide +kernel
theorem dX11_word_37 : decode cX11_word 37 = .ok (.lload_n 1, 1) := by decide +kernel
theorem dX11_word_38 : decode cX11_word 38 = .ok (.bipush 8, 2) := by decide +kernel
theorem dX11_word_40 : decode cX11_word 40 = .ok (.lshl, 1) := by decide +kernel
theorem dX11_word_41 : decode cX11_word 41 = .ok (.aload_n 0, 1) := by decide +kernel
theorem dX11_word_42 : decode cX11_word 42 = .ok (.getfield 85, 3) := by decide +kernel
theorem dX11_word_45 : decode cX11_word 45 = .ok (.iload_n 3, 1) := by decide +kernel
theorem dX11_word_46 : decode cX11_word 46 = .ok (.iaload, 1) := by decide +kernel
theorem dX11_word_47 : decode cX11_word 47 = .ok (.i2l, 1) := by decide +kernel
theorem dX11_word_48 : decode cX11_word 48 = .ok (.lor, 1) := by decide +kernel
theorem dX11_word_49 : decode cX11_word 49 = .ok (.lstore_n 1, 1) := by decide +kernel
theorem dX11_word_50 : decode cX11_word 50 = .ok (.iinc 3 1, 3) := by decide +kernel
theorem dX11_word_53 : decode cX11_word 53 = .ok (.goto (-46), 3) := by decide +kernel
theorem dX11_word_56 : decode cX11_word 56 = .ok (.lload_n 1, 1) := by decide +kernel
theorem dX11_word_57 : decode cX11_word 57 = .ok (.lreturn, 1) := by decide +kernel
theorem dX11_numberTo_0 : decode cX11_numberTo 0 = .ok (.aload_n 0, 1) := by decide +kernel
theorem dX11_numberTo_1 : decode cX11_numberTo 1 = .ok (.getfield 246, 3) := by decide +kernel
theorem dX11_numberTo_4 : decode cX11_numberTo 4 = .ok (.ifCond .le 5, 3) := by decide +kernel
theorem dX11_numberTo_7 : decode cX11_numberTo 7 = .ok (.iconst 0, 1) := by decide +kernel
theorem dX11_numberTo_8 : decode cX11_numberTo 8 = .ok (.ireturn, 1) := by decide +kernel
theorem dX11_numberTo_9 : decode cX11_numberTo 9 = .ok (.iconst 0, 1) := by decide +kernel
theorem dX11_numberTo_10 : decode cX11_numberTo 10 = .ok (.istore_n 2, 1) := by decide +kernel
theorem dX11_numberTo_11 : decode cX11_numberTo 11 = .ok (.aload_n 0, 1) := by decide +kernel
theorem dX11_numberTo_12 : decode cX11_numberTo 12 = .ok (.getfield 231, 3) := by decide +kernel
theorem dX11_numberTo_15 : decode cX11_numberTo 15 = .ok (.istore_n 3, 1) := by decide +kernel
theorem dX11_numberTo_16 : decode cX11_numberTo 16 = .ok (.iload_n 3, 1) := by decide +kernel
theorem dX11_numberTo_17 : decode cX11_numberTo 17 = .ok (.aload_n 0, 1) := by decide +kernel
theorem dX11_numberTo_18 : decode cX11_numberTo 18 = .ok (.getfield 243, 3) := by decide +kernel
theorem dX11_numberTo_21 : decode cX11_numberTo 21 = .ok (.if_icmp .ge 32, 3) := by decide +kernel
theorem dX11_numberTo_24 : decode cX11_numberTo 24 = .ok (.aload_n 0, 1) := by decide +kernel
theorem dX11_numberTo_25 : decode cX11_numberTo 25 = .ok (.getfield 234, 3) := by decide +kernel
theorem dX11_numberTo_28 : decode cX11_numberTo 28 = .ok (.iconst 3, 1) := by decide +kernel
theorem dX11_numberTo_29 : decode cX11_numberTo 29 = .ok (.if_icmp .ne 24, 3) := by decide +kernel
theorem dX11_numberTo_32 : decode cX11_numberTo 32 = .ok (.bipush 10, 2) := by decide +kernel
theorem dX11_numberTo_34 : decode cX11_numberTo 34 = .ok (.iload_n 2, 1) := by decide +kernel
theorem dX11_numberTo_35 : decode cX11_numberTo 35 = .ok (.imul, 1) := by decide +kernel
theorem dX11_numberTo_36 : decode cX11_numberTo 36 = .ok (.aload_n 0, 1) := by decide +kernel
theorem dX11_numberTo_37 : decode cX11_numberTo 37 = .ok (.getfield 85, 3) := by decide +kernel
theorem dX11_numberTo_40 : decode cX11_numberTo 40 = .ok (.iload_n 3, 1) := by decide +kernel
theorem dX11_numberTo_41 : decode cX11_numberTo 41 = .ok (.iaload, 1) := by decide +kernel
theorem dX11_numberTo_42 : decode cX11_numberTo 42 = .ok (.iadd, 1) := by decide +kernel
theorem dX11_numberTo_43 : decode cX11_numberTo 43 = .ok (.bipush 48, 2) := by decide +kernel
theorem dX11_numberTo_45 : decode cX11_numberTo 45 = .ok (.isub, 1) := by decide +kernel
theorem dX11_numberTo_46 : decode cX11_numberTo 46 = .ok (.istore_n 2, 1) := by decide +kernel
theorem dX11_numberTo_47 : decode cX11_numberTo 47 = .ok (.iinc 3 1, 3) := by decide +kernel
theorem dX11_numberTo_50 : decode cX11_numberTo 50 = .ok (.goto (-34), 3) := by decide +kernel
theorem dX11_numberTo_53 : decode cX11_numberTo 53 = .ok (.aload_n 0, 1) := by decide +kernel
theorem dX11_numberTo_54 : decode cX11_numberTo 54 = .ok (.getfield 234, 3) := by decide +kernel
theorem dX11_numberTo_57 : decode cX11_numberTo 57 = .ok (.iconst 3, 1) := by decide +kernel
theorem dX11_numberTo_58 : decode cX11_numberTo 58 = .ok (.if_icmp .ne 13, 3) := by decide +kernel
theorem dX11_numberTo_61 : decode cX11_numberTo 61 = .ok (.iload_n 2, 1) := by decide +kernel
theorem dX11_numberTo_62 : decode cX11_numberTo 62 = .ok (.iload_n 1, 1) := by decide +kernel
theorem dX11_numberTo_63 : decode cX11_numberTo 63 = .ok (.if_icmp .le 8, 3) := by decide +kernel
theorem dX11_numberTo_66 : decode cX11_numberTo 66 = .ok (.aload_n 0, 1) := by decide +kernel
theorem dX11_numberTo_67 : decode cX11_numberTo 67 = .ok (.iconst 2, 1) := by decide +kernel
theorem dX11_numberTo_68 : decode cX11_numberTo 68 = .ok (.invokevirtual 252, 3) := by decide +kernel
theorem dX11_numberTo_71 : decode cX11_numberTo 71 = .ok (.aload_n 0, 1) := by decide +kernel
theorem dX11_numberTo_72 : decode cX11_numberTo 72 = .ok (.aload_n 0, 1) := by decide +kernel
theorem dX11_numberTo_73 : decode cX11_numberTo 73 = .ok (.getfield 234, 3) := by decide +kernel
theorem dX11_numberTo_76 : decode cX11_numberTo 76 = .ok (.iconst 3, 1) := by decide +kernel
theorem dX11_numberTo_77 : decode cX11_numberTo 77 = .ok (.if_icmp .ne 7, 3) := by decide +kernel
theorem dX11_numberTo_80 : decode cX11_numberTo 80 = .ok (.iconst 1, 1) := by decide +kernel
theorem dX11_numberTo_81 : decode cX11_numberTo 81 = .ok (.goto 4, 3) := by decide +kernel
theorem dX11_numberTo_84 : decode cX11_numberTo 84 = .ok (.iconst 0, 1) := by decide +kernel
theorem dX11_numberTo_85 : decode cX11_numberTo 85 = .ok (.invokevirtual 258, 3) := by decide +kernel
theorem dX11_numberTo_88 : decode cX11_numberTo 88 = .ok (.iload_n 2, 1) := by decide +kernel
theorem dX11_numberTo_89 : decode cX11_numberTo 89 = .ok (.ireturn, 1) := by decide +kernel
theorem dX11_ruleOfWord_0 : decode cX11_ruleOfWord 0 = .ok (.aload_n 0, 1) := by decide +kernel
theorem dX11_ruleOfWord_1 : decode cX11_ruleOfWord 1 = .ok (.invokevirtual 262, 3) := by decide +kernel
theorem dX11_ruleOfWord_4 : decode cX11_ruleOfWord 4 = .ok (.lstore_n 1, 1) := by decide +kernel
theorem dX11_ruleOfWord_5 : decode cX11_ruleOfWord 5 = .ok (.lload_n 1, 1) := by decide +kernel
theorem dX11_ruleOfWord_6 : decode cX11_ruleOfWord 6 = .ok (.ldc2_w 266, 3) := by decide +kernel
theorem dX11_ruleOfWord_9 : decode cX11_ruleOfWord 9 = .ok (.lcmp, 1) := by decide +kernel
theorem dX11_ruleOfWord_10 : decode cX11_ruleOfWord 10 = .ok (.ifCond .ne 7, 3) := by decide +kernel
theorem dX11_ruleOfWord_13 : decode cX11_ruleOfWord 13 = .ok (.iconst 0, 1) := by decide +kernel
theorem dX11_ruleOfWord_14 : decode cX11_ruleOfWord 14 = .ok (.goto 53, 3) := by decide +kernel
theorem dX11_ruleOfWord_17 : decode cX11_ruleOfWord 17 = .ok (.lload_n 1, 1) := by decide +kernel
theorem dX11_ruleOfWord_18 : decode cX11_ruleOfWord 18 = .ok (.ldc2_w 268, 3) := by decide +kernel
theorem dX11_ruleOfWord_21 : decode cX11_ruleOfWord 21 = .ok (.lcmp, 1) := by decide +kernel
theorem dX11_ruleOfWord_22 : decode cX11_ruleOfWord 22 = .ok (.ifCond .ne 7, 3) := by decide +kernel
theorem dX11_ruleOfWord_25 : decode cX11_ruleOfWord 25 = .ok (.iconst 1, 1) := by decide +kernel
theorem dX11_ruleOfWord_26 : decode cX11_ruleOfWord 26 = .ok (.goto 41, 3) := by decide +kernel
theorem dX11_ruleOfWord_29 : decode cX11_ruleOfWord 29 = .ok (.lload_n 1, 1) := by decide +kernel
theorem dX11_ruleOfWord_30 : decode cX11_ruleOfWord 30 = .ok (.ldc2_w 270, 3) := by decide +kernel
theorem dX11_ruleOfWord_33 : decode cX11_ruleOfWord 33 = .ok (.lcmp, 1) := by decide +kernel
theorem dX11_ruleOfWord_34 : decode cX11_ruleOfWord 34 = .ok (.ifCond .ne 7, 3) := by decide +kernel
theorem dX11_ruleOfWord_37 : decode cX11_ruleOfWord 37 = .ok (.iconst 2, 1) := by decide +kernel
theorem dX11_ruleOfWord_38 : decode cX11_ruleOfWord 38 = .ok (.goto 29, 3) := by decide +kernel
theorem dX11_ruleOfWord_41 : decode cX11_ruleOfWord 41 = .ok (.lload_n 1, 1) := by decide +kernel
theorem dX11_ruleOfWord_42 : decode cX11_ruleOfWord 42 = .ok (.ldc2_w 272, 3) := by decide +kernel
theorem dX11_ruleOfWord_45 : decode cX11_ruleOfWord 45 = .ok (.lcmp, 1) := by decide +kernel
theorem dX11_ruleOfWord_46 : decode cX11_ruleOfWord 46 = .ok (.ifCond .ne 7, 3) := by decide +kernel
theorem dX11_ruleOfWord_49 : decode cX11_ruleOfWord 49 = .ok (.iconst 3, 1) := by decide +kernel
theorem dX11_ruleOfWord_50 : decode cX11_ruleOfWord 50 = .ok (.goto 17, 3) := by decide +kernel
theorem dX11_ruleOfWord_53 : decode cX11_ruleOfWord 53 = .ok (.lload_n 1, 1) := by decide +kernel
theorem dX11_ruleOfWord_54 : decode cX11_ruleOfWord 54 = .ok (.ldc2_w 274, 3) := by decide +kernel
theorem dX11_ruleOfWord_57 : decode cX11_ruleOfWord 57 = .ok (.lcmp, 1) := by decide +kernel
theorem dX11_ruleOfWord_58 : decode cX11_ruleOfWord 58 = .ok (.ifCond .ne 7, 3) := by decide +kernel
theorem dX11_ruleOfWord_61 : decode cX11_ruleOfWord 61 = .ok (.iconst 4, 1) := by decide +kernel
theorem dX11_ruleOfWord_62 : decode cX11_ruleOfWord 62 = .ok (.goto 5, 3) := by decide +kernel
theorem dX11_ruleOfWord_65 : decode cX11_ruleOfWord 65 = .ok (.ldc 69, 2) := by decide +kernel
theorem dX11_ruleOfWord_67 : decode cX11_ruleOfWord 67 = .ok (.ireturn, 1) := by decide +kernel
theorem dX11_readRule_0 : decode cX11_readRule 0 = .ok (.aload_n 0, 1) := by decide +kernel
theorem dX11_readRule_1 : decode cX11_readRule 1 = .ok (.invokevirtual 276, 3) := by decide +kernel
theorem dX11_readRule_4 : decode cX11_readRule 4 = .ok (.istore_n 2, 1) := by decide +kernel
theorem dX11_readRule_5 : decode cX11_readRule 5 = .ok (.iload_n 2, 1) := by decide +kernel
theorem dX11_readRule_6 : decode cX11_readRule 6 = .ok (.ldc 69, 2) := by decide +kernel
theorem dX11_readRule_8 : decode cX11_readRule 8 = .ok (.if_icmp .eq 17, 3) := by decide +kernel
theorem dX11_readRule_11 : decode cX11_readRule 11 = .ok (.aload_n 0, 1) := by decide +kernel
theorem dX11_readRule_12 : decode cX11_readRule 12 = .ok (.getfield 280, 3) := by decide +kernel
theorem dX11_readRule_15 : decode cX11_readRule 15 = .ok (.bipush 30, 2) := by decide +kernel
theorem dX11_readRule_17 : decode cX11_readRule 17 = .ok (.if_icmp .ne 8, 3) := by decide +kernel
theorem dX11_readRule_20 : decode cX11_readRule 20 = .ok (.aload_n 0, 1) := by decide +kernel
theorem dX11_readRule_21 : decode cX11_readRule 21 = .ok (.iconst 3, 1) := by decide +kernel
theorem dX11_readRule_22 : decode cX11_readRule 22 = .ok (.invokevirtual 252, 3) := by decide +kernel
theorem dX11_readRule_25 : decode cX11_readRule 25 = .ok (.aload_n 0, 1) := by decide +kernel
theorem dX11_readRule_26 : decode cX11_readRule 26 = .ok (.iload_n 2, 1) := by decide +kernel
theorem dX11_readRule_27 : decode cX11_readRule 27 = .ok (.ldc 69, 2) := by decide +kernel
theorem dX11_readRule_29 : decode cX11_readRule 29 = .ok (.if_icmp .eq 7, 3) := by decide +kernel
theorem dX11_readRule_32 : decode cX11_readRule 32 = .ok (.iconst 1, 1) := by decide +kernel
theorem dX11_readRule_33 : decode cX11_readRule 33 = .ok (.goto 4, 3) := by decide +kernel
theorem dX11_readRule_36 : decode cX11_readRule 36 = .ok (.iconst 0, 1) := by decide +kernel
theorem dX11_readRule_37 : decode cX11_readRule 37 = .ok (.invokevirtual 258, 3) := by decide +kernel
theorem dX11_readRule_40 : decode cX11_readRule 40 = .ok (.aload_n 0, 1) := by decide +kernel
theorem dX11_readRule_41 : decode cX11_readRule 41 = .ok (.getfield 246, 3) := by decide +kernel
theorem dX11_readRule_44 : decode cX11_readRule 44 = .ok (.ifCond .le 4, 3) := by decide +kernel
theorem dX11_readRule_47 : decode cX11_readRule 47 = .ok (.return_, 1) := by decide +kernel
theorem dX11_readRule_48 : decode cX11_readRule 48 = .ok (.aload_n 0, 1) := by decide +kernel
theorem dX11_readRule_49 : decode cX11_readRule 49 = .ok (.getfield 73, 3) := by decide +kernel
theorem dX11_readRule_52 : decode cX11_readRule 52 = .ok (.aload_n 0, 1) := by decide +kernel
theorem dX11_readRule_53 : decode cX11_readRule 53 = .ok (.getfield 280, 3) := by decide +kernel
theorem dX11_readRule_56 : decode cX11_readRule 56 = .ok (.iload_n 1, 1) := by decide +kernel
theorem dX11_readRule_57 : decode cX11_readRule 57 = .ok (.iastore, 1) := by decide +kernel
theorem dX11_readRule_58 : decode cX11_readRule 58 = .ok (.aload_n 0, 1) := by decide +kernel
theorem dX11_readRule_59 : decode cX11_readRule 59 = .ok (.getfield 76, 3) := by decide +kernel
theorem dX11_readRule_62 : decode cX11_readRule 62 = .ok (.aload_n 0, 1) := by decide +kernel
theorem dX11_readRule_63 : decode cX11_readRule 63 = .ok (.getfield 280, 3) := by decide +kernel
theorem dX11_readRule_66 : decode cX11_readRule 66 = .ok (.iload_n 2, 1) := by decide +kernel
theorem dX11_readRule_67 : decode cX11_readRule 67 = .ok (.iastore, 1) := by decide +kernel
theorem dX11_readRule_68 : decode cX11_readRule 68 = .ok (.aload_n 0, 1) := by decide +kernel
theorem dX11_readRule_69 : decode cX11_readRule 69 = .ok (.getfield 79, 3) := by decide +kernel
theorem dX11_readRule_72 : decode cX11_readRule 72 = .ok (.aload_n 0, 1) := by decide +kernel
theorem dX11_readRule_73 : decode cX11_readRule 73 = .ok (.getfield 280, 3) := by decide +kernel
theorem dX11_readRule_76 : decode cX11_readRule 76 = .ok (.iload_n 2, 1) := by decide +kernel
theorem dX11_readRule_77 : decode cX11_readRule 77 = .ok (.ifCond .eq 8, 3) := by decide +kernel
theorem dX11_readRule_80 : decode cX11_readRule 80 = .ok (.iload_n 2, 1) := by decide +kernel
theorem dX11_readRule_81 : decode cX11_readRule 81 = .ok (.iconst 4, 1) := by decide +kernel
theorem dX11_readRule_82 : decode cX11_readRule 82 = .ok (.if_icmp .ne 11, 3) := by decide +kernel
theorem dX11_readRule_85 : decode cX11_readRule 85 = .ok (.aload_n 0, 1) := by decide +kernel
theorem dX11_readRule_86 : decode cX11_readRule 86 = .ok (.iconst 3, 1) := by decide +kernel
theorem dX11_readRule_87 : decode cX11_readRule 87 = .ok (.invokevirtual 283, 3) := by decide +kernel
theorem dX11_readRule_90 : decode cX11_readRule 90 = .ok (.goto 4, 3) := by decide +kernel
theorem dX11_readRule_93 : decode cX11_readRule 93 = .ok (.iconst 0, 1) := by decide +kernel
theorem dX11_readRule_94 : decode cX11_readRule 94 = .ok (.iastore, 1) := by decide +kernel
theorem dX11_readRule_95 : decode cX11_readRule 95 = .ok (.aload_n 0, 1) := by decide +kernel
theorem dX11_readRule_96 : decode cX11_readRule 96 = .ok (.getfield 82, 3) := by decide +kernel
theorem dX11_readRule_99 : decode cX11_readRule 99 = .ok (.aload_n 0, 1) := by decide +kernel
theorem dX11_readRule_100 : decode cX11_readRule 100 = .ok (.getfield 280, 3) := by decide +kernel
theorem dX11_readRule_103 : decode cX11_readRule 103 = .ok (.iload_n 2, 1) := by decide +kernel
theorem dX11_readRule_104 : decode cX11_readRule 104 = .ok (.iconst 4, 1) := by decide +kernel
theorem dX11_readRule_105 : decode cX11_readRule 105 = .ok (.if_icmp .ne 7, 3) := by decide +kernel
theorem dX11_readRule_108 : decode cX11_readRule 108 = .ok (.iconst 0, 1) := by decide +kernel
theorem dX11_readRule_109 : decode cX11_readRule 109 = .ok (.goto 20, 3) := by decide +kernel
theorem dX11_readRule_112 : decode cX11_readRule 112 = .ok (.aload_n 0, 1) := by decide +kernel
theorem dX11_readRule_113 : decode cX11_readRule 113 = .ok (.iload_n 2, 1) := by decide +kernel
theorem dX11_readRule_114 : decode cX11_readRule 114 = .ok (.iconst 2, 1) := by decide +kernel
theorem dX11_readRule_115 : decode cX11_readRule 115 = .ok (.if_icmp .ne 9, 3) := by decide +kernel
theorem dX11_readRule_118 : decode cX11_readRule 118 = .ok (.sipush 9999, 3) := by decide +kernel
theorem dX11_readRule_121 : decode cX11_readRule 121 = .ok (.goto 5, 3) := by decide +kernel
theorem dX11_readRule_124 : decode cX11_readRule 124 = .ok (.bipush 99, 2) := by decide +kernel
theorem dX11_readRule_126 : decode cX11_readRule 126 = .ok (.invokevirtual 283, 3) := by decide +kernel
theorem dX11_readRule_129 : decode cX11_readRule 129 = .ok (.iastore, 1) := by decide +kernel
theorem dX11_readRule_130 : decode cX11_readRule 130 = .ok (.aload_n 0, 1) := by decide +kernel
theorem dX11_readRule_131 : decode cX11_readRule 131 = .ok (.dup, 1) := by decide +kernel
theorem dX11_readRule_132 : decode cX11_readRule 132 = .ok (.getfield 280, 3) := by decide +kernel
theorem dX11_readRule_135 : decode cX11_readRule 135 = .ok (.iconst 1, 1) := by decide +kernel
theorem dX11_readRule_136 : decode cX11_readRule 136 = .ok (.iadd, 1) := by decide +kernel
theorem dX11_readRule_137 : decode cX11_readRule 137 = .ok (.putfield 280, 3) := by decide +kernel
theorem dX11_readRule_140 : decode cX11_readRule 140 = .ok (.return_, 1) := by decide +kernel
theorem dX11_lists_0 : decode cX11_lists 0 = .ok (.aload_n 0, 1) := by decide +kernel
theorem dX11_lists_1 : decode cX11_lists 1 = .ok (.iconst 0, 1) := by decide +kernel
theorem dX11_lists_2 : decode cX11_lists 2 = .ok (.putfield 1, 3) := by decide +kernel
theorem dX11_lists_5 : decode cX11_lists 5 = .ok (.aload_n 0, 1) := by decide +kernel
theorem dX11_lists_6 : decode cX11_lists 6 = .ok (.aload_n 0, 1) := by decide +kernel
theorem dX11_lists_7 : decode cX11_lists 7 = .ok (.getfield 217, 3) := by decide +kernel
theorem dX11_lists_10 : decode cX11_lists 10 = .ok (.putfield 222, 3) := by decide +kernel
theorem dX11_lists_13 : decode cX11_lists 13 = .ok (.aload_n 0, 1) := by decide +kernel
theorem dX11_lists_14 : decode cX11_lists 14 = .ok (.iconst 0, 1) := by decide +kernel
theorem dX11_lists_15 : decode cX11_lists 15 = .ok (.putfield 217, 3) := by decide +kernel
theorem dX11_lists_18 : decode cX11_lists 18 = .ok (.aload_n 0, 1) := by decide +kernel
theorem dX11_lists_19 : decode cX11_lists 19 = .ok (.iconst 0, 1) := by decide +kernel
theorem dX11_lists_20 : decode cX11_lists 20 = .ok (.putfield 225, 3) := by decide +kernel
theorem dX11_lists_23 : decode cX11_lists 23 = .ok (.aload_n 0, 1) := by decide +kernel
theorem dX11_lists_24 : decode cX11_lists 24 = .ok (.iconst 0, 1) := by decide +kernel
theorem dX11_lists_25 : decode cX11_lists 25 = .ok (.putfield 246, 3) := by decide +kernel
theorem dX11_lists_28 : decode cX11_lists 28 = .ok (.aload_n 0, 1) := by decide +kernel
theorem dX11_lists_29 : decode cX11_lists 29 = .ok (.aload_n 0, 1) := by decide +kernel
theorem dX11_lists_30 : decode cX11_lists 30 = .ok (.getfield 286, 3) := by decide +kernel
theorem dX11_lists_33 : decode cX11_lists 33 = .ok (.putfield 280, 3) := by decide +kernel
theorem dX11_lists_36 : decode cX11_lists 36 = .ok (.aload_n 0, 1) := by decide +kernel
theorem dX11_lists_37 : decode cX11_lists 37 = .ok (.invokevirtual 255, 3) := by decide +kernel
theorem dX11_lists_40 : decode cX11_lists 40 = .ok (.aload_n 0, 1) := by decide +kernel
theorem dX11_lists_41 : decode cX11_lists 41 = .ok (.getfield 246, 3) := by decide +kernel
theorem dX11_lists_44 : decode cX11_lists 44 = .ok (.ifCond .ne 112, 3) := by decide +kernel
theorem dX11_lists_47 : decode cX11_lists 47 = .ok (.aload_n 0, 1) := by decide +kernel
theorem dX11_lists_48 : decode cX11_lists 48 = .ok (.getfield 234, 3) := by decide +kernel
theorem dX11_lists_51 : decode cX11_lists 51 = .ok (.iconst 1, 1) := by decide +kernel
theorem dX11_lists_52 : decode cX11_lists 52 = .ok (.if_icmp .eq 104, 3) := by decide +kernel
theorem dX11_lists_55 : decode cX11_lists 55 = .ok (.aload_n 0, 1) := by decide +kernel
theorem dX11_lists_56 : decode cX11_lists 56 = .ok (.aload_n 0, 1) := by decide +kernel
theorem dX11_lists_57 : decode cX11_lists 57 = .ok (.invokevirtual 262, 3) := by decide +kernel
theorem dX11_lists_60 : decode cX11_lists 60 = .ok (.ldc2_w 289, 3) := by decide +kernel
theorem dX11_lists_63 : decode cX11_lists 63 = .ok (.lcmp, 1) := by decide +kernel
theorem dX11_lists_64 : decode cX11_lists 64 = .ok (.ifCond .ne 7, 3) := by decide +kernel
theorem dX11_lists_67 : decode cX11_lists 67 = .ok (.iconst 1, 1) := by decide +kernel
theorem dX11_lists_68 : decode cX11_lists 68 = .ok (.goto 4, 3) := by decide +kernel
theorem dX11_lists_71 : decode cX11_lists 71 = .ok (.iconst 0, 1) := by decide +kernel
theorem dX11_lists_72 : decode cX11_lists 72 = .ok (.invokevirtual 258, 3) := by decide +kernel
theorem dX11_lists_75 : decode cX11_lists 75 = .ok (.aload_n 0, 1) := by decide +kernel
theorem dX11_lists_76 : decode cX11_lists 76 = .ok (.bipush 99, 2) := by decide +kernel
theorem dX11_lists_78 : decode cX11_lists 78 = .ok (.invokevirtual 283, 3) := by decide +kernel
theorem dX11_lists_81 : decode cX11_lists 81 = .ok (.istore_n 1, 1) := by decide +kernel
theorem dX11_lists_82 : decode cX11_lists 82 = .ok (.aload_n 0, 1) := by decide +kernel
theorem dX11_lists_83 : decode cX11_lists 83 = .ok (.getfield 246, 3) := by decide +kernel
theorem dX11_lists_86 : decode cX11_lists 86 = .ok (.ifCond .ne 7, 3) := by decide +kernel
theorem dX11_lists_89 : decode cX11_lists 89 = .ok (.iconst 1, 1) := by decide +kernel
theorem dX11_lists_90 : decode cX11_lists 90 = .ok (.goto 4, 3) := by decide +kernel
theorem dX11_lists_93 : decode cX11_lists 93 = .ok (.iconst 0, 1) := by decide +kernel
theorem dX11_lists_94 : decode cX11_lists 94 = .ok (.istore_n 2, 1) := by decide +kernel
theorem dX11_lists_95 : decode cX11_lists 95 = .ok (.iload_n 2, 1) := by decide +kernel
theorem dX11_lists_96 : decode cX11_lists 96 = .ok (.ifCond .eq 33, 3) := by decide +kernel
theorem dX11_lists_99 : decode cX11_lists 99 = .ok (.aload_n 0, 1) := by decide +kernel
theorem dX11_lists_100 : decode cX11_lists 100 = .ok (.iload_n 1, 1) := by decide +kernel
theorem dX11_lists_101 : decode cX11_lists 101 = .ok (.invokevirtual 291, 3) := by decide +kernel
theorem dX11_lists_104 : decode cX11_lists 104 = .ok (.aload_n 0, 1) := by decide +kernel
theorem dX11_lists_105 : decode cX11_lists 105 = .ok (.getfield 246, 3) := by decide +kernel
theorem dX11_lists_108 : decode cX11_lists 108 = .ok (.ifCond .ne 16, 3) := by decide +kernel
theorem dX11_lists_111 : decode cX11_lists 111 = .ok (.aload_n 0, 1) := by decide +kernel
theorem dX11_lists_112 : decode cX11_lists 112 = .ok (.invokevirtual 276, 3) := by decide +kernel
theorem dX11_lists_115 : decode cX11_lists 115 = .ok (.ldc 69, 2) := by decide +kernel
theorem dX11_lists_117 : decode cX11_lists 117 = .ok (.if_icmp .eq 7, 3) := by decide +kernel
theorem dX11_lists_120 : decode cX11_lists 120 = .ok (.iconst 1, 1) := by decide +kernel
theorem dX11_lists_121 : decode cX11_lists 121 = .ok (.goto 4, 3) := by decide +kernel
theorem dX11_lists_124 : decode cX11_lists 124 = .ok (.iconst 0, 1) := by decide +kernel
theorem dX11_lists_125 : decode cX11_lists 125 = .ok (.istore_n 2, 1) := by decide +kernel
theorem dX11_lists_126 : decode cX11_lists 126 = .ok (.goto (-31), 3) := by decide +kernel
theorem dX11_lists_129 : decode cX11_lists 129 = .ok (.aload_n 0, 1) := by decide +kernel
theorem dX11_lists_130 : decode cX11_lists 130 = .ok (.getfield 246, 3) := by decide +kernel
theorem dX11_lists_133 : decode cX11_lists 133 = .ok (.ifCond .ne 20, 3) := by decide +kernel
theorem dX11_lists_136 : decode cX11_lists 136 = .ok (.aload_n 0, 1) := by decide +kernel
theorem dX11_lists_137 : decode cX11_lists 137 = .ok (.aload_n 0, 1) := by decide +kernel
theorem dX11_lists_138 : decode cX11_lists 138 = .ok (.getfield 234, 3) := by decide +kernel
theorem dX11_lists_141 : decode cX11_lists 141 = .ok (.iconst 4, 1) := by decide +kernel
theorem dX11_lists_142 : decode cX11_lists 142 = .ok (.if_icmp .ne 7, 3) := by decide +kernel
theorem dX11_lists_145 : decode cX11_lists 145 = .ok (.iconst 1, 1) := by decide +kernel
theorem dX11_lists_146 : decode cX11_lists 146 = .ok (.goto 4, 3) := by decide +kernel
theorem dX11_lists_149 : decode cX11_lists 149 = .ok (.iconst 0, 1) := by decide +kernel
theorem dX11_lists_150 : decode cX11_lists 150 = .ok (.invokevirtual 258, 3) := by decide +kernel
theorem dX11_lists_153 : decode cX11_lists 153 = .ok (.goto (-113), 3) := by decide +kernel
theorem dX11_lists_156 : decode cX11_lists 156 = .ok (.aload_n 0, 1) := by decide +kernel
theorem dX11_lists_157 : decode cX11_lists 157 = .ok (.getfield 246, 3) := by decide +kernel
theorem dX11_lists_160 : decode cX11_lists 160 = .ok (.ifCond .le 20, 3) := by decide +kernel
theorem dX11_lists_163 : decode cX11_lists 163 = .ok (.aload_n 0, 1) := by decide +kernel
theorem dX11_lists_164 : decode cX11_lists 164 = .ok (.aload_n 0, 1) := by decide +kernel
theorem dX11_lists_165 : decode cX11_lists 165 = .ok (.getfield 246, 3) := by decide +kernel
theorem dX11_lists_168 : decode cX11_lists 168 = .ok (.putfield 294, 3) := by decide +kernel
theorem dX11_lists_171 : decode cX11_lists 171 = .ok (.ldc_w 297, 3) := by decide +kernel
theorem dX11_lists_174 : decode cX11_lists 174 = .ok (.aload_n 0, 1) := by decide +kernel
theorem dX11_lists_175 : decode cX11_lists 175 = .ok (.getfield 249, 3) := by decide +kernel
theorem dX11_lists_178 : decode cX11_lists 178 = .ok (.isub, 1) := by decide +kernel
theorem dX11_lists_179 : decode cX11_lists 179 = .ok (.ireturn, 1) := by decide +kernel
theorem dX11_lists_180 : decode cX11_lists 180 = .ok (.aload_n 0, 1) := by decide +kernel
theorem dX11_lists_181 : decode cX11_lists 181 = .ok (.aload_n 0, 1) := by decide +kernel
theorem dX11_lists_182 : decode cX11_lists 182 = .ok (.getfield 280, 3) := by decide +kernel
theorem dX11_lists_185 : decode cX11_lists 185 = .ok (.putfield 286, 3) := by decide +kernel
theorem dX11_lists_188 : decode cX11_lists 188 = .ok (.aload_n 0, 1) := by decide +kernel
theorem dX11_lists_189 : decode cX11_lists 189 = .ok (.getfield 286, 3) := by decide +kernel
theorem dX11_lists_192 : decode cX11_lists 192 = .ok (.ireturn, 1) := by decide +kernel
theorem dX11_fault_0 : decode cX11_fault 0 = .ok (.aload_n 0, 1) := by decide +kernel
theorem dX11_fault_1 : decode cX11_fault 1 = .ok (.iconst 0, 1) := by decide +kernel
theorem dX11_fault_2 : decode cX11_fault 2 = .ok (.putfield 1, 3) := by decide +kernel
theorem dX11_fault_5 : decode cX11_fault 5 = .ok (.aload_n 0, 1) := by decide +kernel
theorem dX11_fault_6 : decode cX11_fault 6 = .ok (.getfield 294, 3) := by decide +kernel
theorem dX11_fault_9 : decode cX11_fault 9 = .ok (.ireturn, 1) := by decide +kernel
theorem dX11_numberFor_0 : decode cX11_numberFor 0 = .ok (.ldc 69, 2) := by decide +kernel
theorem dX11_numberFor_2 : decode cX11_numberFor 2 = .ok (.istore 4, 2) := by decide +kernel
theorem dX11_numberFor_4 : decode cX11_numberFor 4 = .ok (.iconst 0, 1) := by decide +kernel
theorem dX11_numberFor_5 : decode cX11_numberFor 5 = .ok (.istore 5, 2) := by decide +kernel
theorem dX11_numberFor_7 : decode cX11_numberFor 7 = .ok (.iload 5, 2) := by decide +kernel
theorem dX11_numberFor_9 : decode cX11_numberFor 9 = .ok (.aload_n 0, 1) := by decide +kernel
theorem dX11_numberFor_10 : decode cX11_numberFor 10 = .ok (.getfield 286, 3) := by decide +kernel
theorem dX11_numberFor_13 : decode cX11_numberFor 13 = .ok (.if_icmp .ge 87, 3) := by decide +kernel
theorem dX11_numberFor_16 : decode cX11_numberFor 16 = .ok (.aload_n 0, 1) := by decide +kernel
theorem dX11_numberFor_17 : decode cX11_numberFor 17 = .ok (.getfield 76, 3) := by decide +kernel
theorem dX11_numberFor_20 : decode cX11_numberFor 20 = .ok (.iload 5, 2) := by decide +kernel
theorem dX11_numberFor_22 : decode cX11_numberFor 22 = .ok (.iaload, 1) := by decide +kernel
theorem dX11_numberFor_23 : decode cX11_numberFor 23 = .ok (.iload_n 2, 1) := by decide +kernel
theorem dX11_numberFor_24 : decode cX11_numberFor 24 = .ok (.if_icmp .ne 29, 3) := by decide +kernel
theorem dX11_numberFor_27 : decode cX11_numberFor 27 = .ok (.aload_n 0, 1) := by decide +kernel
theorem dX11_numberFor_28 : decode cX11_numberFor 28 = .ok (.getfield 79, 3) := by decide +kernel
theorem dX11_numberFor_31 : decode cX11_numberFor 31 = .ok (.iload 5, 2) := by decide +kernel
theorem dX11_numberFor_33 : decode cX11_numberFor 33 = .ok (.iaload, 1) := by decide +kernel
theorem dX11_numberFor_34 : decode cX11_numberFor 34 = .ok (.iload_n 3, 1) := by decide +kernel
theorem dX11_numberFor_35 : decode cX11_numberFor 35 = .ok (.if_icmp .ne 18, 3) := by decide +kernel
theorem dX11_numberFor_38 : decode cX11_numberFor 38 = .ok (.aload_n 0, 1) := by decide +kernel
theorem dX11_numberFor_39 : decode cX11_numberFor 39 = .ok (.getfield 73, 3) := by decide +kernel
theorem dX11_numberFor_42 : decode cX11_numberFor 42 = .ok (.iload 5, 2) := by decide +kernel
theorem dX11_numberFor_44 : decode cX11_numberFor 44 = .ok (.iaload, 1) := by decide +kernel
theorem dX11_numberFor_45 : decode cX11_numberFor 45 = .ok (.iload_n 1, 1) := by decide +kernel
theorem dX11_numberFor_46 : decode cX11_numberFor 46 = .ok (.if_icmp .gt 7, 3) := by decide +kernel
theorem dX11_numberFor_49 : decode cX11_numberFor 49 = .ok (.iconst 1, 1) := by decide +kernel
theorem dX11_numberFor_50 : decode cX11_numberFor 50 = .ok (.goto 4, 3) := by decide +kernel
theorem dX11_numberFor_53 : decode cX11_numberFor 53 = .ok (.iconst 0, 1) := by decide +kernel
theorem dX11_numberFor_54 : decode cX11_numberFor 54 = .ok (.istore 6, 2) := by decide +kernel
theorem dX11_numberFor_56 : decode cX11_numberFor 56 = .ok (.iload 6, 2) := by decide +kernel
theorem dX11_numberFor_58 : decode cX11_numberFor 58 = .ok (.ifCond .eq 32, 3) := by decide +kernel
theorem dX11_numberFor_61 : decode cX11_numberFor 61 = .ok (.iload 4, 2) := by decide +kernel
theorem dX11_numberFor_63 : decode cX11_numberFor 63 = .ok (.ldc 69, 2) := by decide +kernel
theorem dX11_numberFor_65 : decode cX11_numberFor 65 = .ok (.if_icmp .eq 20, 3) := by decide +kernel
theorem dX11_numberFor_68 : decode cX11_numberFor 68 = .ok (.aload_n 0, 1) := by decide +kernel
theorem dX11_numberFor_69 : decode cX11_numberFor 69 = .ok (.getfield 73, 3) := by decide +kernel
theorem dX11_numberFor_72 : decode cX11_numberFor 72 = .ok (.iload 5, 2) := by decide +kernel
theorem dX11_numberFor_74 : decode cX11_numberFor 74 = .ok (.iaload, 1) := by decide +kernel
theorem dX11_numberFor_75 : decode cX11_numberFor 75 = .ok (.aload_n 0, 1) := by decide +kernel
theorem dX11_numberFor_76 : decode cX11_numberFor 76 = .ok (.getfield 73, 3) := by decide +kernel
theorem dX11_numberFor_79 : decode cX11_numberFor 79 = .ok (.iload 4, 2) := by decide +kernel
theorem dX11_numberFor_81 : decode cX11_numberFor 81 = .ok (.iaload, 1) := by decide +kernel
theorem dX11_numberFor_82 : decode cX11_numberFor 82 = .ok (.if_icmp .lt 8, 3) := by decide +kernel
theorem dX11_numberFor_85 : decode cX11_numberFor 85 = .ok (.iload 5, 2) := by decide +kernel
theorem dX11_numberFor_87 : decode cX11_numberFor 87 = .ok (.goto 5, 3) := by decide +kernel
theorem dX11_numberFor_90 : decode cX11_numberFor 90 = .ok (.iload 4, 2) := by decide +kernel
theorem dX11_numberFor_92 : decode cX11_numberFor 92 = .ok (.istore 4, 2) := by decide +kernel
theorem dX11_numberFor_94 : decode cX11_numberFor 94 = .ok (.iinc 5 1, 3) := by decide +kernel
theorem dX11_numberFor_97 : decode cX11_numberFor 97 = .ok (.goto (-90), 3) := by decide +kernel
theorem dX11_numberFor_100 : decode cX11_numberFor 100 = .ok (.iload 4, 2) := by decide +kernel
theorem dX11_numberFor_102 : decode cX11_numberFor 102 = .ok (.ldc 69, 2) := by decide +kernel
theorem dX11_numberFor_104 : decode cX11_numberFor 104 = .ok (.if_icmp .ne 7, 3) := by decide +kernel
theorem dX11_numberFor_107 : decode cX11_numberFor 107 = .ok (.iconst 0, 1) := by decide +kernel
theorem dX11_numberFor_108 : decode cX11_numberFor 108 = .ok (.goto 10, 3) := by decide +kernel
theorem dX11_numberFor_111 : decode cX11_numberFor 111 = .ok (.aload_n 0, 1) := by decide +kernel
theorem dX11_numberFor_112 : decode cX11_numberFor 112 = .ok (.getfield 82, 3) := by decide +kernel
theorem dX11_numberFor_115 : decode cX11_numberFor 115 = .ok (.iload 4, 2) := by decide +kernel
theorem dX11_numberFor_117 : decode cX11_numberFor 117 = .ok (.iaload, 1) := by decide +kernel
theorem dX11_numberFor_118 : decode cX11_numberFor 118 = .ok (.ireturn, 1) := by decide +kernel
theorem dX11_earnOn_0 : decode cX11_earnOn 0 = .ok (.sipush 3000, 3) := by decide +kernel
theorem dX11_earnOn_3 : decode cX11_earnOn 3 = .ok (.bipush 50, 2) := by decide +kernel
theorem dX11_earnOn_5 : decode cX11_earnOn 5 = .ok (.aload_n 0, 1) := by decide +kernel
theorem dX11_earnOn_6 : decode cX11_earnOn 6 = .ok (.getfield 30, 3) := by decide +kernel
theorem dX11_earnOn_9 : decode cX11_earnOn 9 = .ok (.iload_n 1, 1) := by decide +kernel
theorem dX11_earnOn_10 : decode cX11_earnOn 10 = .ok (.iaload, 1) := by decide +kernel
theorem dX11_earnOn_11 : decode cX11_earnOn 11 = .ok (.iadd, 1) := by decide +kernel
theorem dX11_earnOn_12 : decode cX11_earnOn 12 = .ok (.idiv, 1) := by decide +kernel
theorem dX11_earnOn_13 : decode cX11_earnOn 13 = .ok (.aload_n 0, 1) := by decide +kernel
theorem dX11_earnOn_14 : decode cX11_earnOn 14 = .ok (.iload_n 2, 1) := by decide +kernel
theorem dX11_earnOn_15 : decode cX11_earnOn 15 = .ok (.iconst 0, 1) := by decide +kernel
theorem dX11_earnOn_16 : decode cX11_earnOn 16 = .ok (.iload_n 1, 1) := by decide +kernel
theorem dX11_earnOn_17 : decode cX11_earnOn 17 = .ok (.invokevirtual 298, 3) := by decide +kernel
theorem dX11_earnOn_20 : decode cX11_earnOn 20 = .ok (.imul, 1) := by decide +kernel
theorem dX11_earnOn_21 : decode cX11_earnOn 21 = .ok (.ireturn, 1) := by decide +kernel
theorem dX11_findFirst_0 : decode cX11_findFirst 0 = .ok (.iconst 0, 1) := by decide +kernel
theorem dX11_findFirst_1 : decode cX11_findFirst 1 = .ok (.istore_n 2, 1) := by decide +kernel
theorem dX11_findFirst_2 : decode cX11_findFirst 2 = .ok (.aload_n 0, 1) := by decide +kernel
theorem dX11_findFirst_3 : decode cX11_findFirst 3 = .ok (.iconst 0, 1) := by decide +kernel
theorem dX11_findFirst_4 : decode cX11_findFirst 4 = .ok (.putfield 302, 3) := by decide +kernel
theorem dX11_findFirst_7 : decode cX11_findFirst 7 = .ok (.iconst 0, 1) := by decide +kernel
theorem dX11_findFirst_8 : decode cX11_findFirst 8 = .ok (.istore_n 3, 1) := by decide +kernel
theorem dX11_findFirst_9 : decode cX11_findFirst 9 = .ok (.iload_n 3, 1) := by decide +kernel
theorem dX11_findFirst_10 : decode cX11_findFirst 10 = .ok (.iload_n 1, 1) := by decide +kernel
theorem dX11_findFirst_11 : decode cX11_findFirst 11 = .ok (.if_icmp .gt 101, 3) := by decide +kernel
theorem dX11_findFirst_14 : decode cX11_findFirst 14 = .ok (.iconst 0, 1) := by decide +kernel
theorem dX11_findFirst_15 : decode cX11_findFirst 15 = .ok (.istore 4, 2) := by decide +kernel
theorem dX11_findFirst_17 : decode cX11_findFirst 17 = .ok (.iload 4, 2) := by decide +kernel
theorem dX11_findFirst_19 : decode cX11_findFirst 19 = .ok (.aload_n 0, 1) := by decide +kernel
theorem dX11_findFirst_20 : decode cX11_findFirst 20 = .ok (.getfield 286, 3) := by decide +kernel
theorem dX11_findFirst_23 : decode cX11_findFirst 23 = .ok (.if_icmp .ge 83, 3) := by decide +kernel
theorem dX11_findFirst_26 : decode cX11_findFirst 26 = .ok (.aload_n 0, 1) := by decide +kernel
theorem dX11_findFirst_27 : decode cX11_findFirst 27 = .ok (.getfield 76, 3) := by decide +kernel
theorem dX11_findFirst_30 : decode cX11_findFirst 30 = .ok (.iload 4, 2) := by decide +kernel
theorem dX11_findFirst_32 : decode cX11_findFirst 32 = .ok (.iaload, 1) := by decide +kernel
theorem dX11_findFirst_33 : decode cX11_findFirst 33 = .ok (.iconst 4, 1) := by decide +kernel
theorem dX11_findFirst_34 : decode cX11_findFirst 34 = .ok (.if_icmp .ne 66, 3) := by decide +kernel
theorem dX11_findFirst_37 : decode cX11_findFirst 37 = .ok (.aload_n 0, 1) := by decide +kernel
theorem dX11_findFirst_38 : decode cX11_findFirst 38 = .ok (.getfield 73, 3) := by decide +kernel
theorem dX11_findFirst_41 : decode cX11_findFirst 41 = .ok (.iload 4, 2) := by decide +kernel
theorem dX11_findFirst_43 : decode cX11_findFirst 43 = .ok (.iaload, 1) := by decide +kernel
theorem dX11_findFirst_44 : decode cX11_findFirst 44 = .ok (.iload_n 3, 1) := by decide +kernel
theorem dX11_findFirst_45 : decode cX11_findFirst 45 = .ok (.if_icmp .ne 55, 3) := by decide +kernel
theorem dX11_findFirst_48 : decode cX11_findFirst 48 = .ok (.iload_n 2, 1) := by decide +kernel
theorem dX11_findFirst_49 : decode cX11_findFirst 49 = .ok (.aload_n 0, 1) := by decide +kernel
theorem dX11_findFirst_50 : decode cX11_findFirst 50 = .ok (.getfield 79, 3) := by decide +kernel
theorem dX11_findFirst_53 : decode cX11_findFirst 53 = .ok (.iload 4, 2) := by decide +kernel
theorem dX11_findFirst_55 : decode cX11_findFirst 55 = .ok (.iaload, 1) := by decide +kernel
theorem dX11_findFirst_56 : decode cX11_findFirst 56 = .ok (.ishr, 1) := by decide +kernel
theorem dX11_findFirst_57 : decode cX11_findFirst 57 = .ok (.iconst 1, 1) := by decide +kernel
theorem dX11_findFirst_58 : decode cX11_findFirst 58 = .ok (.iand, 1) := by decide +kernel
theorem dX11_findFirst_59 : decode cX11_findFirst 59 = .ok (.ifCond .ne 41, 3) := by decide +kernel
theorem dX11_findFirst_62 : decode cX11_findFirst 62 = .ok (.iload_n 2, 1) := by decide +kernel
theorem dX11_findFirst_63 : decode cX11_findFirst 63 = .ok (.iconst 1, 1) := by decide +kernel
theorem dX11_findFirst_64 : decode cX11_findFirst 64 = .ok (.aload_n 0, 1) := by decide +kernel
theorem dX11_findFirst_65 : decode cX11_findFirst 65 = .ok (.getfield 79, 3) := by decide +kernel
theorem dX11_findFirst_68 : decode cX11_findFirst 68 = .ok (.iload 4, 2) := by decide +kernel
theorem dX11_findFirst_70 : decode cX11_findFirst 70 = .ok (.iaload, 1) := by decide +kernel
theorem dX11_findFirst_71 : decode cX11_findFirst 71 = .ok (.ishl, 1) := by decide +kernel
theorem dX11_findFirst_72 : decode cX11_findFirst 72 = .ok (.ior, 1) := by decide +kernel
theorem dX11_findFirst_73 : decode cX11_findFirst 73 = .ok (.istore_n 2, 1) := by decide +kernel
theorem dX11_findFirst_74 : decode cX11_findFirst 74 = .ok (.aload_n 0, 1) := by decide +kernel
theorem dX11_findFirst_75 : decode cX11_findFirst 75 = .ok (.getfield 88, 3) := by decide +kernel
theorem dX11_findFirst_78 : decode cX11_findFirst 78 = .ok (.aload_n 0, 1) := by decide +kernel
theorem dX11_findFirst_79 : decode cX11_findFirst 79 = .ok (.getfield 302, 3) := by decide +kernel
theorem dX11_findFirst_82 : decode cX11_findFirst 82 = .ok (.aload_n 0, 1) := by decide +kernel
theorem dX11_findFirst_83 : decode cX11_findFirst 83 = .ok (.getfield 79, 3) := by decide +kernel
theorem dX11_findFirst_86 : decode cX11_findFirst 86 = .ok (.iload 4, 2) := by decide +kernel
theorem dX11_findFirst_88 : decode cX11_findFirst 88 = .ok (.iaload, 1) := by decide +kernel
theorem dX11_findFirst_89 : decode cX11_findFirst 89 = .ok (.iastore, 1) := by decide +kernel
theorem dX11_findFirst_90 : decode cX11_findFirst 90 = .ok (.aload_n 0, 1) := by decide +kernel
theorem dX11_findFirst_91 : decode cX11_findFirst 91 = .ok (.dup, 1) := by decide +kernel
theorem dX11_findFirst_92 : decode cX11_findFirst 92 = .ok (.getfield 302, 3) := by decide +kernel
theorem dX11_findFirst_95 : decode cX11_findFirst 95 = .ok (.iconst 1, 1) := by decide +kernel
theorem dX11_findFirst_96 : decode cX11_findFirst 96 = .ok (.iadd, 1) := by decide +kernel
theorem dX11_findFirst_97 : decode cX11_findFirst 97 = .ok (.putfield 302, 3) := by decide +kernel
theorem dX11_findFirst_100 : decode cX11_findFirst 100 = .ok (.iinc 4 1, 3) := by decide +kernel
theorem dX11_findFirst_103 : decode cX11_findFirst 103 = .ok (.goto (-86), 3) := by decide +kernel
theorem dX11_findFirst_106 : decode cX11_findFirst 106 = .ok (.iinc 3 1, 3) := by decide +kernel
theorem dX11_findFirst_109 : decode cX11_findFirst 109 = .ok (.goto (-100), 3) := by decide +kernel
theorem dX11_findFirst_112 : decode cX11_findFirst 112 = .ok (.iload_n 2, 1) := by decide +kernel
theorem dX11_findFirst_113 : decode cX11_findFirst 113 = .ok (.ireturn, 1) := by decide +kernel
theorem dX11_holds_0 : decode cX11_holds 0 = .ok (.aload_n 0, 1) := by decide +kernel
theorem dX11_holds_1 : decode cX11_holds 1 = .ok (.iconst 0, 1) := by decide +kernel
theorem dX11_holds_2 : decode cX11_holds 2 = .ok (.putfield 1, 3) := by decide +kernel
theorem dX11_holds_5 : decode cX11_holds 5 = .ok (.iload_n 1, 1) := by decide +kernel
theorem dX11_holds_6 : decode cX11_holds 6 = .ok (.invokestatic 164, 3) := by decide +kernel
theorem dX11_holds_9 : decode cX11_holds 9 = .ok (.ifCond .ne 6, 3) := by decide +kernel
theorem dX11_holds_12 : decode cX11_holds 12 = .ok (.ldc 136, 2) := by decide +kernel
theorem dX11_holds_14 : decode cX11_holds 14 = .ok (.ireturn, 1) := by decide +kernel
theorem dX11_holds_15 : decode cX11_holds 15 = .ok (.iload_n 2, 1) := by decide +kernel
theorem dX11_holds_16 : decode cX11_holds 16 = .ok (.i2l, 1) := by decide +kernel
theorem dX11_holds_17 : decode cX11_holds 17 = .ok (.lconst 0, 1) := by decide +kernel
theorem dX11_holds_18 : decode cX11_holds 18 = .ok (.ldc2_w 141, 3) := by decide +kernel
theorem dX11_holds_21 : decode cX11_holds 21 = .ok (.invokestatic 126, 3) := by decide +kernel
theorem dX11_holds_24 : decode cX11_holds 24 = .ok (.ifCond .eq 13, 3) := by decide +kernel
theorem dX11_holds_27 : decode cX11_holds 27 = .ok (.aload_n 0, 1) := by decide +kernel
theorem dX11_holds_28 : decode cX11_holds 28 = .ok (.iload_n 1, 1) := by decide +kernel
theorem dX11_holds_29 : decode cX11_holds 29 = .ok (.iconst 0, 1) := by decide +kernel
theorem dX11_holds_30 : decode cX11_holds 30 = .ok (.iload_n 2, 1) := by decide +kernel
theorem dX11_holds_31 : decode cX11_holds 31 = .ok (.invokevirtual 298, 3) := by decide +kernel
theorem dX11_holds_34 : decode cX11_holds 34 = .ok (.goto 91, 3) := by decide +kernel
theorem dX11_holds_37 : decode cX11_holds 37 = .ok (.iload_n 2, 1) := by decide +kernel
theorem dX11_holds_38 : decode cX11_holds 38 = .ok (.iconst 4, 1) := by decide +kernel
theorem dX11_holds_39 : decode cX11_holds 39 = .ok (.if_icmp .ne 13, 3) := by decide +kernel
theorem dX11_holds_42 : decode cX11_holds 42 = .ok (.aload_n 0, 1) := by decide +kernel
theorem dX11_holds_43 : decode cX11_holds 43 = .ok (.iload_n 1, 1) := by decide +kernel
theorem dX11_holds_44 : decode cX11_holds 44 = .ok (.iconst 1, 1) := by decide +kernel
theorem dX11_holds_45 : decode cX11_holds 45 = .ok (.iconst 0, 1) := by decide +kernel
theorem dX11_holds_46 : decode cX11_holds 46 = .ok (.invokevirtual 298, 3) := by decide +kernel
theorem dX11_holds_49 : decode cX11_holds 49 = .ok (.goto 76, 3) := by decide +kernel
theorem dX11_holds_52 : decode cX11_holds 52 = .ok (.iload_n 2, 1) := by decide +kernel
theorem dX11_holds_53 : decode cX11_holds 53 = .ok (.iconst 5, 1) := by decide +kernel
theorem dX11_holds_54 : decode cX11_holds 54 = .ok (.if_icmp .ne 13, 3) := by decide +kernel
theorem dX11_holds_57 : decode cX11_holds 57 = .ok (.aload_n 0, 1) := by decide +kernel
theorem dX11_holds_58 : decode cX11_holds 58 = .ok (.iload_n 1, 1) := by decide +kernel
theorem dX11_holds_59 : decode cX11_holds 59 = .ok (.iconst 2, 1) := by decide +kernel
theorem dX11_holds_60 : decode cX11_holds 60 = .ok (.iconst 0, 1) := by decide +kernel
theorem dX11_holds_61 : decode cX11_holds 61 = .ok (.invokevirtual 298, 3) := by decide +kernel
theorem dX11_holds_64 : decode cX11_holds 64 = .ok (.goto 61, 3) := by decide +kernel
theorem dX11_holds_67 : decode cX11_holds 67 = .ok (.iload_n 2, 1) := by decide +kernel
theorem dX11_holds_68 : decode cX11_holds 68 = .ok (.bipush 6, 2) := by decide +kernel
theorem dX11_holds_70 : decode cX11_holds 70 = .ok (.if_icmp .ne 13, 3) := by decide +kernel
theorem dX11_holds_73 : decode cX11_holds 73 = .ok (.aload_n 0, 1) := by decide +kernel
theorem dX11_holds_74 : decode cX11_holds 74 = .ok (.iload_n 1, 1) := by decide +kernel
theorem dX11_holds_75 : decode cX11_holds 75 = .ok (.iconst 3, 1) := by decide +kernel
theorem dX11_holds_76 : decode cX11_holds 76 = .ok (.iconst 0, 1) := by decide +kernel
theorem dX11_holds_77 : decode cX11_holds 77 = .ok (.invokevirtual 298, 3) := by decide +kernel
theorem dX11_holds_80 : decode cX11_holds 80 = .ok (.goto 45, 3) := by decide +kernel
theorem dX11_holds_83 : decode cX11_holds 83 = .ok (.iload_n 2, 1) := by decide +kernel
theorem dX11_holds_84 : decode cX11_holds 84 = .ok (.bipush 7, 2) := by decide +kernel
theorem dX11_holds_86 : decode cX11_holds 86 = .ok (.if_icmp .ne 11, 3) := by decide +kernel
theorem dX11_holds_89 : decode cX11_holds 89 = .ok (.aload_n 0, 1) := by decide +kernel
theorem dX11_holds_90 : decode cX11_holds 90 = .ok (.iload_n 1, 1) := by decide +kernel
theorem dX11_holds_91 : decode cX11_holds 91 = .ok (.invokevirtual 305, 3) := by decide +kernel
theorem dX11_holds_94 : decode cX11_holds 94 = .ok (.goto 31, 3) := by decide +kernel
theorem dX11_holds_97 : decode cX11_holds 97 = .ok (.iload_n 2, 1) := by decide +kernel
theorem dX11_holds_98 : decode cX11_holds 98 = .ok (.i2l, 1) := by decide +kernel
theorem dX11_holds_99 : decode cX11_holds 99 = .ok (.ldc2_w 308, 3) := by decide +kernel
theorem dX11_holds_102 : decode cX11_holds 102 = .ok (.ldc2_w 310, 3) := by decide +kernel
theorem dX11_holds_105 : decode cX11_holds 105 = .ok (.invokestatic 126, 3) := by decide +kernel
theorem dX11_holds_108 : decode cX11_holds 108 = .ok (.ifCond .eq 15, 3) := by decide +kernel
theorem dX11_holds_111 : decode cX11_holds 111 = .ok (.aload_n 0, 1) := by decide +kernel
theorem dX11_holds_112 : decode cX11_holds 112 = .ok (.iload_n 2, 1) := by decide +kernel
theorem dX11_holds_113 : decode cX11_holds 113 = .ok (.bipush 10, 2) := by decide +kernel
theorem dX11_holds_115 : decode cX11_holds 115 = .ok (.isub, 1) := by decide +kernel
theorem dX11_holds_116 : decode cX11_holds 116 = .ok (.iload_n 1, 1) := by decide +kernel
theorem dX11_holds_117 : decode cX11_holds 117 = .ok (.invokevirtual 312, 3) := by decide +kernel
theorem dX11_holds_120 : decode cX11_holds 120 = .ok (.goto 5, 3) := by decide +kernel
theorem dX11_holds_123 : decode cX11_holds 123 = .ok (.ldc 136, 2) := by decide +kernel
theorem dX11_holds_125 : decode cX11_holds 125 = .ok (.ireturn, 1) := by decide +kernel
theorem dX11_first_0 : decode cX11_first 0 = .ok (.aload_n 0, 1) := by decide +kernel
theorem dX11_first_1 : decode cX11_first 1 = .ok (.iconst 0, 1) := by decide +kernel
theorem dX11_first_2 : decode cX11_first 2 = .ok (.putfield 1, 3) := by decide +kernel
theorem dX11_first_5 : decode cX11_first 5 = .ok (.iload_n 1, 1) := by decide +kernel
theorem dX11_first_6 : decode cX11_first 6 = .ok (.invokestatic 164, 3) := by decide +kernel
theorem dX11_first_9 : decode cX11_first 9 = .ok (.ifCond .ne 6, 3) := by decide +kernel
theorem dX11_first_12 : decode cX11_first 12 = .ok (.ldc 136, 2) := by decide +kernel
theorem dX11_first_14 : decode cX11_first 14 = .ok (.ireturn, 1) := by decide +kernel
theorem dX11_first_15 : decode cX11_first 15 = .ok (.aload_n 0, 1) := by decide +kernel
theorem dX11_first_16 : decode cX11_first 16 = .ok (.iload_n 1, 1) := by decide +kernel
theorem dX11_first_17 : decode cX11_first 17 = .ok (.invokevirtual 305, 3) := by decide +kernel
theorem dX11_first_20 : decode cX11_first 20 = .ok (.istore_n 3, 1) := by decide +kernel
theorem dX11_first_21 : decode cX11_first 21 = .ok (.iload_n 2, 1) := by decide +kernel
theorem dX11_first_22 : decode cX11_first 22 = .ok (.i2l, 1) := by decide +kernel
theorem dX11_first_23 : decode cX11_first 23 = .ok (.lconst 0, 1) := by decide +kernel
theorem dX11_first_24 : decode cX11_first 24 = .ok (.aload_n 0, 1) := by decide +kernel
theorem dX11_first_25 : decode cX11_first 25 = .ok (.getfield 302, 3) := by decide +kernel
theorem dX11_first_28 : decode cX11_first 28 = .ok (.iconst 1, 1) := by decide +kernel
theorem dX11_first_29 : decode cX11_first 29 = .ok (.isub, 1) := by decide +kernel
theorem dX11_first_30 : decode cX11_first 30 = .ok (.i2l, 1) := by decide +kernel
theorem dX11_first_31 : decode cX11_first 31 = .ok (.invokestatic 126, 3) := by decide +kernel
theorem dX11_first_34 : decode cX11_first 34 = .ok (.ifCond .eq 12, 3) := by decide +kernel
theorem dX11_first_37 : decode cX11_first 37 = .ok (.aload_n 0, 1) := by decide +kernel
theorem dX11_first_38 : decode cX11_first 38 = .ok (.getfield 88, 3) := by decide +kernel
theorem dX11_first_41 : decode cX11_first 41 = .ok (.iload_n 2, 1) := by decide +kernel
theorem dX11_first_42 : decode cX11_first 42 = .ok (.iaload, 1) := by decide +kernel
theorem dX11_first_43 : decode cX11_first 43 = .ok (.goto 5, 3) := by decide +kernel
theorem dX11_first_46 : decode cX11_first 46 = .ok (.ldc 69, 2) := by decide +kernel
theorem dX11_first_48 : decode cX11_first 48 = .ok (.ireturn, 1) := by decide +kernel
theorem dX11_home_0 : decode cX11_home 0 = .ok (.aload_n 0, 1) := by decide +kernel
theorem dX11_home_1 : decode cX11_home 1 = .ok (.iconst 0, 1) := by decide +kernel
theorem dX11_home_2 : decode cX11_home 2 = .ok (.putfield 1, 3) := by decide +kernel
theorem dX11_home_5 : decode cX11_home 5 = .ok (.iload_n 1, 1) := by decide +kernel
theorem dX11_home_6 : decode cX11_home 6 = .ok (.invokestatic 130, 3) := by decide +kernel
theorem dX11_home_9 : decode cX11_home 9 = .ok (.ifCond .ne 6, 3) := by decide +kernel
theorem dX11_home_12 : decode cX11_home 12 = .ok (.ldc 136, 2) := by decide +kernel
theorem dX11_home_14 : decode cX11_home 14 = .ok (.ireturn, 1) := by decide +kernel
theorem dX11_home_15 : decode cX11_home 15 = .ok (.aload_n 0, 1) := by decide +kernel
theorem dX11_home_16 : decode cX11_home 16 = .ok (.getfield 202, 3) := by decide +kernel
theorem dX11_home_19 : decode cX11_home 19 = .ok (.bipush 12, 2) := by decide +kernel
theorem dX11_home_21 : decode cX11_home 21 = .ok (.if_icmp .ne 6, 3) := by decide +kernel
theorem dX11_home_24 : decode cX11_home 24 = .ok (.ldc 172, 2) := by decide +kernel
theorem dX11_home_26 : decode cX11_home 26 = .ok (.ireturn, 1) := by decide +kernel
theorem dX11_home_27 : decode cX11_home 27 = .ok (.aload_n 0, 1) := by decide +kernel
theorem dX11_home_28 : decode cX11_home 28 = .ok (.iload_n 1, 1) := by decide +kernel
theorem dX11_home_29 : decode cX11_home 29 = .ok (.iload_n 2, 1) := by decide +kernel
theorem dX11_home_30 : decode cX11_home 30 = .ok (.bipush 9, 2) := by decide +kernel
theorem dX11_home_32 : decode cX11_home 32 = .ok (.invokevirtual 316, 3) := by decide +kernel
theorem dX11_home_35 : decode cX11_home 35 = .ok (.istore_n 3, 1) := by decide +kernel
theorem dX11_home_36 : decode cX11_home 36 = .ok (.iload_n 3, 1) := by decide +kernel
theorem dX11_home_37 : decode cX11_home 37 = .ok (.ifCond .ge 5, 3) := by decide +kernel
theorem dX11_home_40 : decode cX11_home 40 = .ok (.iload_n 3, 1) := by decide +kernel
theorem dX11_home_41 : decode cX11_home 41 = .ok (.ireturn, 1) := by decide +kernel
theorem dX11_home_42 : decode cX11_home 42 = .ok (.bipush 80, 2) := by decide +kernel
theorem dX11_home_44 : decode cX11_home 44 = .ok (.iload_n 1, 1) := by decide +kernel
theorem dX11_home_45 : decode cX11_home 45 = .ok (.imul, 1) := by decide +kernel
theorem dX11_home_46 : decode cX11_home 46 = .ok (.iload_n 2, 1) := by decide +kernel
theorem dX11_home_47 : decode cX11_home 47 = .ok (.iadd, 1) := by decide +kernel
theorem dX11_home_48 : decode cX11_home 48 = .ok (.istore 4, 2) := by decide +kernel
theorem dX11_home_50 : decode cX11_home 50 = .ok (.aload_n 0, 1) := by decide +kernel
theorem dX11_home_51 : decode cX11_home 51 = .ok (.getfield 24, 3) := by decide +kernel
theorem dX11_home_54 : decode cX11_home 54 = .ok (.iload 4, 2) := by decide +kernel
theorem dX11_home_56 : decode cX11_home 56 = .ok (.iaload, 1) := by decide +kernel
theorem dX11_home_57 : decode cX11_home 57 = .ok (.i2l, 1) := by decide +kernel
theorem dX11_home_58 : decode cX11_home 58 = .ok (.lconst 0, 1) := by decide +kernel
theorem dX11_home_59 : decode cX11_home 59 = .ok (.ldc2_w 213, 3) := by decide +kernel
theorem dX11_home_62 : decode cX11_home 62 = .ok (.invokestatic 126, 3) := by decide +kernel
theorem dX11_home_65 : decode cX11_home 65 = .ok (.ifCond .eq 94, 3) := by decide +kernel
theorem dX11_home_68 : decode cX11_home 68 = .ok (.aload_n 0, 1) := by decide +kernel
theorem dX11_home_69 : decode cX11_home 69 = .ok (.getfield 24, 3) := by decide +kernel
theorem dX11_home_72 : decode cX11_home 72 = .ok (.iload 4, 2) := by decide +kernel
theorem dX11_home_74 : decode cX11_home 74 = .ok (.iconst 1, 1) := by decide +kernel
theorem dX11_home_75 : decode cX11_home 75 = .ok (.iadd, 1) := by decide +kernel
theorem dX11_home_76 : decode cX11_home 76 = .ok (.iaload, 1) := by decide +kernel
theorem dX11_home_77 : decode cX11_home 77 = .ok (.i2l, 1) := by decide +kernel
theorem dX11_home_78 : decode cX11_home 78 = .ok (.lconst 1, 1) := by decide +kernel
theorem dX11_home_79 : decode cX11_home 79 = .ok (.ldc2_w 319, 3) := by decide +kernel
theorem dX11_home_82 : decode cX11_home 82 = .ok (.invokestatic 126, 3) := by decide +kernel
theorem dX11_home_85 : decode cX11_home 85 = .ok (.ifCond .eq 74, 3) := by decide +kernel
theorem dX11_home_88 : decode cX11_home 88 = .ok (.aload_n 0, 1) := by decide +kernel
theorem dX11_home_89 : decode cX11_home 89 = .ok (.getfield 24, 3) := by decide +kernel
theorem dX11_home_92 : decode cX11_home 92 = .ok (.iload 4, 2) := by decide +kernel
theorem dX11_home_94 : decode cX11_home 94 = .ok (.iconst 2, 1) := by decide +kernel
theorem dX11_home_95 : decode cX11_home 95 = .ok (.iadd, 1) := by decide +kernel
theorem dX11_home_96 : decode cX11_home 96 = .ok (.iaload, 1) := by decide +kernel
theorem dX11_home_97 : decode cX11_home 97 = .ok (.i2l, 1) := by decide +kernel
theorem dX11_home_98 : decode cX11_home 98 = .ok (.lconst 0, 1) := by decide +kernel
theorem dX11_home_99 : decode cX11_home 99 = .ok (.aload_n 0, 1) := by decide +kernel
theorem dX11_home_100 : decode cX11_home 100 = .ok (.getfield 24, 3) := by decide +kernel
theorem dX11_home_103 : decode cX11_home 103 = .ok (.iload 4, 2) := by decide +kernel
theorem dX11_home_105 : decode cX11_home 105 = .ok (.iconst 1, 1) := by decide +kernel
theorem dX11_home_106 : decode cX11_home 106 = .ok (.iadd, 1) := by decide +kernel
theorem dX11_home_107 : decode cX11_home 107 = .ok (.iaload, 1) := by decide +kernel
theorem dX11_home_108 : decode cX11_home 108 = .ok (.i2l, 1) := by decide +kernel
theorem dX11_home_109 : decode cX11_home 109 = .ok (.invokestatic 126, 3) := by decide +kernel
theorem dX11_home_112 : decode cX11_home 112 = .ok (.ifCond .eq 47, 3) := by decide +kernel
theorem dX11_home_115 : decode cX11_home 115 = .ok (.aload_n 0, 1) := by decide +kernel
theorem dX11_home_116 : decode cX11_home 116 = .ok (.getfield 24, 3) := by decide +kernel
theorem dX11_home_119 : decode cX11_home 119 = .ok (.iload 4, 2) := by decide +kernel
theorem dX11_home_121 : decode cX11_home 121 = .ok (.iconst 3, 1) := by decide +kernel
theorem dX11_home_122 : decode cX11_home 122 = .ok (.iadd, 1) := by decide +kernel
theorem dX11_home_123 : decode cX11_home 123 = .ok (.iaload, 1) := by decide +kernel
theorem dX11_home_124 : decode cX11_home 124 = .ok (.i2l, 1) := by decide +kernel
theorem dX11_home_125 : decode cX11_home 125 = .ok (.lconst 0, 1) := by decide +kernel
theorem dX11_home_126 : decode cX11_home 126 = .ok (.ldc2_w 155, 3) := by decide +kernel
theorem dX11_home_129 : decode cX11_home 129 = .ok (.invokestatic 126, 3) := by decide +kernel
theorem dX11_home_132 : decode cX11_home 132 = .ok (.ifCond .eq 27, 3) := by decide +kernel
theorem dX11_home_135 : decode cX11_home 135 = .ok (.aload_n 0, 1) := by decide +kernel
theorem dX11_home_136 : decode cX11_home 136 = .ok (.getfield 24, 3) := by decide +kernel
theorem dX11_home_139 : decode cX11_home 139 = .ok (.iload 4, 2) := by decide +kernel
theorem dX11_home_141 : decode cX11_home 141 = .ok (.iconst 4, 1) := by decide +kernel
theorem dX11_home_142 : decode cX11_home 142 = .ok (.iadd, 1) := by decide +kernel
theorem dX11_home_143 : decode cX11_home 143 = .ok (.iaload, 1) := by decide +kernel
theorem dX11_home_144 : decode cX11_home 144 = .ok (.i2l, 1) := by decide +kernel
theorem dX11_home_145 : decode cX11_home 145 = .ok (.lconst 0, 1) := by decide +kernel
theorem dX11_home_146 : decode cX11_home 146 = .ok (.ldc2_w 143, 3) := by decide +kernel
theorem dX11_home_149 : decode cX11_home 149 = .ok (.invokestatic 126, 3) := by decide +kernel
theorem dX11_home_152 : decode cX11_home 152 = .ok (.ifCond .eq 7, 3) := by decide +kernel
theorem dX11_home_155 : decode cX11_home 155 = .ok (.iconst 1, 1) := by decide +kernel
theorem dX11_home_156 : decode cX11_home 156 = .ok (.goto 4, 3) := by decide +kernel
theorem dX11_home_159 : decode cX11_home 159 = .ok (.iconst 0, 1) := by decide +kernel
theorem dX11_home_160 : decode cX11_home 160 = .ok (.istore 5, 2) := by decide +kernel
theorem dX11_home_162 : decode cX11_home 162 = .ok (.iconst 5, 1) := by decide +kernel
theorem dX11_home_163 : decode cX11_home 163 = .ok (.istore 6, 2) := by decide +kernel
theorem dX11_home_165 : decode cX11_home 165 = .ok (.iload 6, 2) := by decide +kernel
theorem dX11_home_167 : decode cX11_home 167 = .ok (.bipush 9, 2) := by decide +kernel
theorem dX11_home_169 : decode cX11_home 169 = .ok (.if_icmp .ge 42, 3) := by decide +kernel
theorem dX11_home_172 : decode cX11_home 172 = .ok (.iload 5, 2) := by decide +kernel
theorem dX11_home_174 : decode cX11_home 174 = .ok (.ifCond .eq 28, 3) := by decide +kernel
theorem dX11_home_177 : decode cX11_home 177 = .ok (.aload_n 0, 1) := by decide +kernel
theorem dX11_home_178 : decode cX11_home 178 = .ok (.getfield 24, 3) := by decide +kernel
theorem dX11_home_181 : decode cX11_home 181 = .ok (.iload 4, 2) := by decide +kernel
theorem dX11_home_183 : decode cX11_home 183 = .ok (.iload 6, 2) := by decide +kernel
theorem dX11_home_185 : decode cX11_home 185 = .ok (.iadd, 1) := by decide +kernel
theorem dX11_home_186 : decode cX11_home 186 = .ok (.iaload, 1) := by decide +kernel
theorem dX11_home_187 : decode cX11_home 187 = .ok (.i2l, 1) := by decide +kernel
theorem dX11_home_188 : decode cX11_home 188 = .ok (.lconst 0, 1) := by decide +kernel
theorem dX11_home_189 : decode cX11_home 189 = .ok (.ldc2_w 321, 3) := by decide +kernel
theorem dX11_home_192 : decode cX11_home 192 = .ok (.invokestatic 126, 3) := by decide +kernel
theorem dX11_home_195 : decode cX11_home 195 = .ok (.ifCond .eq 7, 3) := by decide +kernel
theorem dX11_home_198 : decode cX11_home 198 = .ok (.iconst 1, 1) := by decide +kernel
theorem dX11_home_199 : decode cX11_home 199 = .ok (.goto 4, 3) := by decide +kernel
theorem dX11_home_202 : decode cX11_home 202 = .ok (.iconst 0, 1) := by decide +kernel
theorem dX11_home_203 : decode cX11_home 203 = .ok (.istore 5, 2) := by decide +kernel
theorem dX11_home_205 : decode cX11_home 205 = .ok (.iinc 6 1, 3) := by decide +kernel
theorem dX11_home_208 : decode cX11_home 208 = .ok (.goto (-43), 3) := by decide +kernel
theorem dX11_home_211 : decode cX11_home 211 = .ok (.iload 5, 2) := by decide +kernel
theorem dX11_home_213 : decode cX11_home 213 = .ok (.ifCond .ne 6, 3) := by decide +kernel
theorem dX11_home_216 : decode cX11_home 216 = .ok (.ldc 136, 2) := by decide +kernel
theorem dX11_home_218 : decode cX11_home 218 = .ok (.ireturn, 1) := by decide +kernel
theorem dX11_home_219 : decode cX11_home 219 = .ok (.aload_n 0, 1) := by decide +kernel
theorem dX11_home_220 : decode cX11_home 220 = .ok (.iconst 0, 1) := by decide +kernel
theorem dX11_home_221 : decode cX11_home 221 = .ok (.putfield 7, 3) := by decide +kernel
theorem dX11_home_224 : decode cX11_home 224 = .ok (.iconst 0, 1) := by decide +kernel
theorem dX11_home_225 : decode cX11_home 225 = .ok (.istore 6, 2) := by decide +kernel
theorem dX11_home_227 : decode cX11_home 227 = .ok (.iload 6, 2) := by decide +kernel
theorem dX11_home_229 : decode cX11_home 229 = .ok (.bipush 11, 2) := by decide +kernel
theorem dX11_home_231 : decode cX11_home 231 = .ok (.if_icmp .ge 45, 3) := by decide +kernel
theorem dX11_home_234 : decode cX11_home 234 = .ok (.aload_n 0, 1) := by decide +kernel
theorem dX11_home_235 : decode cX11_home 235 = .ok (.getfield 91, 3) := by decide +kernel
theorem dX11_home_238 : decode cX11_home 238 = .ok (.bipush 11, 2) := by decide +kernel
theorem dX11_home_240 : decode cX11_home 240 = .ok (.aload_n 0, 1) := by decide +kernel
theorem dX11_home_241 : decode cX11_home 241 = .ok (.getfield 202, 3) := by decide +kernel
theorem dX11_home_244 : decode cX11_home 244 = .ok (.imul, 1) := by decide +kernel
theorem dX11_home_245 : decode cX11_home 245 = .ok (.iload 6, 2) := by decide +kernel
theorem dX11_home_247 : decode cX11_home 247 = .ok (.iadd, 1) := by decide +kernel
theorem dX11_home_248 : decode cX11_home 248 = .ok (.iload 6, 2) := by decide +kernel
theorem dX11_home_250 : decode cX11_home 250 = .ok (.bipush 9, 2) := by decide +kernel
theorem dX11_home_252 : decode cX11_home 252 = .ok (.if_icmp .ge 16, 3) := by decide +kernel
theorem dX11_home_255 : decode cX11_home 255 = .ok (.aload_n 0, 1) := by decide +kernel
theorem dX11_home_256 : decode cX11_home 256 = .ok (.getfield 24, 3) := by decide +kernel
theorem dX11_home_259 : decode cX11_home 259 = .ok (.iload 4, 2) := by decide +kernel
theorem dX11_home_261 : decode cX11_home 261 = .ok (.iload 6, 2) := by decide +kernel
theorem dX11_home_263 : decode cX11_home 263 = .ok (.iadd, 1) := by decide +kernel
theorem dX11_home_264 : decode cX11_home 264 = .ok (.iaload, 1) := by decide +kernel
theorem dX11_home_265 : decode cX11_home 265 = .ok (.goto 4, 3) := by decide +kernel
theorem dX11_home_268 : decode cX11_home 268 = .ok (.iconst 0, 1) := by decide +kernel
theorem dX11_home_269 : decode cX11_home 269 = .ok (.iastore, 1) := by decide +kernel
theorem dX11_home_270 : decode cX11_home 270 = .ok (.iinc 6 1, 3) := by decide +kernel
theorem dX11_home_273 : decode cX11_home 273 = .ok (.goto (-46), 3) := by decide +kernel
theorem dX11_home_276 : decode cX11_home 276 = .ok (.aload_n 0, 1) := by decide +kernel
theorem dX11_home_277 : decode cX11_home 277 = .ok (.dup, 1) := by decide +kernel
theorem dX11_home_278 : decode cX11_home 278 = .ok (.getfield 202, 3) := by decide +kernel
theorem dX11_home_281 : decode cX11_home 281 = .ok (.iconst 1, 1) := by decide +kernel
theorem dX11_home_282 : decode cX11_home 282 = .ok (.iadd, 1) := by decide +kernel
theorem dX11_home_283 : decode cX11_home 283 = .ok (.putfield 202, 3) := by decide +kernel
theorem dX11_home_286 : decode cX11_home 286 = .ok (.aload_n 0, 1) := by decide +kernel
theorem dX11_home_287 : decode cX11_home 287 = .ok (.getfield 202, 3) := by decide +kernel
theorem dX11_home_290 : decode cX11_home 290 = .ok (.iconst 1, 1) := by decide +kernel
theorem dX11_home_291 : decode cX11_home 291 = .ok (.isub, 1) := by decide +kernel
theorem dX11_home_292 : decode cX11_home 292 = .ok (.ireturn, 1) := by decide +kernel
theorem dX11_house_0 : decode cX11_house 0 = .ok (.aload_n 0, 1) := by decide +kernel
theorem dX11_house_1 : decode cX11_house 1 = .ok (.iconst 0, 1) := by decide +kernel
theorem dX11_house_2 : decode cX11_house 2 = .ok (.putfield 1, 3) := by decide +kernel
theorem dX11_house_5 : decode cX11_house 5 = .ok (.iload_n 1, 1) := by decide +kernel
theorem dX11_house_6 : decode cX11_house 6 = .ok (.i2l, 1) := by decide +kernel
theorem dX11_house_7 : decode cX11_house 7 = .ok (.lconst 0, 1) := by decide +kernel
theorem dX11_house_8 : decode cX11_house 8 = .ok (.aload_n 0, 1) := by decide +kernel
theorem dX11_house_9 : decode cX11_house 9 = .ok (.getfield 202, 3) := by decide +kernel
theorem dX11_house_12 : decode cX11_house 12 = .ok (.iconst 1, 1) := by decide +kernel
theorem dX11_house_13 : decode cX11_house 13 = .ok (.isub, 1) := by decide +kernel
theorem dX11_house_14 : decode cX11_house 14 = .ok (.i2l, 1) := by decide +kernel
theorem dX11_house_15 : decode cX11_house 15 = .ok (.invokestatic 126, 3) := by decide +kernel
theorem dX11_house_18 : decode cX11_house 18 = .ok (.ifCond .eq 15, 3) := by decide +kernel
theorem dX11_house_21 : decode cX11_house 21 = .ok (.iload_n 2, 1) := by decide +kernel
theorem dX11_house_22 : decode cX11_house 22 = .ok (.i2l, 1) := by decide +kernel
theorem dX11_house_23 : decode cX11_house 23 = .ok (.lconst 0, 1) := by decide +kernel
theorem dX11_house_24 : decode cX11_house 24 = .ok (.ldc2_w 308, 3) := by decide +kernel
theorem dX11_house_27 : decode cX11_house 27 = .ok (.invokestatic 126, 3) := by decide +kernel
theorem dX11_house_30 : decode cX11_house 30 = .ok (.ifCond .ne 8, 3) := by decide +kernel
theorem dX11_house_33 : decode cX11_house 33 = .ok (.ldc 136, 2) := by decide +kernel
theorem dX11_house_35 : decode cX11_house 35 = .ok (.goto 14, 3) := by decide +kernel
theorem dX11_house_38 : decode cX11_house 38 = .ok (.aload_n 0, 1) := by decide +kernel
theorem dX11_house_39 : decode cX11_house 39 = .ok (.getfield 91, 3) := by decide +kernel
theorem dX11_house_42 : decode cX11_house 42 = .ok (.bipush 11, 2) := by decide +kernel
theorem dX11_house_44 : decode cX11_house 44 = .ok (.iload_n 1, 1) := by decide +kernel
theorem dX11_house_45 : decode cX11_house 45 = .ok (.imul, 1) := by decide +kernel
theorem dX11_house_46 : decode cX11_house 46 = .ok (.iload_n 2, 1) := by decide +kernel
theorem dX11_house_47 : decode cX11_house 47 = .ok (.iadd, 1) := by decide +kernel
theorem dX11_house_48 : decode cX11_house 48 = .ok (.iaload, 1) := by decide +kernel
theorem dX11_house_49 : decode cX11_house 49 = .ok (.ireturn, 1) := by decide +kernel
theorem dX11_sell_0 : decode cX11_sell 0 = .ok (.bipush 11, 2) := by decide +kernel
theorem dX11_sell_2 : decode cX11_sell 2 = .ok (.iload_n 1, 1) := by decide +kernel
theorem dX11_sell_3 : decode cX11_sell 3 = .ok (.imul, 1) := by decide +kernel
theorem dX11_sell_4 : decode cX11_sell 4 = .ok (.istore_n 3, 1) := by decide +kernel
theorem dX11_sell_5 : decode cX11_sell 5 = .ok (.aload_n 0, 1) := by decide +kernel
theorem dX11_sell_6 : decode cX11_sell 6 = .ok (.getfield 91, 3) := by decide +kernel
theorem dX11_sell_9 : decode cX11_sell 9 = .ok (.iload_n 3, 1) := by decide +kernel
theorem dX11_sell_10 : decode cX11_sell 10 = .ok (.iconst 3, 1) := by decide +kernel
theorem dX11_sell_11 : decode cX11_sell 11 = .ok (.iadd, 1) := by decide +kernel
theorem dX11_sell_12 : decode cX11_sell 12 = .ok (.iaload, 1) := by decide +kernel
theorem dX11_sell_13 : decode cX11_sell 13 = .ok (.ifCond .ge 35, 3) := by decide +kernel
theorem dX11_sell_16 : decode cX11_sell 16 = .ok (.aload_n 0, 1) := by decide +kernel
theorem dX11_sell_17 : decode cX11_sell 17 = .ok (.getfield 91, 3) := by decide +kernel
theorem dX11_sell_20 : decode cX11_sell 20 = .ok (.iload_n 3, 1) := by decide +kernel
theorem dX11_sell_21 : decode cX11_sell 21 = .ok (.iconst 3, 1) := by decide +kernel
theorem dX11_sell_22 : decode cX11_sell 22 = .ok (.iadd, 1) := by decide +kernel
theorem dX11_sell_23 : decode cX11_sell 23 = .ok (.dup2, 1) := by decide +kernel
theorem dX11_sell_24 : decode cX11_sell 24 = .ok (.iaload, 1) := by decide +kernel
theorem dX11_sell_25 : decode cX11_sell 25 = .ok (.aload_n 0, 1) := by decide +kernel
theorem dX11_sell_26 : decode cX11_sell 26 = .ok (.getfield 91, 3) := by decide +kernel
theorem dX11_sell_29 : decode cX11_sell 29 = .ok (.iload_n 3, 1) := by decide +kernel
theorem dX11_sell_30 : decode cX11_sell 30 = .ok (.iconst 5, 1) := by decide +kernel
theorem dX11_sell_31 : decode cX11_sell 31 = .ok (.iadd, 1) := by decide +kernel
theorem dX11_sell_32 : decode cX11_sell 32 = .ok (.iload_n 2, 1) := by decide +kernel
theorem dX11_sell_33 : decode cX11_sell 33 = .ok (.iadd, 1) := by decide +kernel
theorem dX11_sell_34 : decode cX11_sell 34 = .ok (.iaload, 1) := by decide +kernel
theorem dX11_sell_35 : decode cX11_sell 35 = .ok (.iadd, 1) := by decide +kernel
theorem dX11_sell_36 : decode cX11_sell 36 = .ok (.iastore, 1) := by decide +kernel
theorem dX11_sell_37 : decode cX11_sell 37 = .ok (.aload_n 0, 1) := by decide +kernel
theorem dX11_sell_38 : decode cX11_sell 38 = .ok (.getfield 91, 3) := by decide +kernel
theorem dX11_sell_41 : decode cX11_sell 41 = .ok (.iload_n 3, 1) := by decide +kernel
theorem dX11_sell_42 : decode cX11_sell 42 = .ok (.iconst 5, 1) := by decide +kernel
theorem dX11_sell_43 : decode cX11_sell 43 = .ok (.iadd, 1) := by decide +kernel
theorem dX11_sell_44 : decode cX11_sell 44 = .ok (.iload_n 2, 1) := by decide +kernel
theorem dX11_sell_45 : decode cX11_sell 45 = .ok (.iadd, 1) := by decide +kernel
theorem dX11_sell_46 : decode cX11_sell 46 = .ok (.iconst 0, 1) := by decide +kernel
theorem dX11_sell_47 : decode cX11_sell 47 = .ok (.iastore, 1) := by decide +kernel
theorem dX11_sell_48 : decode cX11_sell 48 = .ok (.return_, 1) := by decide +kernel
theorem dX11_live_0 : decode cX11_live 0 = .ok (.bipush 11, 2) := by decide +kernel
theorem dX11_live_2 : decode cX11_live 2 = .ok (.iload_n 1, 1) := by decide +kernel
theorem dX11_live_3 : decode cX11_live 3 = .ok (.imul, 1) := by decide +kernel
theorem dX11_live_4 : decode cX11_live 4 = .ok (.istore_n 2, 1) := by decide +kernel
theorem dX11_live_5 : decode cX11_live 5 = .ok (.aload_n 0, 1) := by decide +kernel
theorem dX11_live_6 : decode cX11_live 6 = .ok (.aload_n 0, 1) := by decide +kernel
theorem dX11_live_7 : decode cX11_live 7 = .ok (.getfield 188, 3) := by decide +kernel
theorem dX11_live_10 : decode cX11_live 10 = .ok (.invokevirtual 305, 3) := by decide +kernel
theorem dX11_live_13 : decode cX11_live 13 = .ok (.istore_n 3, 1) := by decide +kernel
theorem dX11_live_14 : decode cX11_live 14 = .ok (.aload_n 0, 1) := by decide +kernel
theorem dX11_live_15 : decode cX11_live 15 = .ok (.getfield 91, 3) := by decide +kernel
theorem dX11_live_18 : decode cX11_live 18 = .ok (.iload_n 2, 1) := by decide +kernel
theorem dX11_live_19 : decode cX11_live 19 = .ok (.iaload, 1) := by decide +kernel
theorem dX11_live_20 : decode cX11_live 20 = .ok (.aload_n 0, 1) := by decide +kernel
theorem dX11_live_21 : decode cX11_live 21 = .ok (.getfield 145, 3) := by decide +kernel
theorem dX11_live_24 : decode cX11_live 24 = .ok (.if_icmp .ge 25, 3) := by decide +kernel
theorem dX11_live_27 : decode cX11_live 27 = .ok (.aload_n 0, 1) := by decide +kernel
theorem dX11_live_28 : decode cX11_live 28 = .ok (.getfield 66, 3) := by decide +kernel
theorem dX11_live_31 : decode cX11_live 31 = .ok (.bipush 100, 2) := by decide +kernel
theorem dX11_live_33 : decode cX11_live 33 = .ok (.aload_n 0, 1) := by decide +kernel
theorem dX11_live_34 : decode cX11_live 34 = .ok (.getfield 91, 3) := by decide +kernel
theorem dX11_live_37 : decode cX11_live 37 = .ok (.iload_n 2, 1) := by decide +kernel
theorem dX11_live_38 : decode cX11_live 38 = .ok (.iaload, 1) := by decide +kernel
theorem dX11_live_39 : decode cX11_live 39 = .ok (.imul, 1) := by decide +kernel
theorem dX11_live_40 : decode cX11_live 40 = .ok (.aload_n 0, 1) := by decide +kernel
theorem dX11_live_41 : decode cX11_live 41 = .ok (.getfield 188, 3) := by decide +kernel
theorem dX11_live_44 : decode cX11_live 44 = .ok (.iadd, 1) := by decide +kernel
theorem dX11_live_45 : decode cX11_live 45 = .ok (.iaload, 1) := by decide +kernel
theorem dX11_live_46 : decode cX11_live 46 = .ok (.goto 5, 3) := by decide +kernel
theorem dX11_live_49 : decode cX11_live 49 = .ok (.ldc 69, 2) := by decide +kernel
theorem dX11_live_51 : decode cX11_live 51 = .ok (.istore 4, 2) := by decide +kernel
theorem dX11_live_53 : decode cX11_live 53 = .ok (.aload_n 0, 1) := by decide +kernel
theorem dX11_live_54 : decode cX11_live 54 = .ok (.getfield 91, 3) := by decide +kernel
theorem dX11_live_57 : decode cX11_live 57 = .ok (.iload_n 2, 1) := by decide +kernel
theorem dX11_live_58 : decode cX11_live 58 = .ok (.iconst 3, 1) := by decide +kernel
theorem dX11_live_59 : decode cX11_live 59 = .ok (.iadd, 1) := by decide +kernel
theorem dX11_live_60 : decode cX11_live 60 = .ok (.dup2, 1) := by decide +kernel
theorem dX11_live_61 : decode cX11_live 61 = .ok (.iaload, 1) := by decide +kernel
theorem dX11_live_62 : decode cX11_live 62 = .ok (.iload 4, 2) := by decide +kernel
theorem dX11_live_64 : decode cX11_live 64 = .ok (.ldc 69, 2) := by decide +kernel
theorem dX11_live_66 : decode cX11_live 66 = .ok (.if_icmp .ne 7, 3) := by decide +kernel
theorem dX11_live_69 : decode cX11_live 69 = .ok (.iconst 0, 1) := by decide +kernel
theorem dX11_live_70 : decode cX11_live 70 = .ok (.goto 22, 3) := by decide +kernel
theorem dX11_live_73 : decode cX11_live 73 = .ok (.aload_n 0, 1) := by decide +kernel
theorem dX11_live_74 : decode cX11_live 74 = .ok (.getfield 91, 3) := by decide +kernel
theorem dX11_live_77 : decode cX11_live 77 = .ok (.iload_n 2, 1) := by decide +kernel
theorem dX11_live_78 : decode cX11_live 78 = .ok (.iconst 2, 1) := by decide +kernel
theorem dX11_live_79 : decode cX11_live 79 = .ok (.iadd, 1) := by decide +kernel
theorem dX11_live_80 : decode cX11_live 80 = .ok (.iaload, 1) := by decide +kernel
theorem dX11_live_81 : decode cX11_live 81 = .ok (.aload_n 0, 1) := by decide +kernel
theorem dX11_live_82 : decode cX11_live 82 = .ok (.iload 4, 2) := by decide +kernel
theorem dX11_live_84 : decode cX11_live 84 = .ok (.aload_n 0, 1) := by decide +kernel
theorem dX11_live_85 : decode cX11_live 85 = .ok (.getfield 188, 3) := by decide +kernel
theorem dX11_live_88 : decode cX11_live 88 = .ok (.invokevirtual 312, 3) := by decide +kernel
theorem dX11_live_91 : decode cX11_live 91 = .ok (.imul, 1) := by decide +kernel
theorem dX11_live_92 : decode cX11_live 92 = .ok (.aload_n 0, 1) := by decide +kernel
theorem dX11_live_93 : decode cX11_live 93 = .ok (.getfield 91, 3) := by decide +kernel
theorem dX11_live_96 : decode cX11_live 96 = .ok (.iload_n 2, 1) := by decide +kernel
theorem dX11_live_97 : decode cX11_live 97 = .ok (.iconst 1, 1) := by decide +kernel
theorem dX11_live_98 : decode cX11_live 98 = .ok (.iadd, 1) := by decide +kernel
theorem dX11_live_99 : decode cX11_live 99 = .ok (.iaload, 1) := by decide +kernel
theorem dX11_live_100 : decode cX11_live 100 = .ok (.aload_n 0, 1) := by decide +kernel
theorem dX11_live_101 : decode cX11_live 101 = .ok (.aload_n 0, 1) := by decide +kernel
theorem dX11_live_102 : decode cX11_live 102 = .ok (.getfield 188, 3) := by decide +kernel
theorem dX11_live_105 : decode cX11_live 105 = .ok (.iconst 3, 1) := by decide +kernel
theorem dX11_live_106 : decode cX11_live 106 = .ok (.iconst 0, 1) := by decide +kernel
theorem dX11_live_107 : decode cX11_live 107 = .ok (.invokevirtual 298, 3) := by decide +kernel
theorem dX11_live_110 : decode cX11_live 110 = .ok (.imul, 1) := by decide +kernel
theorem dX11_live_111 : decode cX11_live 111 = .ok (.isub, 1) := by decide +kernel
theorem dX11_live_112 : decode cX11_live 112 = .ok (.aload_n 0, 1) := by decide +kernel
theorem dX11_live_113 : decode cX11_live 113 = .ok (.getfield 91, 3) := by decide +kernel
theorem dX11_live_116 : decode cX11_live 116 = .ok (.iload_n 2, 1) := by decide +kernel
theorem dX11_live_117 : decode cX11_live 117 = .ok (.iconst 4, 1) := by decide +kernel
theorem dX11_live_118 : decode cX11_live 118 = .ok (.iadd, 1) := by decide +kernel
theorem dX11_live_119 : decode cX11_live 119 = .ok (.iaload, 1) := by decide +kernel
theorem dX11_live_120 : decode cX11_live 120 = .ok (.isub, 1) := by decide +kernel
theorem dX11_live_121 : decode cX11_live 121 = .ok (.iadd, 1) := by decide +kernel
theorem dX11_live_122 : decode cX11_live 122 = .ok (.iastore, 1) := by decide +kernel
theorem dX11_live_123 : decode cX11_live 123 = .ok (.iload 4, 2) := by decide +kernel
theorem dX11_live_125 : decode cX11_live 125 = .ok (.ldc 69, 2) := by decide +kernel
theorem dX11_live_127 : decode cX11_live 127 = .ok (.if_icmp .ne 125, 3) := by decide +kernel
theorem dX11_live_130 : decode cX11_live 130 = .ok (.aload_n 0, 1) := by decide +kernel
theorem dX11_live_131 : decode cX11_live 131 = .ok (.getfield 91, 3) := by decide +kernel
theorem dX11_live_134 : decode cX11_live 134 = .ok (.iload_n 2, 1) := by decide +kernel
theorem dX11_live_135 : decode cX11_live 135 = .ok (.iconst 3, 1) := by decide +kernel
theorem dX11_live_136 : decode cX11_live 136 = .ok (.iadd, 1) := by decide +kernel
theorem dX11_live_137 : decode cX11_live 137 = .ok (.iaload, 1) := by decide +kernel
theorem dX11_live_138 : decode cX11_live 138 = .ok (.istore 5, 2) := by decide +kernel
theorem dX11_live_140 : decode cX11_live 140 = .ok (.iconst 0, 1) := by decide +kernel
theorem dX11_live_141 : decode cX11_live 141 = .ok (.istore 6, 2) := by decide +kernel
theorem dX11_live_143 : decode cX11_live 143 = .ok (.iload 6, 2) := by decide +kernel
theorem dX11_live_145 : decode cX11_live 145 = .ok (.iconst 4, 1) := by decide +kernel
theorem dX11_live_146 : decode cX11_live 146 = .ok (.if_icmp .ge 39, 3) := by decide +kernel
theorem dX11_live_149 : decode cX11_live 149 = .ok (.iload 5, 2) := by decide +kernel
theorem dX11_live_151 : decode cX11_live 151 = .ok (.iload_n 3, 1) := by decide +kernel
theorem dX11_live_152 : decode cX11_live 152 = .ok (.iload 6, 2) := by decide +kernel
theorem dX11_live_154 : decode cX11_live 154 = .ok (.ishr, 1) := by decide +kernel
theorem dX11_live_155 : decode cX11_live 155 = .ok (.iconst 1, 1) := by decide +kernel
theorem dX11_live_156 : decode cX11_live 156 = .ok (.iand, 1) := by decide +kernel
theorem dX11_live_157 : decode cX11_live 157 = .ok (.iconst 1, 1) := by decide +kernel
theorem dX11_live_158 : decode cX11_live 158 = .ok (.if_icmp .ne 17, 3) := by decide +kernel
theorem dX11_live_161 : decode cX11_live 161 = .ok (.aload_n 0, 1) := by decide +kernel
theorem dX11_live_162 : decode cX11_live 162 = .ok (.getfield 91, 3) := by decide +kernel
theorem dX11_live_165 : decode cX11_live 165 = .ok (.iload_n 2, 1) := by decide +kernel
theorem dX11_live_166 : decode cX11_live 166 = .ok (.iconst 5, 1) := by decide +kernel
theorem dX11_live_167 : decode cX11_live 167 = .ok (.iadd, 1) := by decide +kernel
theorem dX11_live_168 : decode cX11_live 168 = .ok (.iload 6, 2) := by decide +kernel
theorem dX11_live_170 : decode cX11_live 170 = .ok (.iadd, 1) := by decide +kernel
theorem dX11_live_171 : decode cX11_live 171 = .ok (.iaload, 1) := by decide +kernel
theorem dX11_live_172 : decode cX11_live 172 = .ok (.goto 4, 3) := by decide +kernel
theorem dX11_live_175 : decode cX11_live 175 = .ok (.iconst 0, 1) := by decide +kernel
theorem dX11_live_176 : decode cX11_live 176 = .ok (.iadd, 1) := by decide +kernel
theorem dX11_live_177 : decode cX11_live 177 = .ok (.istore 5, 2) := by decide +kernel
theorem dX11_live_179 : decode cX11_live 179 = .ok (.iinc 6 1, 3) := by decide +kernel
theorem dX11_live_182 : decode cX11_live 182 = .ok (.goto (-39), 3) := by decide +kernel
theorem dX11_live_185 : decode cX11_live 185 = .ok (.iload 5, 2) := by decide +kernel
theorem dX11_live_187 : decode cX11_live 187 = .ok (.aload_n 0, 1) := by decide +kernel
theorem dX11_live_188 : decode cX11_live 188 = .ok (.aload_n 0, 1) := by decide +kernel
theorem dX11_live_189 : decode cX11_live 189 = .ok (.getfield 188, 3) := by decide +kernel
theorem dX11_live_192 : decode cX11_live 192 = .ok (.iconst 2, 1) := by decide +kernel
theorem dX11_live_193 : decode cX11_live 193 = .ok (.iconst 0, 1) := by decide +kernel
theorem dX11_live_194 : decode cX11_live 194 = .ok (.invokevirtual 298, 3) := by decide +kernel
theorem dX11_live_197 : decode cX11_live 197 = .ok (.if_icmp .gt 25, 3) := by decide +kernel
theorem dX11_live_200 : decode cX11_live 200 = .ok (.aload_n 0, 1) := by decide +kernel
theorem dX11_live_201 : decode cX11_live 201 = .ok (.aload_n 0, 1) := by decide +kernel
theorem dX11_live_202 : decode cX11_live 202 = .ok (.getfield 188, 3) := by decide +kernel
theorem dX11_live_205 : decode cX11_live 205 = .ok (.iconst 1, 1) := by decide +kernel
theorem dX11_live_206 : decode cX11_live 206 = .ok (.iconst 0, 1) := by decide +kernel
theorem dX11_live_207 : decode cX11_live 207 = .ok (.invokevirtual 298, 3) := by decide +kernel
theorem dX11_live_210 : decode cX11_live 210 = .ok (.aload_n 0, 1) := by decide +kernel
theorem dX11_live_211 : decode cX11_live 211 = .ok (.getfield 91, 3) := by decide +kernel
theorem dX11_live_214 : decode cX11_live 214 = .ok (.iload_n 2, 1) := by decide +kernel
theorem dX11_live_215 : decode cX11_live 215 = .ok (.iconst 1, 1) := by decide +kernel
theorem dX11_live_216 : decode cX11_live 216 = .ok (.iadd, 1) := by decide +kernel
theorem dX11_live_217 : decode cX11_live 217 = .ok (.iaload, 1) := by decide +kernel
theorem dX11_live_218 : decode cX11_live 218 = .ok (.imul, 1) := by decide +kernel
theorem dX11_live_219 : decode cX11_live 219 = .ok (.goto 4, 3) := by decide +kernel
theorem dX11_live_222 : decode cX11_live 222 = .ok (.iconst 0, 1) := by decide +kernel
theorem dX11_live_223 : decode cX11_live 223 = .ok (.istore 6, 2) := by decide +kernel
theorem dX11_live_225 : decode cX11_live 225 = .ok (.aload_n 0, 1) := by decide +kernel
theorem dX11_live_226 : decode cX11_live 226 = .ok (.getfield 91, 3) := by decide +kernel
theorem dX11_live_229 : decode cX11_live 229 = .ok (.iload_n 2, 1) := by decide +kernel
theorem dX11_live_230 : decode cX11_live 230 = .ok (.iconst 3, 1) := by decide +kernel
theorem dX11_live_231 : decode cX11_live 231 = .ok (.iadd, 1) := by decide +kernel
theorem dX11_live_232 : decode cX11_live 232 = .ok (.dup2, 1) := by decide +kernel
theorem dX11_live_233 : decode cX11_live 233 = .ok (.iaload, 1) := by decide +kernel
theorem dX11_live_234 : decode cX11_live 234 = .ok (.iload 6, 2) := by decide +kernel
theorem dX11_live_236 : decode cX11_live 236 = .ok (.iadd, 1) := by decide +kernel
theorem dX11_live_237 : decode cX11_live 237 = .ok (.iastore, 1) := by decide +kernel
theorem dX11_live_238 : decode cX11_live 238 = .ok (.aload_n 0, 1) := by decide +kernel
theorem dX11_live_239 : decode cX11_live 239 = .ok (.getfield 91, 3) := by decide +kernel
theorem dX11_live_242 : decode cX11_live 242 = .ok (.iload_n 2, 1) := by decide +kernel
theorem dX11_live_243 : decode cX11_live 243 = .ok (.bipush 10, 2) := by decide +kernel
theorem dX11_live_245 : decode cX11_live 245 = .ok (.iadd, 1) := by decide +kernel
theorem dX11_live_246 : decode cX11_live 246 = .ok (.dup2, 1) := by decide +kernel
theorem dX11_live_247 : decode cX11_live 247 = .ok (.iaload, 1) := by decide +kernel
theorem dX11_live_248 : decode cX11_live 248 = .ok (.iload 6, 2) := by decide +kernel
theorem dX11_live_250 : decode cX11_live 250 = .ok (.iadd, 1) := by decide +kernel
theorem dX11_live_251 : decode cX11_live 251 = .ok (.iastore, 1) := by decide +kernel
theorem dX11_live_252 : decode cX11_live 252 = .ok (.iconst 0, 1) := by decide +kernel
theorem dX11_live_253 : decode cX11_live 253 = .ok (.istore 5, 2) := by decide +kernel
theorem dX11_live_255 : decode cX11_live 255 = .ok (.iload 5, 2) := by decide +kernel
theorem dX11_live_257 : decode cX11_live 257 = .ok (.aload_n 0, 1) := by decide +kernel
theorem dX11_live_258 : decode cX11_live 258 = .ok (.getfield 302, 3) := by decide +kernel
theorem dX11_live_261 : decode cX11_live 261 = .ok (.if_icmp .ge 21, 3) := by decide +kernel
theorem dX11_live_264 : decode cX11_live 264 = .ok (.aload_n 0, 1) := by decide +kernel
theorem dX11_live_265 : decode cX11_live 265 = .ok (.iload_n 1, 1) := by decide +kernel
theorem dX11_live_266 : decode cX11_live 266 = .ok (.aload_n 0, 1) := by decide +kernel
theorem dX11_live_267 : decode cX11_live 267 = .ok (.getfield 88, 3) := by decide +kernel
theorem dX11_live_270 : decode cX11_live 270 = .ok (.iload 5, 2) := by decide +kernel
theorem dX11_live_272 : decode cX11_live 272 = .ok (.iaload, 1) := by decide +kernel
theorem dX11_live_273 : decode cX11_live 273 = .ok (.invokevirtual 323, 3) := by decide +kernel
theorem dX11_live_276 : decode cX11_live 276 = .ok (.iinc 5 1, 3) := by decide +kernel
theorem dX11_live_279 : decode cX11_live 279 = .ok (.goto (-24), 3) := by decide +kernel
theorem dX11_live_282 : decode cX11_live 282 = .ok (.iconst 0, 1) := by decide +kernel
theorem dX11_live_283 : decode cX11_live 283 = .ok (.istore 5, 2) := by decide +kernel
theorem dX11_live_285 : decode cX11_live 285 = .ok (.iload 5, 2) := by decide +kernel
theorem dX11_live_287 : decode cX11_live 287 = .ok (.iconst 4, 1) := by decide +kernel
theorem dX11_live_288 : decode cX11_live 288 = .ok (.if_icmp .ge 16, 3) := by decide +kernel
theorem dX11_live_291 : decode cX11_live 291 = .ok (.aload_n 0, 1) := by decide +kernel
theorem dX11_live_292 : decode cX11_live 292 = .ok (.iload_n 1, 1) := by decide +kernel
theorem dX11_live_293 : decode cX11_live 293 = .ok (.iload 5, 2) := by decide +kernel
theorem dX11_live_295 : decode cX11_live 295 = .ok (.invokevirtual 323, 3) := by decide +kernel
theorem dX11_live_298 : decode cX11_live 298 = .ok (.iinc 5 1, 3) := by decide +kernel
theorem dX11_live_301 : decode cX11_live 301 = .ok (.goto (-16), 3) := by decide +kernel
theorem dX11_live_304 : decode cX11_live 304 = .ok (.aload_n 0, 1) := by decide +kernel
theorem dX11_live_305 : decode cX11_live 305 = .ok (.getfield 91, 3) := by decide +kernel
theorem dX11_live_308 : decode cX11_live 308 = .ok (.iload_n 2, 1) := by decide +kernel
theorem dX11_live_309 : decode cX11_live 309 = .ok (.iconst 3, 1) := by decide +kernel
theorem dX11_live_310 : decode cX11_live 310 = .ok (.iadd, 1) := by decide +kernel
theorem dX11_live_311 : decode cX11_live 311 = .ok (.iaload, 1) := by decide +kernel
theorem dX11_live_312 : decode cX11_live 312 = .ok (.ifCond .ge 25, 3) := by decide +kernel
theorem dX11_live_315 : decode cX11_live 315 = .ok (.aload_n 0, 1) := by decide +kernel
theorem dX11_live_316 : decode cX11_live 316 = .ok (.getfield 91, 3) := by decide +kernel
theorem dX11_live_319 : decode cX11_live 319 = .ok (.iload_n 2, 1) := by decide +kernel
theorem dX11_live_320 : decode cX11_live 320 = .ok (.iconst 3, 1) := by decide +kernel
theorem dX11_live_321 : decode cX11_live 321 = .ok (.iadd, 1) := by decide +kernel
theorem dX11_live_322 : decode cX11_live 322 = .ok (.iconst 0, 1) := by decide +kernel
theorem dX11_live_323 : decode cX11_live 323 = .ok (.iastore, 1) := by decide +kernel
theorem dX11_live_324 : decode cX11_live 324 = .ok (.aload_n 0, 1) := by decide +kernel
theorem dX11_live_325 : decode cX11_live 325 = .ok (.getfield 91, 3) := by decide +kernel
theorem dX11_live_328 : decode cX11_live 328 = .ok (.iload_n 2, 1) := by decide +kernel
theorem dX11_live_329 : decode cX11_live 329 = .ok (.bipush 9, 2) := by decide +kernel
theorem dX11_live_331 : decode cX11_live 331 = .ok (.iadd, 1) := by decide +kernel
theorem dX11_live_332 : decode cX11_live 332 = .ok (.dup2, 1) := by decide +kernel
theorem dX11_live_333 : decode cX11_live 333 = .ok (.iaload, 1) := by decide +kernel
theorem dX11_live_334 : decode cX11_live 334 = .ok (.iconst 1, 1) := by decide +kernel
theorem dX11_live_335 : decode cX11_live 335 = .ok (.iadd, 1) := by decide +kernel
theorem dX11_live_336 : decode cX11_live 336 = .ok (.iastore, 1) := by decide +kernel
theorem dX11_live_337 : decode cX11_live 337 = .ok (.return_, 1) := by decide +kernel
theorem dX11_paid_0 : decode cX11_paid 0 = .ok (.aload_n 0, 1) := by decide +kernel
theorem dX11_paid_1 : decode cX11_paid 1 = .ok (.iconst 0, 1) := by decide +kernel
theorem dX11_paid_2 : decode cX11_paid 2 = .ok (.putfield 1, 3) := by decide +kernel
theorem dX11_paid_5 : decode cX11_paid 5 = .ok (.iload_n 1, 1) := by decide +kernel
theorem dX11_paid_6 : decode cX11_paid 6 = .ok (.invokestatic 130, 3) := by decide +kernel
theorem dX11_paid_9 : decode cX11_paid 9 = .ok (.ifCond .eq 27, 3) := by decide +kernel
theorem dX11_paid_12 : decode cX11_paid 12 = .ok (.iload_n 3, 1) := by decide +kernel
theorem dX11_paid_13 : decode cX11_paid 13 = .ok (.i2l, 1) := by decide +kernel
theorem dX11_paid_14 : decode cX11_paid 14 = .ok (.lconst 1, 1) := by decide +kernel
theorem dX11_paid_15 : decode cX11_paid 15 = .ok (.ldc2_w 215, 3) := by decide +kernel
theorem dX11_paid_18 : decode cX11_paid 18 = .ok (.invokestatic 126, 3) := by decide +kernel
theorem dX11_paid_21 : decode cX11_paid 21 = .ok (.ifCond .eq 15, 3) := by decide +kernel
theorem dX11_paid_24 : decode cX11_paid 24 = .ok (.iload 4, 2) := by decide +kernel
theorem dX11_paid_26 : decode cX11_paid 26 = .ok (.i2l, 1) := by decide +kernel
theorem dX11_paid_27 : decode cX11_paid 27 = .ok (.lconst 0, 1) := by decide +kernel
theorem dX11_paid_28 : decode cX11_paid 28 = .ok (.iload_n 3, 1) := by decide +kernel
theorem dX11_paid_29 : decode cX11_paid 29 = .ok (.i2l, 1) := by decide +kernel
theorem dX11_paid_30 : decode cX11_paid 30 = .ok (.invokestatic 126, 3) := by decide +kernel
theorem dX11_paid_33 : decode cX11_paid 33 = .ok (.ifCond .ne 6, 3) := by decide +kernel
theorem dX11_paid_36 : decode cX11_paid 36 = .ok (.ldc 136, 2) := by decide +kernel
theorem dX11_paid_38 : decode cX11_paid 38 = .ok (.ireturn, 1) := by decide +kernel
theorem dX11_paid_39 : decode cX11_paid 39 = .ok (.aload_n 0, 1) := by decide +kernel
theorem dX11_paid_40 : decode cX11_paid 40 = .ok (.iload_n 1, 1) := by decide +kernel
theorem dX11_paid_41 : decode cX11_paid 41 = .ok (.iload_n 2, 1) := by decide +kernel
theorem dX11_paid_42 : decode cX11_paid 42 = .ok (.iload_n 3, 1) := by decide +kernel
theorem dX11_paid_43 : decode cX11_paid 43 = .ok (.iload_n 3, 1) := by decide +kernel
theorem dX11_paid_44 : decode cX11_paid 44 = .ok (.iload_n 3, 1) := by decide +kernel
theorem dX11_paid_45 : decode cX11_paid 45 = .ok (.imul, 1) := by decide +kernel
theorem dX11_paid_46 : decode cX11_paid 46 = .ok (.iadd, 1) := by decide +kernel
theorem dX11_paid_47 : decode cX11_paid 47 = .ok (.invokevirtual 316, 3) := by decide +kernel
theorem dX11_paid_50 : decode cX11_paid 50 = .ok (.istore 5, 2) := by decide +kernel
theorem dX11_paid_52 : decode cX11_paid 52 = .ok (.iload 5, 2) := by decide +kernel
theorem dX11_paid_54 : decode cX11_paid 54 = .ok (.ifCond .ge 6, 3) := by decide +kernel
theorem dX11_paid_57 : decode cX11_paid 57 = .ok (.iload 5, 2) := by decide +kernel
theorem dX11_paid_59 : decode cX11_paid 59 = .ok (.ireturn, 1) := by decide +kernel
theorem dX11_paid_60 : decode cX11_paid 60 = .ok (.bipush 80, 2) := by decide +kernel
theorem dX11_paid_62 : decode cX11_paid 62 = .ok (.iload_n 1, 1) := by decide +kernel
theorem dX11_paid_63 : decode cX11_paid 63 = .ok (.imul, 1) := by decide +kernel
theorem dX11_paid_64 : decode cX11_paid 64 = .ok (.iload_n 2, 1) := by decide +kernel
theorem dX11_paid_65 : decode cX11_paid 65 = .ok (.iadd, 1) := by decide +kernel
theorem dX11_paid_66 : decode cX11_paid 66 = .ok (.istore 6, 2) := by decide +kernel
theorem dX11_paid_68 : decode cX11_paid 68 = .ok (.iconst 0, 1) := by decide +kernel
theorem dX11_paid_69 : decode cX11_paid 69 = .ok (.istore 7, 2) := by decide +kernel
theorem dX11_paid_71 : decode cX11_paid 71 = .ok (.iload 7, 2) := by decide +kernel
theorem dX11_paid_73 : decode cX11_paid 73 = .ok (.iload_n 3, 1) := by decide +kernel
theorem dX11_paid_74 : decode cX11_paid 74 = .ok (.iload_n 3, 1) := by decide +kernel
theorem dX11_paid_75 : decode cX11_paid 75 = .ok (.iload_n 3, 1) := by decide +kernel
theorem dX11_paid_76 : decode cX11_paid 76 = .ok (.imul, 1) := by decide +kernel
theorem dX11_paid_77 : decode cX11_paid 77 = .ok (.iadd, 1) := by decide +kernel
theorem dX11_paid_78 : decode cX11_paid 78 = .ok (.if_icmp .ge 70, 3) := by decide +kernel
theorem dX11_paid_81 : decode cX11_paid 81 = .ok (.iload 7, 2) := by decide +kernel
theorem dX11_paid_83 : decode cX11_paid 83 = .ok (.iload_n 3, 1) := by decide +kernel
theorem dX11_paid_84 : decode cX11_paid 84 = .ok (.if_icmp .lt 22, 3) := by decide +kernel
theorem dX11_paid_87 : decode cX11_paid 87 = .ok (.iload 7, 2) := by decide +kernel
theorem dX11_paid_89 : decode cX11_paid 89 = .ok (.iload_n 3, 1) := by decide +kernel
theorem dX11_paid_90 : decode cX11_paid 90 = .ok (.isub, 1) := by decide +kernel
theorem dX11_paid_91 : decode cX11_paid 91 = .ok (.iload_n 3, 1) := by decide +kernel
theorem dX11_paid_92 : decode cX11_paid 92 = .ok (.idiv, 1) := by decide +kernel
theorem dX11_paid_93 : decode cX11_paid 93 = .ok (.iload 7, 2) := by decide +kernel
theorem dX11_paid_95 : decode cX11_paid 95 = .ok (.iload_n 3, 1) := by decide +kernel
theorem dX11_paid_96 : decode cX11_paid 96 = .ok (.isub, 1) := by decide +kernel
theorem dX11_paid_97 : decode cX11_paid 97 = .ok (.iload_n 3, 1) := by decide +kernel
theorem dX11_paid_98 : decode cX11_paid 98 = .ok (.irem, 1) := by decide +kernel
theorem dX11_paid_99 : decode cX11_paid 99 = .ok (.if_icmp .ne 7, 3) := by decide +kernel
theorem dX11_paid_102 : decode cX11_paid 102 = .ok (.iconst 1, 1) := by decide +kernel
theorem dX11_paid_103 : decode cX11_paid 103 = .ok (.goto 4, 3) := by decide +kernel
theorem dX11_paid_106 : decode cX11_paid 106 = .ok (.iconst 0, 1) := by decide +kernel
theorem dX11_paid_107 : decode cX11_paid 107 = .ok (.istore 8, 2) := by decide +kernel
theorem dX11_paid_109 : decode cX11_paid 109 = .ok (.aload_n 0, 1) := by decide +kernel
theorem dX11_paid_110 : decode cX11_paid 110 = .ok (.getfield 24, 3) := by decide +kernel
theorem dX11_paid_113 : decode cX11_paid 113 = .ok (.iload 6, 2) := by decide +kernel
theorem dX11_paid_115 : decode cX11_paid 115 = .ok (.iload 7, 2) := by decide +kernel
theorem dX11_paid_117 : decode cX11_paid 117 = .ok (.iadd, 1) := by decide +kernel
theorem dX11_paid_118 : decode cX11_paid 118 = .ok (.iaload, 1) := by decide +kernel
theorem dX11_paid_119 : decode cX11_paid 119 = .ok (.i2l, 1) := by decide +kernel
theorem dX11_paid_120 : decode cX11_paid 120 = .ok (.lconst 0, 1) := by decide +kernel
theorem dX11_paid_121 : decode cX11_paid 121 = .ok (.iload 8, 2) := by decide +kernel
theorem dX11_paid_123 : decode cX11_paid 123 = .ok (.ifCond .eq 7, 3) := by decide +kernel
theorem dX11_paid_126 : decode cX11_paid 126 = .ok (.lconst 0, 1) := by decide +kernel
theorem dX11_paid_127 : decode cX11_paid 127 = .ok (.goto 6, 3) := by decide +kernel
theorem dX11_paid_130 : decode cX11_paid 130 = .ok (.ldc2_w 153, 3) := by decide +kernel
theorem dX11_paid_133 : decode cX11_paid 133 = .ok (.invokestatic 126, 3) := by decide +kernel
theorem dX11_paid_136 : decode cX11_paid 136 = .ok (.ifCond .ne 6, 3) := by decide +kernel
theorem dX11_paid_139 : decode cX11_paid 139 = .ok (.ldc 136, 2) := by decide +kernel
theorem dX11_paid_141 : decode cX11_paid 141 = .ok (.ireturn, 1) := by decide +kernel
theorem dX11_paid_142 : decode cX11_paid 142 = .ok (.iinc 7 1, 3) := by decide +kernel
theorem dX11_paid_145 : decode cX11_paid 145 = .ok (.goto (-74), 3) := by decide +kernel
theorem dX11_paid_148 : decode cX11_paid 148 = .ok (.aload_n 0, 1) := by decide +kernel
theorem dX11_paid_149 : decode cX11_paid 149 = .ok (.iconst 0, 1) := by decide +kernel
theorem dX11_paid_150 : decode cX11_paid 150 = .ok (.putfield 7, 3) := by decide +kernel
theorem dX11_paid_153 : decode cX11_paid 153 = .ok (.iconst 0, 1) := by decide +kernel
theorem dX11_paid_154 : decode cX11_paid 154 = .ok (.istore 7, 2) := by decide +kernel
theorem dX11_paid_156 : decode cX11_paid 156 = .ok (.iload 7, 2) := by decide +kernel
theorem dX11_paid_158 : decode cX11_paid 158 = .ok (.iload_n 3, 1) := by decide +kernel
theorem dX11_paid_159 : decode cX11_paid 159 = .ok (.if_icmp .ge 73, 3) := by decide +kernel
theorem dX11_paid_162 : decode cX11_paid 162 = .ok (.aload_n 0, 1) := by decide +kernel
theorem dX11_paid_163 : decode cX11_paid 163 = .ok (.getfield 100, 3) := by decide +kernel
theorem dX11_paid_166 : decode cX11_paid 166 = .ok (.iload 7, 2) := by decide +kernel
theorem dX11_paid_168 : decode cX11_paid 168 = .ok (.iconst 0, 1) := by decide +kernel
theorem dX11_paid_169 : decode cX11_paid 169 = .ok (.iastore, 1) := by decide +kernel
theorem dX11_paid_170 : decode cX11_paid 170 = .ok (.iconst 0, 1) := by decide +kernel
theorem dX11_paid_171 : decode cX11_paid 171 = .ok (.istore 8, 2) := by decide +kernel
theorem dX11_paid_173 : decode cX11_paid 173 = .ok (.iload 8, 2) := by decide +kernel
theorem dX11_paid_175 : decode cX11_paid 175 = .ok (.iload_n 3, 1) := by decide +kernel
theorem dX11_paid_176 : decode cX11_paid 176 = .ok (.if_icmp .ge 36, 3) := by decide +kernel
theorem dX11_paid_179 : decode cX11_paid 179 = .ok (.aload_n 0, 1) := by decide +kernel
theorem dX11_paid_180 : decode cX11_paid 180 = .ok (.getfield 100, 3) := by decide +kernel
theorem dX11_paid_183 : decode cX11_paid 183 = .ok (.iload 7, 2) := by decide +kernel
theorem dX11_paid_185 : decode cX11_paid 185 = .ok (.dup2, 1) := by decide +kernel
theorem dX11_paid_186 : decode cX11_paid 186 = .ok (.iaload, 1) := by decide +kernel
theorem dX11_paid_187 : decode cX11_paid 187 = .ok (.aload_n 0, 1) := by decide +kernel
theorem dX11_paid_188 : decode cX11_paid 188 = .ok (.getfield 24, 3) := by decide +kernel
theorem dX11_paid_191 : decode cX11_paid 191 = .ok (.iload 6, 2) := by decide +kernel
theorem dX11_paid_193 : decode cX11_paid 193 = .ok (.iload_n 3, 1) := by decide +kernel
theorem dX11_paid_194 : decode cX11_paid 194 = .ok (.iadd, 1) := by decide +kernel
theorem dX11_paid_195 : decode cX11_paid 195 = .ok (.iload_n 3, 1) := by decide +kernel
theorem dX11_paid_196 : decode cX11_paid 196 = .ok (.iload 7, 2) := by decide +kernel
theorem dX11_paid_198 : decode cX11_paid 198 = .ok (.imul, 1) := by decide +kernel
theorem dX11_paid_199 : decode cX11_paid 199 = .ok (.iadd, 1) := by decide +kernel
theorem dX11_paid_200 : decode cX11_paid 200 = .ok (.iload 8, 2) := by decide +kernel
theorem dX11_paid_202 : decode cX11_paid 202 = .ok (.iadd, 1) := by decide +kernel
theorem dX11_paid_203 : decode cX11_paid 203 = .ok (.iaload, 1) := by decide +kernel
theorem dX11_paid_204 : decode cX11_paid 204 = .ok (.iadd, 1) := by decide +kernel
theorem dX11_paid_205 : decode cX11_paid 205 = .ok (.iastore, 1) := by decide +kernel
theorem dX11_paid_206 : decode cX11_paid 206 = .ok (.iinc 8 1, 3) := by decide +kernel
theorem dX11_paid_209 : decode cX11_paid 209 = .ok (.goto (-36), 3) := by decide +kernel
theorem dX11_paid_212 : decode cX11_paid 212 = .ok (.aload_n 0, 1) := by decide +kernel
theorem dX11_paid_213 : decode cX11_paid 213 = .ok (.getfield 94, 3) := by decide +kernel
theorem dX11_paid_216 : decode cX11_paid 216 = .ok (.iload 7, 2) := by decide +kernel
theorem dX11_paid_218 : decode cX11_paid 218 = .ok (.aload_n 0, 1) := by decide +kernel
theorem dX11_paid_219 : decode cX11_paid 219 = .ok (.getfield 100, 3) := by decide +kernel
theorem dX11_paid_222 : decode cX11_paid 222 = .ok (.iload 7, 2) := by decide +kernel
theorem dX11_paid_224 : decode cX11_paid 224 = .ok (.iaload, 1) := by decide +kernel
theorem dX11_paid_225 : decode cX11_paid 225 = .ok (.iastore, 1) := by decide +kernel
theorem dX11_paid_226 : decode cX11_paid 226 = .ok (.iinc 7 1, 3) := by decide +kernel
theorem dX11_paid_229 : decode cX11_paid 229 = .ok (.goto (-73), 3) := by decide +kernel
theorem dX11_paid_232 : decode cX11_paid 232 = .ok (.iconst 0, 1) := by decide +kernel
theorem dX11_paid_233 : decode cX11_paid 233 = .ok (.istore 7, 2) := by decide +kernel
theorem dX11_paid_235 : decode cX11_paid 235 = .ok (.iconst 1, 1) := by decide +kernel
theorem dX11_paid_236 : decode cX11_paid 236 = .ok (.istore 8, 2) := by decide +kernel
theorem dX11_paid_238 : decode cX11_paid 238 = .ok (.iload 8, 2) := by decide +kernel
theorem dX11_paid_240 : decode cX11_paid 240 = .ok (.ifCond .eq 207, 3) := by decide +kernel
theorem dX11_paid_243 : decode cX11_paid 243 = .ok (.iconst 0, 1) := by decide +kernel
theorem dX11_paid_244 : decode cX11_paid 244 = .ok (.istore 8, 2) := by decide +kernel
theorem dX11_paid_246 : decode cX11_paid 246 = .ok (.iconst 0, 1) := by decide +kernel
theorem dX11_paid_247 : decode cX11_paid 247 = .ok (.istore 9, 2) := by decide +kernel
theorem dX11_paid_249 : decode cX11_paid 249 = .ok (.iload 9, 2) := by decide +kernel
theorem dX11_paid_251 : decode cX11_paid 251 = .ok (.iload_n 3, 1) := by decide +kernel
theorem dX11_paid_252 : decode cX11_paid 252 = .ok (.if_icmp .ge 119, 3) := by decide +kernel
theorem dX11_paid_255 : decode cX11_paid 255 = .ok (.aload_n 0, 1) := by decide +kernel
theorem dX11_paid_256 : decode cX11_paid 256 = .ok (.getfield 24, 3) := by decide +kernel
theorem dX11_paid_259 : decode cX11_paid 259 = .ok (.iload 6, 2) := by decide +kernel
theorem dX11_paid_261 : decode cX11_paid 261 = .ok (.iload 9, 2) := by decide +kernel
theorem dX11_paid_263 : decode cX11_paid 263 = .ok (.iadd, 1) := by decide +kernel
theorem dX11_paid_264 : decode cX11_paid 264 = .ok (.iaload, 1) := by decide +kernel
theorem dX11_paid_265 : decode cX11_paid 265 = .ok (.istore 10, 2) := by decide +kernel
theorem dX11_paid_267 : decode cX11_paid 267 = .ok (.iconst 0, 1) := by decide +kernel
theorem dX11_paid_268 : decode cX11_paid 268 = .ok (.istore 11, 2) := by decide +kernel
theorem dX11_paid_270 : decode cX11_paid 270 = .ok (.iload 11, 2) := by decide +kernel
theorem dX11_paid_272 : decode cX11_paid 272 = .ok (.iload_n 3, 1) := by decide +kernel
theorem dX11_paid_273 : decode cX11_paid 273 = .ok (.if_icmp .ge 61, 3) := by decide +kernel
theorem dX11_paid_276 : decode cX11_paid 276 = .ok (.iload 10, 2) := by decide +kernel
theorem dX11_paid_278 : decode cX11_paid 278 = .ok (.aload_n 0, 1) := by decide +kernel
theorem dX11_paid_279 : decode cX11_paid 279 = .ok (.getfield 100, 3) := by decide +kernel
theorem dX11_paid_282 : decode cX11_paid 282 = .ok (.iload 11, 2) := by decide +kernel
theorem dX11_paid_284 : decode cX11_paid 284 = .ok (.iaload, 1) := by decide +kernel
theorem dX11_paid_285 : decode cX11_paid 285 = .ok (.ifCond .ne 7, 3) := by decide +kernel
theorem dX11_paid_288 : decode cX11_paid 288 = .ok (.iconst 0, 1) := by decide +kernel
theorem dX11_paid_289 : decode cX11_paid 289 = .ok (.goto 36, 3) := by decide +kernel
theorem dX11_paid_292 : decode cX11_paid 292 = .ok (.aload_n 0, 1) := by decide +kernel
theorem dX11_paid_293 : decode cX11_paid 293 = .ok (.getfield 94, 3) := by decide +kernel
theorem dX11_paid_296 : decode cX11_paid 296 = .ok (.iload 11, 2) := by decide +kernel
theorem dX11_paid_298 : decode cX11_paid 298 = .ok (.iaload, 1) := by decide +kernel
theorem dX11_paid_299 : decode cX11_paid 299 = .ok (.aload_n 0, 1) := by decide +kernel
theorem dX11_paid_300 : decode cX11_paid 300 = .ok (.getfield 24, 3) := by decide +kernel
theorem dX11_paid_303 : decode cX11_paid 303 = .ok (.iload 6, 2) := by decide +kernel
theorem dX11_paid_305 : decode cX11_paid 305 = .ok (.iload_n 3, 1) := by decide +kernel
theorem dX11_paid_306 : decode cX11_paid 306 = .ok (.iadd, 1) := by decide +kernel
theorem dX11_paid_307 : decode cX11_paid 307 = .ok (.iload_n 3, 1) := by decide +kernel
theorem dX11_paid_308 : decode cX11_paid 308 = .ok (.iload 11, 2) := by decide +kernel
theorem dX11_paid_310 : decode cX11_paid 310 = .ok (.imul, 1) := by decide +kernel
theorem dX11_paid_311 : decode cX11_paid 311 = .ok (.iadd, 1) := by decide +kernel
theorem dX11_paid_312 : decode cX11_paid 312 = .ok (.iload 9, 2) := by decide +kernel
theorem dX11_paid_314 : decode cX11_paid 314 = .ok (.iadd, 1) := by decide +kernel
theorem dX11_paid_315 : decode cX11_paid 315 = .ok (.iaload, 1) := by decide +kernel
theorem dX11_paid_316 : decode cX11_paid 316 = .ok (.imul, 1) := by decide +kernel
theorem dX11_paid_317 : decode cX11_paid 317 = .ok (.aload_n 0, 1) := by decide +kernel
theorem dX11_paid_318 : decode cX11_paid 318 = .ok (.getfield 100, 3) := by decide +kernel
theorem dX11_paid_321 : decode cX11_paid 321 = .ok (.iload 11, 2) := by decide +kernel
theorem dX11_paid_323 : decode cX11_paid 323 = .ok (.iaload, 1) := by decide +kernel
theorem dX11_paid_324 : decode cX11_paid 324 = .ok (.idiv, 1) := by decide +kernel
theorem dX11_paid_325 : decode cX11_paid 325 = .ok (.iadd, 1) := by decide +kernel
theorem dX11_paid_326 : decode cX11_paid 326 = .ok (.istore 10, 2) := by decide +kernel
theorem dX11_paid_328 : decode cX11_paid 328 = .ok (.iinc 11 1, 3) := by decide +kernel
theorem dX11_paid_331 : decode cX11_paid 331 = .ok (.goto (-61), 3) := by decide +kernel
theorem dX11_paid_334 : decode cX11_paid 334 = .ok (.aload_n 0, 1) := by decide +kernel
theorem dX11_paid_335 : decode cX11_paid 335 = .ok (.getfield 97, 3) := by decide +kernel
theorem dX11_paid_338 : decode cX11_paid 338 = .ok (.iload 9, 2) := by decide +kernel
theorem dX11_paid_340 : decode cX11_paid 340 = .ok (.iload 10, 2) := by decide +kernel
theorem dX11_paid_342 : decode cX11_paid 342 = .ok (.aload_n 0, 1) := by decide +kernel
theorem dX11_paid_343 : decode cX11_paid 343 = .ok (.getfield 100, 3) := by decide +kernel
theorem dX11_paid_346 : decode cX11_paid 346 = .ok (.iload 9, 2) := by decide +kernel
theorem dX11_paid_348 : decode cX11_paid 348 = .ok (.iaload, 1) := by decide +kernel
theorem dX11_paid_349 : decode cX11_paid 349 = .ok (.if_icmp .ge 8, 3) := by decide +kernel
theorem dX11_paid_352 : decode cX11_paid 352 = .ok (.iload 10, 2) := by decide +kernel
theorem dX11_paid_354 : decode cX11_paid 354 = .ok (.goto 10, 3) := by decide +kernel
theorem dX11_paid_357 : decode cX11_paid 357 = .ok (.aload_n 0, 1) := by decide +kernel
theorem dX11_paid_358 : decode cX11_paid 358 = .ok (.getfield 100, 3) := by decide +kernel
theorem dX11_paid_361 : decode cX11_paid 361 = .ok (.iload 9, 2) := by decide +kernel
theorem dX11_paid_363 : decode cX11_paid 363 = .ok (.iaload, 1) := by decide +kernel
theorem dX11_paid_364 : decode cX11_paid 364 = .ok (.iastore, 1) := by decide +kernel
theorem dX11_paid_365 : decode cX11_paid 365 = .ok (.iinc 9 1, 3) := by decide +kernel
theorem dX11_paid_368 : decode cX11_paid 368 = .ok (.goto (-119), 3) := by decide +kernel
theorem dX11_paid_371 : decode cX11_paid 371 = .ok (.iconst 0, 1) := by decide +kernel
theorem dX11_paid_372 : decode cX11_paid 372 = .ok (.istore 9, 2) := by decide +kernel
theorem dX11_paid_374 : decode cX11_paid 374 = .ok (.iload 9, 2) := by decide +kernel
theorem dX11_paid_376 : decode cX11_paid 376 = .ok (.iload_n 3, 1) := by decide +kernel
theorem dX11_paid_377 : decode cX11_paid 377 = .ok (.if_icmp .ge 52, 3) := by decide +kernel
theorem dX11_paid_380 : decode cX11_paid 380 = .ok (.iload 8, 2) := by decide +kernel
theorem dX11_paid_382 : decode cX11_paid 382 = .ok (.ifCond .ne 20, 3) := by decide +kernel
theorem dX11_paid_385 : decode cX11_paid 385 = .ok (.aload_n 0, 1) := by decide +kernel
theorem dX11_paid_386 : decode cX11_paid 386 = .ok (.getfield 97, 3) := by decide +kernel
theorem dX11_paid_389 : decode cX11_paid 389 = .ok (.iload 9, 2) := by decide +kernel
theorem dX11_paid_391 : decode cX11_paid 391 = .ok (.iaload, 1) := by decide +kernel
theorem dX11_paid_392 : decode cX11_paid 392 = .ok (.aload_n 0, 1) := by decide +kernel
theorem dX11_paid_393 : decode cX11_paid 393 = .ok (.getfield 94, 3) := by decide +kernel
theorem dX11_paid_396 : decode cX11_paid 396 = .ok (.iload 9, 2) := by decide +kernel
theorem dX11_paid_398 : decode cX11_paid 398 = .ok (.iaload, 1) := by decide +kernel
theorem dX11_paid_399 : decode cX11_paid 399 = .ok (.if_icmp .eq 7, 3) := by decide +kernel
theorem dX11_paid_402 : decode cX11_paid 402 = .ok (.iconst 1, 1) := by decide +kernel
theorem dX11_paid_403 : decode cX11_paid 403 = .ok (.goto 4, 3) := by decide +kernel
theorem dX11_paid_406 : decode cX11_paid 406 = .ok (.iconst 0, 1) := by decide +kernel
theorem dX11_paid_407 : decode cX11_paid 407 = .ok (.istore 8, 2) := by decide +kernel
theorem dX11_paid_409 : decode cX11_paid 409 = .ok (.aload_n 0, 1) := by decide +kernel
theorem dX11_paid_410 : decode cX11_paid 410 = .ok (.getfield 94, 3) := by decide +kernel
theorem dX11_paid_413 : decode cX11_paid 413 = .ok (.iload 9, 2) := by decide +kernel
theorem dX11_paid_415 : decode cX11_paid 415 = .ok (.aload_n 0, 1) := by decide +kernel
theorem dX11_paid_416 : decode cX11_paid 416 = .ok (.getfield 97, 3) := by decide +kernel
theorem dX11_paid_419 : decode cX11_paid 419 = .ok (.iload 9, 2) := by decide +kernel
theorem dX11_paid_421 : decode cX11_paid 421 = .ok (.iaload, 1) := by decide +kernel
theorem dX11_paid_422 : decode cX11_paid 422 = .ok (.iastore, 1) := by decide +kernel
theorem dX11_paid_423 : decode cX11_paid 423 = .ok (.iinc 9 1, 3) := by decide +kernel
theorem dX11_paid_426 : decode cX11_paid 426 = .ok (.goto (-52), 3) := by decide +kernel
theorem dX11_paid_429 : decode cX11_paid 429 = .ok (.iload 7, 2) := by decide +kernel
theorem dX11_paid_431 : decode cX11_paid 431 = .ok (.iload 8, 2) := by decide +kernel
theorem dX11_paid_433 : decode cX11_paid 433 = .ok (.ifCond .eq 7, 3) := by decide +kernel
theorem dX11_paid_436 : decode cX11_paid 436 = .ok (.iconst 1, 1) := by decide +kernel
theorem dX11_paid_437 : decode cX11_paid 437 = .ok (.goto 4, 3) := by decide +kernel
theorem dX11_paid_440 : decode cX11_paid 440 = .ok (.iconst 0, 1) := by decide +kernel
theorem dX11_paid_441 : decode cX11_paid 441 = .ok (.iadd, 1) := by decide +kernel
theorem dX11_paid_442 : decode cX11_paid 442 = .ok (.istore 7, 2) := by decide +kernel
theorem dX11_paid_444 : decode cX11_paid 444 = .ok (.goto (-206), 3) := by decide +kernel
theorem dX11_paid_447 : decode cX11_paid 447 = .ok (.iload 4, 2) := by decide +kernel
theorem dX11_paid_449 : decode cX11_paid 449 = .ok (.iload_n 3, 1) := by decide +kernel
theorem dX11_paid_450 : decode cX11_paid 450 = .ok (.if_icmp .ne 8, 3) := by decide +kernel
theorem dX11_paid_453 : decode cX11_paid 453 = .ok (.iload 7, 2) := by decide +kernel
theorem dX11_paid_455 : decode cX11_paid 455 = .ok (.goto 10, 3) := by decide +kernel
theorem dX11_paid_458 : decode cX11_paid 458 = .ok (.aload_n 0, 1) := by decide +kernel
theorem dX11_paid_459 : decode cX11_paid 459 = .ok (.getfield 94, 3) := by decide +kernel
theorem dX11_paid_462 : decode cX11_paid 462 = .ok (.iload 4, 2) := by decide +kernel
theorem dX11_paid_464 : decode cX11_paid 464 = .ok (.iaload, 1) := by decide +kernel
theorem dX11_paid_465 : decode cX11_paid 465 = .ok (.ireturn, 1) := by decide +kernel
theorem dX11_isThing_0 : decode cX11_isThing 0 = .ok (.iload_n 1, 1) := by decide +kernel
theorem dX11_isThing_1 : decode cX11_isThing 1 = .ok (.i2l, 1) := by decide +kernel
theorem dX11_isThing_2 : decode cX11_isThing 2 = .ok (.lconst 0, 1) := by decide +kernel
theorem dX11_isThing_3 : decode cX11_isThing 3 = .ok (.aload_n 0, 1) := by decide +kernel
theorem dX11_isThing_4 : decode cX11_isThing 4 = .ok (.getfield 326, 3) := by decide +kernel
theorem dX11_isThing_7 : decode cX11_isThing 7 = .ok (.iconst 1, 1) := by decide +kernel
theorem dX11_isThing_8 : decode cX11_isThing 8 = .ok (.isub, 1) := by decide +kernel
theorem dX11_isThing_9 : decode cX11_isThing 9 = .ok (.i2l, 1) := by decide +kernel
theorem dX11_isThing_10 : decode cX11_isThing 10 = .ok (.invokestatic 126, 3) := by decide +kernel
theorem dX11_isThing_13 : decode cX11_isThing 13 = .ok (.ireturn, 1) := by decide +kernel
theorem dX11_thing_0 : decode cX11_thing 0 = .ok (.aload_n 0, 1) := by decide +kernel
theorem dX11_thing_1 : decode cX11_thing 1 = .ok (.iconst 0, 1) := by decide +kernel
theorem dX11_thing_2 : decode cX11_thing 2 = .ok (.putfield 1, 3) := by decide +kernel
theorem dX11_thing_5 : decode cX11_thing 5 = .ok (.iload_n 1, 1) := by decide +kernel
theorem dX11_thing_6 : decode cX11_thing 6 = .ok (.iconst 2, 1) := by decide +kernel
theorem dX11_thing_7 : decode cX11_thing 7 = .ok (.if_icmp .eq 8, 3) := by decide +kernel
theorem dX11_thing_10 : decode cX11_thing 10 = .ok (.iload_n 1, 1) := by decide +kernel
theorem dX11_thing_11 : decode cX11_thing 11 = .ok (.iconst 3, 1) := by decide +kernel
theorem dX11_thing_12 : decode cX11_thing 12 = .ok (.if_icmp .ne 7, 3) := by decide +kernel
theorem dX11_thing_15 : decode cX11_thing 15 = .ok (.iconst 1, 1) := by decide +kernel
theorem dX11_thing_16 : decode cX11_thing 16 = .ok (.goto 4, 3) := by decide +kernel
theorem dX11_thing_19 : decode cX11_thing 19 = .ok (.iconst 0, 1) := by decide +kernel
theorem dX11_thing_20 : decode cX11_thing 20 = .ok (.istore 4, 2) := by decide +kernel
theorem dX11_thing_22 : decode cX11_thing 22 = .ok (.iload_n 1, 1) := by decide +kernel
theorem dX11_thing_23 : decode cX11_thing 23 = .ok (.i2l, 1) := by decide +kernel
theorem dX11_thing_24 : decode cX11_thing 24 = .ok (.lconst 0, 1) := by decide +kernel
theorem dX11_thing_25 : decode cX11_thing 25 = .ok (.ldc2_w 213, 3) := by decide +kernel
theorem dX11_thing_28 : decode cX11_thing 28 = .ok (.invokestatic 126, 3) := by decide +kernel
theorem dX11_thing_31 : decode cX11_thing 31 = .ok (.ifCond .eq 51, 3) := by decide +kernel
theorem dX11_thing_34 : decode cX11_thing 34 = .ok (.iload_n 2, 1) := by decide +kernel
theorem dX11_thing_35 : decode cX11_thing 35 = .ok (.i2l, 1) := by decide +kernel
theorem dX11_thing_36 : decode cX11_thing 36 = .ok (.lconst 0, 1) := by decide +kernel
theorem dX11_thing_37 : decode cX11_thing 37 = .ok (.ldc2_w 321, 3) := by decide +kernel
theorem dX11_thing_40 : decode cX11_thing 40 = .ok (.invokestatic 126, 3) := by decide +kernel
theorem dX11_thing_43 : decode cX11_thing 43 = .ok (.ifCond .eq 39, 3) := by decide +kernel
theorem dX11_thing_46 : decode cX11_thing 46 = .ok (.iload 4, 2) := by decide +kernel
theorem dX11_thing_48 : decode cX11_thing 48 = .ok (.ifCond .ne 9, 3) := by decide +kernel
theorem dX11_thing_51 : decode cX11_thing 51 = .ok (.iload_n 3, 1) := by decide +kernel
theorem dX11_thing_52 : decode cX11_thing 52 = .ok (.ldc 69, 2) := by decide +kernel
theorem dX11_thing_54 : decode cX11_thing 54 = .ok (.if_icmp .ne 28, 3) := by decide +kernel
theorem dX11_thing_57 : decode cX11_thing 57 = .ok (.iload 4, 2) := by decide +kernel
theorem dX11_thing_59 : decode cX11_thing 59 = .ok (.ifCond .eq 26, 3) := by decide +kernel
theorem dX11_thing_62 : decode cX11_thing 62 = .ok (.aload_n 0, 1) := by decide +kernel
theorem dX11_thing_63 : decode cX11_thing 63 = .ok (.iload_n 3, 1) := by decide +kernel
theorem dX11_thing_64 : decode cX11_thing 64 = .ok (.invokevirtual 329, 3) := by decide +kernel
theorem dX11_thing_67 : decode cX11_thing 67 = .ok (.ifCond .eq 15, 3) := by decide +kernel
theorem dX11_thing_70 : decode cX11_thing 70 = .ok (.aload_n 0, 1) := by decide +kernel
theorem dX11_thing_71 : decode cX11_thing 71 = .ok (.getfield 103, 3) := by decide +kernel
theorem dX11_thing_74 : decode cX11_thing 74 = .ok (.iload_n 3, 1) := by decide +kernel
theorem dX11_thing_75 : decode cX11_thing 75 = .ok (.iaload, 1) := by decide +kernel
theorem dX11_thing_76 : decode cX11_thing 76 = .ok (.iload_n 1, 1) := by decide +kernel
theorem dX11_thing_77 : decode cX11_thing 77 = .ok (.iconst 1, 1) := by decide +kernel
theorem dX11_thing_78 : decode cX11_thing 78 = .ok (.isub, 1) := by decide +kernel
theorem dX11_thing_79 : decode cX11_thing 79 = .ok (.if_icmp .eq 6, 3) := by decide +kernel
theorem dX11_thing_82 : decode cX11_thing 82 = .ok (.ldc 136, 2) := by decide +kernel
theorem dX11_thing_84 : decode cX11_thing 84 = .ok (.ireturn, 1) := by decide +kernel
theorem dX11_thing_85 : decode cX11_thing 85 = .ok (.aload_n 0, 1) := by decide +kernel
theorem dX11_thing_86 : decode cX11_thing 86 = .ok (.getfield 326, 3) := by decide +kernel
theorem dX11_thing_89 : decode cX11_thing 89 = .ok (.bipush 16, 2) := by decide +kernel
theorem dX11_thing_91 : decode cX11_thing 91 = .ok (.if_icmp .ne 6, 3) := by decide +kernel
theorem dX11_thing_94 : decode cX11_thing 94 = .ok (.ldc 172, 2) := by decide +kernel
theorem dX11_thing_96 : decode cX11_thing 96 = .ok (.ireturn, 1) := by decide +kernel
theorem dX11_thing_97 : decode cX11_thing 97 = .ok (.aload_n 0, 1) := by decide +kernel
theorem dX11_thing_98 : decode cX11_thing 98 = .ok (.getfield 103, 3) := by decide +kernel
theorem dX11_thing_101 : decode cX11_thing 101 = .ok (.aload_n 0, 1) := by decide +kernel
theorem dX11_thing_102 : decode cX11_thing 102 = .ok (.getfield 326, 3) := by decide +kernel
theorem dX11_thing_105 : decode cX11_thing 105 = .ok (.iload_n 1, 1) := by decide +kernel
theorem dX11_thing_106 : decode cX11_thing 106 = .ok (.iastore, 1) := by decide +kernel
theorem dX11_thing_107 : decode cX11_thing 107 = .ok (.aload_n 0, 1) := by decide +kernel
theorem dX11_thing_108 : decode cX11_thing 108 = .ok (.getfield 106, 3) := by decide +kernel
theorem dX11_thing_111 : decode cX11_thing 111 = .ok (.aload_n 0, 1) := by decide +kernel
theorem dX11_thing_112 : decode cX11_thing 112 = .ok (.getfield 326, 3) := by decide +kernel
theorem dX11_thing_115 : decode cX11_thing 115 = .ok (.iload_n 2, 1) := by decide +kernel
theorem dX11_thing_116 : decode cX11_thing 116 = .ok (.iastore, 1) := by decide +kernel
theorem dX11_thing_117 : decode cX11_thing 117 = .ok (.aload_n 0, 1) := by decide +kernel
theorem dX11_thing_118 : decode cX11_thing 118 = .ok (.getfield 109, 3) := by decide +kernel
theorem dX11_thing_121 : decode cX11_thing 121 = .ok (.aload_n 0, 1) := by decide +kernel
theorem dX11_thing_122 : decode cX11_thing 122 = .ok (.getfield 326, 3) := by decide +kernel
theorem dX11_thing_125 : decode cX11_thing 125 = .ok (.iload_n 3, 1) := by decide +kernel
theorem dX11_thing_126 : decode cX11_thing 126 = .ok (.iastore, 1) := by decide +kernel
theorem dX11_thing_127 : decode cX11_thing 127 = .ok (.aload_n 0, 1) := by decide +kernel
theorem dX11_thing_128 : decode cX11_thing 128 = .ok (.dup, 1) := by decide +kernel
theorem dX11_thing_129 : decode cX11_thing 129 = .ok (.getfield 326, 3) := by decide +kernel
theorem dX11_thing_132 : decode cX11_thing 132 = .ok (.iconst 1, 1) := by decide +kernel
theorem dX11_thing_133 : decode cX11_thing 133 = .ok (.iadd, 1) := by decide +kernel
theorem dX11_thing_134 : decode cX11_thing 134 = .ok (.putfield 326, 3) := by decide +kernel
theorem dX11_thing_137 : decode cX11_thing 137 = .ok (.aload_n 0, 1) := by decide +kernel
theorem dX11_thing_138 : decode cX11_thing 138 = .ok (.getfield 326, 3) := by decide +kernel
theorem dX11_thing_141 : decode cX11_thing 141 = .ok (.iconst 1, 1) := by decide +kernel
theorem dX11_thing_142 : decode cX11_thing 142 = .ok (.isub, 1) := by decide +kernel
theorem dX11_thing_143 : decode cX11_thing 143 = .ok (.ireturn, 1) := by decide +kernel
theorem dX11_works_0 : decode cX11_works 0 = .ok (.aload_n 0, 1) := by decide +kernel
theorem dX11_works_1 : decode cX11_works 1 = .ok (.iconst 0, 1) := by decide +kernel
theorem dX11_works_2 : decode cX11_works 2 = .ok (.putfield 1, 3) := by decide +kernel
theorem dX11_works_5 : decode cX11_works 5 = .ok (.iload_n 1, 1) := by decide +kernel
theorem dX11_works_6 : decode cX11_works 6 = .ok (.invokestatic 130, 3) := by decide +kernel
theorem dX11_works_9 : decode cX11_works 9 = .ok (.ifCond .eq 41, 3) := by decide +kernel
theorem dX11_works_12 : decode cX11_works 12 = .ok (.iload_n 3, 1) := by decide +kernel
theorem dX11_works_13 : decode cX11_works 13 = .ok (.i2l, 1) := by decide +kernel
theorem dX11_works_14 : decode cX11_works 14 = .ok (.lconst 1, 1) := by decide +kernel
theorem dX11_works_15 : decode cX11_works 15 = .ok (.ldc2_w 308, 3) := by decide +kernel
theorem dX11_works_18 : decode cX11_works 18 = .ok (.invokestatic 126, 3) := by decide +kernel
theorem dX11_works_21 : decode cX11_works 21 = .ok (.ifCond .eq 29, 3) := by decide +kernel
theorem dX11_works_24 : decode cX11_works 24 = .ok (.iload 4, 2) := by decide +kernel
theorem dX11_works_26 : decode cX11_works 26 = .ok (.i2l, 1) := by decide +kernel
theorem dX11_works_27 : decode cX11_works 27 = .ok (.lconst 0, 1) := by decide +kernel
theorem dX11_works_28 : decode cX11_works 28 = .ok (.ldc2_w 167, 3) := by decide +kernel
theorem dX11_works_31 : decode cX11_works 31 = .ok (.invokestatic 126, 3) := by decide +kernel
theorem dX11_works_34 : decode cX11_works 34 = .ok (.ifCond .eq 16, 3) := by decide +kernel
theorem dX11_works_37 : decode cX11_works 37 = .ok (.iload 5, 2) := by decide +kernel
theorem dX11_works_39 : decode cX11_works 39 = .ok (.i2l, 1) := by decide +kernel
theorem dX11_works_40 : decode cX11_works 40 = .ok (.lconst 0, 1) := by decide +kernel
theorem dX11_works_41 : decode cX11_works 41 = .ok (.ldc2_w 134, 3) := by decide +kernel
theorem dX11_works_44 : decode cX11_works 44 = .ok (.invokestatic 126, 3) := by decide +kernel
theorem dX11_works_47 : decode cX11_works 47 = .ok (.ifCond .ne 6, 3) := by decide +kernel
theorem dX11_works_50 : decode cX11_works 50 = .ok (.ldc 136, 2) := by decide +kernel
theorem dX11_works_52 : decode cX11_works 52 = .ok (.ireturn, 1) := by decide +kernel
theorem dX11_works_53 : decode cX11_works 53 = .ok (.aload_n 0, 1) := by decide +kernel
theorem dX11_works_54 : decode cX11_works 54 = .ok (.iload_n 1, 1) := by decide +kernel
theorem dX11_works_55 : decode cX11_works 55 = .ok (.iload_n 2, 1) := by decide +kernel
theorem dX11_works_56 : decode cX11_works 56 = .ok (.iconst 2, 1) := by decide +kernel
theorem dX11_works_57 : decode cX11_works 57 = .ok (.iload_n 3, 1) := by decide +kernel
theorem dX11_works_58 : decode cX11_works 58 = .ok (.imul, 1) := by decide +kernel
theorem dX11_works_59 : decode cX11_works 59 = .ok (.invokevirtual 316, 3) := by decide +kernel
theorem dX11_works_62 : decode cX11_works 62 = .ok (.istore 6, 2) := by decide +kernel
theorem dX11_works_64 : decode cX11_works 64 = .ok (.iload 6, 2) := by decide +kernel
theorem dX11_works_66 : decode cX11_works 66 = .ok (.ifCond .ge 6, 3) := by decide +kernel
theorem dX11_works_69 : decode cX11_works 69 = .ok (.iload 6, 2) := by decide +kernel
theorem dX11_works_71 : decode cX11_works 71 = .ok (.ireturn, 1) := by decide +kernel
theorem dX11_works_72 : decode cX11_works 72 = .ok (.bipush 80, 2) := by decide +kernel
theorem dX11_works_74 : decode cX11_works 74 = .ok (.iload_n 1, 1) := by decide +kernel
theorem dX11_works_75 : decode cX11_works 75 = .ok (.imul, 1) := by decide +kernel
theorem dX11_works_76 : decode cX11_works 76 = .ok (.iload_n 2, 1) := by decide +kernel
theorem dX11_works_77 : decode cX11_works 77 = .ok (.iadd, 1) := by decide +kernel
theorem dX11_works_78 : decode cX11_works 78 = .ok (.istore 7, 2) := by decide +kernel
theorem dX11_works_80 : decode cX11_works 80 = .ok (.iconst 0, 1) := by decide +kernel
theorem dX11_works_81 : decode cX11_works 81 = .ok (.istore 8, 2) := by decide +kernel
theorem dX11_works_83 : decode cX11_works 83 = .ok (.iload 8, 2) := by decide +kernel
theorem dX11_works_85 : decode cX11_works 85 = .ok (.iload_n 3, 1) := by decide +kernel
theorem dX11_works_86 : decode cX11_works 86 = .ok (.if_icmp .ge 60, 3) := by decide +kernel
theorem dX11_works_89 : decode cX11_works 89 = .ok (.aload_n 0, 1) := by decide +kernel
theorem dX11_works_90 : decode cX11_works 90 = .ok (.getfield 24, 3) := by decide +kernel
theorem dX11_works_93 : decode cX11_works 93 = .ok (.iload 7, 2) := by decide +kernel
theorem dX11_works_95 : decode cX11_works 95 = .ok (.iconst 2, 1) := by decide +kernel
theorem dX11_works_96 : decode cX11_works 96 = .ok (.iload 8, 2) := by decide +kernel
theorem dX11_works_98 : decode cX11_works 98 = .ok (.imul, 1) := by decide +kernel
theorem dX11_works_99 : decode cX11_works 99 = .ok (.iadd, 1) := by decide +kernel
theorem dX11_works_100 : decode cX11_works 100 = .ok (.iaload, 1) := by decide +kernel
theorem dX11_works_101 : decode cX11_works 101 = .ok (.i2l, 1) := by decide +kernel
theorem dX11_works_102 : decode cX11_works 102 = .ok (.lconst 1, 1) := by decide +kernel
theorem dX11_works_103 : decode cX11_works 103 = .ok (.ldc2_w 159, 3) := by decide +kernel
theorem dX11_works_106 : decode cX11_works 106 = .ok (.invokestatic 126, 3) := by decide +kernel
theorem dX11_works_109 : decode cX11_works 109 = .ok (.ifCond .eq 28, 3) := by decide +kernel
theorem dX11_works_112 : decode cX11_works 112 = .ok (.aload_n 0, 1) := by decide +kernel
theorem dX11_works_113 : decode cX11_works 113 = .ok (.getfield 24, 3) := by decide +kernel
theorem dX11_works_116 : decode cX11_works 116 = .ok (.iload 7, 2) := by decide +kernel
theorem dX11_works_118 : decode cX11_works 118 = .ok (.iconst 2, 1) := by decide +kernel
theorem dX11_works_119 : decode cX11_works 119 = .ok (.iload 8, 2) := by decide +kernel
theorem dX11_works_121 : decode cX11_works 121 = .ok (.imul, 1) := by decide +kernel
theorem dX11_works_122 : decode cX11_works 122 = .ok (.iadd, 1) := by decide +kernel
theorem dX11_works_123 : decode cX11_works 123 = .ok (.iconst 1, 1) := by decide +kernel
theorem dX11_works_124 : decode cX11_works 124 = .ok (.iadd, 1) := by decide +kernel
theorem dX11_works_125 : decode cX11_works 125 = .ok (.iaload, 1) := by decide +kernel
theorem dX11_works_126 : decode cX11_works 126 = .ok (.i2l, 1) := by decide +kernel
theorem dX11_works_127 : decode cX11_works 127 = .ok (.lconst 0, 1) := by decide +kernel
theorem dX11_works_128 : decode cX11_works 128 = .ok (.ldc2_w 159, 3) := by decide +kernel
theorem dX11_works_131 : decode cX11_works 131 = .ok (.invokestatic 126, 3) := by decide +kernel
theorem dX11_works_134 : decode cX11_works 134 = .ok (.ifCond .ne 6, 3) := by decide +kernel
theorem dX11_works_137 : decode cX11_works 137 = .ok (.ldc 136, 2) := by decide +kernel
theorem dX11_works_139 : decode cX11_works 139 = .ok (.ireturn, 1) := by decide +kernel
theorem dX11_works_140 : decode cX11_works 140 = .ok (.iinc 8 1, 3) := by decide +kernel
theorem dX11_works_143 : decode cX11_works 143 = .ok (.goto (-60), 3) := by decide +kernel
theorem dX11_works_146 : decode cX11_works 146 = .ok (.aload_n 0, 1) := by decide +kernel
theorem dX11_works_147 : decode cX11_works 147 = .ok (.iconst 0, 1) := by decide +kernel
theorem dX11_works_148 : decode cX11_works 148 = .ok (.putfield 7, 3) := by decide +kernel
theorem dX11_works_151 : decode cX11_works 151 = .ok (.iconst 0, 1) := by decide +kernel
theorem dX11_works_152 : decode cX11_works 152 = .ok (.istore 8, 2) := by decide +kernel
theorem dX11_works_154 : decode cX11_works 154 = .ok (.iconst 0, 1) := by decide +kernel
theorem dX11_works_155 : decode cX11_works 155 = .ok (.istore 9, 2) := by decide +kernel
theorem dX11_works_157 : decode cX11_works 157 = .ok (.iconst 0, 1) := by decide +kernel
theorem dX11_works_158 : decode cX11_works 158 = .ok (.istore 10, 2) := by decide +kernel
theorem dX11_works_160 : decode cX11_works 160 = .ok (.iconst 1, 1) := by decide +kernel
theorem dX11_works_161 : decode cX11_works 161 = .ok (.istore 11, 2) := by decide +kernel
theorem dX11_works_163 : decode cX11_works 163 = .ok (.iload 11, 2) := by decide +kernel
theorem dX11_works_165 : decode cX11_works 165 = .ok (.iconst 1, 1) := by decide +kernel
theorem dX11_works_166 : decode cX11_works 166 = .ok (.iload_n 3, 1) := by decide +kernel
theorem dX11_works_167 : decode cX11_works 167 = .ok (.ishl, 1) := by decide +kernel
theorem dX11_works_168 : decode cX11_works 168 = .ok (.if_icmp .ge 117, 3) := by decide +kernel
theorem dX11_works_171 : decode cX11_works 171 = .ok (.iconst 0, 1) := by decide +kernel
theorem dX11_works_172 : decode cX11_works 172 = .ok (.istore 12, 2) := by decide +kernel
theorem dX11_works_174 : decode cX11_works 174 = .ok (.iconst 0, 1) := by decide +kernel
theorem dX11_works_175 : decode cX11_works 175 = .ok (.istore 13, 2) := by decide +kernel
theorem dX11_works_177 : decode cX11_works 177 = .ok (.iconst 0, 1) := by decide +kernel
theorem dX11_works_178 : decode cX11_works 178 = .ok (.istore 14, 2) := by decide +kernel
theorem dX11_works_180 : decode cX11_works 180 = .ok (.iload 14, 2) := by decide +kernel
theorem dX11_works_182 : decode cX11_works 182 = .ok (.iload_n 3, 1) := by decide +kernel
theorem dX11_works_183 : decode cX11_works 183 = .ok (.if_icmp .ge 56, 3) := by decide +kernel
theorem dX11_works_186 : decode cX11_works 186 = .ok (.iload 11, 2) := by decide +kernel
theorem dX11_works_188 : decode cX11_works 188 = .ok (.iload 14, 2) := by decide +kernel
theorem dX11_works_190 : decode cX11_works 190 = .ok (.ishr, 1) := by decide +kernel
theorem dX11_works_191 : decode cX11_works 191 = .ok (.iconst 1, 1) := by decide +kernel
theorem dX11_works_192 : decode cX11_works 192 = .ok (.iand, 1) := by decide +kernel
theorem dX11_works_193 : decode cX11_works 193 = .ok (.iconst 1, 1) := by decide +kernel
theorem dX11_works_194 : decode cX11_works 194 = .ok (.if_icmp .ne 39, 3) := by decide +kernel
theorem dX11_works_197 : decode cX11_works 197 = .ok (.iload 12, 2) := by decide +kernel
theorem dX11_works_199 : decode cX11_works 199 = .ok (.aload_n 0, 1) := by decide +kernel
theorem dX11_works_200 : decode cX11_works 200 = .ok (.getfield 24, 3) := by decide +kernel
theorem dX11_works_203 : decode cX11_works 203 = .ok (.iload 7, 2) := by decide +kernel
theorem dX11_works_205 : decode cX11_works 205 = .ok (.iconst 2, 1) := by decide +kernel
theorem dX11_works_206 : decode cX11_works 206 = .ok (.iload 14, 2) := by decide +kernel
theorem dX11_works_208 : decode cX11_works 208 = .ok (.imul, 1) := by decide +kernel
theorem dX11_works_209 : decode cX11_works 209 = .ok (.iadd, 1) := by decide +kernel
theorem dX11_works_210 : decode cX11_works 210 = .ok (.iaload, 1) := by decide +kernel
theorem dX11_works_211 : decode cX11_works 211 = .ok (.iadd, 1) := by decide +kernel
theorem dX11_works_212 : decode cX11_works 212 = .ok (.istore 12, 2) := by decide +kernel
theorem dX11_works_214 : decode cX11_works 214 = .ok (.iload 13, 2) := by decide +kernel
theorem dX11_works_216 : decode cX11_works 216 = .ok (.aload_n 0, 1) := by decide +kernel
theorem dX11_works_217 : decode cX11_works 217 = .ok (.getfield 24, 3) := by decide +kernel
theorem dX11_works_220 : decode cX11_works 220 = .ok (.iload 7, 2) := by decide +kernel
theorem dX11_works_222 : decode cX11_works 222 = .ok (.iconst 2, 1) := by decide +kernel
theorem dX11_works_223 : decode cX11_works 223 = .ok (.iload 14, 2) := by decide +kernel
theorem dX11_works_225 : decode cX11_works 225 = .ok (.imul, 1) := by decide +kernel
theorem dX11_works_226 : decode cX11_works 226 = .ok (.iadd, 1) := by decide +kernel
theorem dX11_works_227 : decode cX11_works 227 = .ok (.iconst 1, 1) := by decide +kernel
theorem dX11_works_228 : decode cX11_works 228 = .ok (.iadd, 1) := by decide +kernel
theorem dX11_works_229 : decode cX11_works 229 = .ok (.iaload, 1) := by decide +kernel
theorem dX11_works_230 : decode cX11_works 230 = .ok (.iadd, 1) := by decide +kernel
theorem dX11_works_231 : decode cX11_works 231 = .ok (.istore 13, 2) := by decide +kernel
theorem dX11_works_233 : decode cX11_works 233 = .ok (.iinc 14 1, 3) := by decide +kernel
theorem dX11_works_236 : decode cX11_works 236 = .ok (.goto (-56), 3) := by decide +kernel
theorem dX11_works_239 : decode cX11_works 239 = .ok (.iload 12, 2) := by decide +kernel
theorem dX11_works_241 : decode cX11_works 241 = .ok (.iload 4, 2) := by decide +kernel
theorem dX11_works_243 : decode cX11_works 243 = .ok (.if_icmp .gt 36, 3) := by decide +kernel
theorem dX11_works_246 : decode cX11_works 246 = .ok (.iload 13, 2) := by decide +kernel
theorem dX11_works_248 : decode cX11_works 248 = .ok (.iload 10, 2) := by decide +kernel
theorem dX11_works_250 : decode cX11_works 250 = .ok (.if_icmp .gt 17, 3) := by decide +kernel
theorem dX11_works_253 : decode cX11_works 253 = .ok (.iload 13, 2) := by decide +kernel
