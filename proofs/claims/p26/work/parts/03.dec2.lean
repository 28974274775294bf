theorem dL_areAlike_223 : decode cL_areAlike 223 = .ok (.iconst 4, 1) := by decide +kernel
theorem dL_areAlike_224 : decode cL_areAlike 224 = .ok (.idiv, 1) := by decide +kernel
theorem dL_areAlike_225 : decode cL_areAlike 225 = .ok (.isub, 1) := by decide +kernel
theorem dL_areAlike_226 : decode cL_areAlike 226 = .ok (.iload 4, 2) := by decide +kernel
theorem dL_areAlike_228 : decode cL_areAlike 228 = .ok (.invokevirtual 72, 3) := by decide +kernel
theorem dL_areAlike_231 : decode cL_areAlike 231 = .ok (.if_icmp .ne 7, 3) := by decide +kernel
theorem dL_areAlike_234 : decode cL_areAlike 234 = .ok (.iconst 1, 1) := by decide +kernel
theorem dL_areAlike_235 : decode cL_areAlike 235 = .ok (.goto 4, 3) := by decide +kernel
theorem dL_areAlike_238 : decode cL_areAlike 238 = .ok (.iconst 0, 1) := by decide +kernel
theorem dL_areAlike_239 : decode cL_areAlike 239 = .ok (.istore_n 2, 1) := by decide +kernel
theorem dL_areAlike_240 : decode cL_areAlike 240 = .ok (.iinc 4 1, 3) := by decide +kernel
theorem dL_areAlike_243 : decode cL_areAlike 243 = .ok (.goto (-49), 3) := by decide +kernel
theorem dL_areAlike_246 : decode cL_areAlike 246 = .ok (.iinc 3 1, 3) := by decide +kernel
theorem dL_areAlike_249 : decode cL_areAlike 249 = .ok (.goto (-68), 3) := by decide +kernel
theorem dL_areAlike_252 : decode cL_areAlike 252 = .ok (.iload_n 2, 1) := by decide +kernel
theorem dL_areAlike_253 : decode cL_areAlike 253 = .ok (.ireturn, 1) := by decide +kernel
theorem dL_isWell_0 : decode cL_isWell 0 = .ok (.aload_n 0, 1) := by decide +kernel
theorem dL_isWell_1 : decode cL_isWell 1 = .ok (.iconst 1, 1) := by decide +kernel
theorem dL_isWell_2 : decode cL_isWell 2 = .ok (.invokevirtual 9, 3) := by decide +kernel
theorem dL_isWell_5 : decode cL_isWell 5 = .ok (.istore_n 1, 1) := by decide +kernel
theorem dL_isWell_6 : decode cL_isWell 6 = .ok (.aload_n 0, 1) := by decide +kernel
theorem dL_isWell_7 : decode cL_isWell 7 = .ok (.bipush 8, 2) := by decide +kernel
theorem dL_isWell_9 : decode cL_isWell 9 = .ok (.invokevirtual 9, 3) := by decide +kernel
theorem dL_isWell_12 : decode cL_isWell 12 = .ok (.istore_n 2, 1) := by decide +kernel
theorem dL_isWell_13 : decode cL_isWell 13 = .ok (.iconst 0, 1) := by decide +kernel
theorem dL_isWell_14 : decode cL_isWell 14 = .ok (.istore_n 3, 1) := by decide +kernel
theorem dL_isWell_15 : decode cL_isWell 15 = .ok (.iconst 0, 1) := by decide +kernel
theorem dL_isWell_16 : decode cL_isWell 16 = .ok (.istore 4, 2) := by decide +kernel
theorem dL_isWell_18 : decode cL_isWell 18 = .ok (.iconst 0, 1) := by decide +kernel
theorem dL_isWell_19 : decode cL_isWell 19 = .ok (.istore 5, 2) := by decide +kernel
theorem dL_isWell_21 : decode cL_isWell 21 = .ok (.iconst 1, 1) := by decide +kernel
theorem dL_isWell_22 : decode cL_isWell 22 = .ok (.istore 6, 2) := by decide +kernel
theorem dL_isWell_24 : decode cL_isWell 24 = .ok (.aload_n 0, 1) := by decide +kernel
theorem dL_isWell_25 : decode cL_isWell 25 = .ok (.iconst 3, 1) := by decide +kernel
theorem dL_isWell_26 : decode cL_isWell 26 = .ok (.invokevirtual 9, 3) := by decide +kernel
theorem dL_isWell_29 : decode cL_isWell 29 = .ok (.iconst 1, 1) := by decide +kernel
theorem dL_isWell_30 : decode cL_isWell 30 = .ok (.if_icmp .ne 7, 3) := by decide +kernel
theorem dL_isWell_33 : decode cL_isWell 33 = .ok (.iconst 1, 1) := by decide +kernel
theorem dL_isWell_34 : decode cL_isWell 34 = .ok (.goto 4, 3) := by decide +kernel
theorem dL_isWell_37 : decode cL_isWell 37 = .ok (.iconst 0, 1) := by decide +kernel
theorem dL_isWell_38 : decode cL_isWell 38 = .ok (.istore 7, 2) := by decide +kernel
theorem dL_isWell_40 : decode cL_isWell 40 = .ok (.iload 7, 2) := by decide +kernel
theorem dL_isWell_42 : decode cL_isWell 42 = .ok (.aload_n 0, 1) := by decide +kernel
theorem dL_isWell_43 : decode cL_isWell 43 = .ok (.iconst 2, 1) := by decide +kernel
theorem dL_isWell_44 : decode cL_isWell 44 = .ok (.invokevirtual 9, 3) := by decide +kernel
theorem dL_isWell_47 : decode cL_isWell 47 = .ok (.aload_n 0, 1) := by decide +kernel
theorem dL_isWell_48 : decode cL_isWell 48 = .ok (.bipush 9, 2) := by decide +kernel
theorem dL_isWell_50 : decode cL_isWell 50 = .ok (.invokevirtual 9, 3) := by decide +kernel
theorem dL_isWell_53 : decode cL_isWell 53 = .ok (.if_icmp .le 7, 3) := by decide +kernel
theorem dL_isWell_56 : decode cL_isWell 56 = .ok (.iconst 1, 1) := by decide +kernel
theorem dL_isWell_57 : decode cL_isWell 57 = .ok (.goto 4, 3) := by decide +kernel
theorem dL_isWell_60 : decode cL_isWell 60 = .ok (.iconst 0, 1) := by decide +kernel
theorem dL_isWell_61 : decode cL_isWell 61 = .ok (.if_icmp .ne 7, 3) := by decide +kernel
theorem dL_isWell_64 : decode cL_isWell 64 = .ok (.iconst 1, 1) := by decide +kernel
theorem dL_isWell_65 : decode cL_isWell 65 = .ok (.goto 4, 3) := by decide +kernel
theorem dL_isWell_68 : decode cL_isWell 68 = .ok (.iconst 0, 1) := by decide +kernel
theorem dL_isWell_69 : decode cL_isWell 69 = .ok (.istore 8, 2) := by decide +kernel
theorem dL_isWell_71 : decode cL_isWell 71 = .ok (.iconst 0, 1) := by decide +kernel
theorem dL_isWell_72 : decode cL_isWell 72 = .ok (.istore 9, 2) := by decide +kernel
theorem dL_isWell_74 : decode cL_isWell 74 = .ok (.iload 9, 2) := by decide +kernel
theorem dL_isWell_76 : decode cL_isWell 76 = .ok (.iload_n 1, 1) := by decide +kernel
theorem dL_isWell_77 : decode cL_isWell 77 = .ok (.if_icmp .ge 83, 3) := by decide +kernel
theorem dL_isWell_80 : decode cL_isWell 80 = .ok (.iload 8, 2) := by decide +kernel
theorem dL_isWell_82 : decode cL_isWell 82 = .ok (.ifCond .eq 78, 3) := by decide +kernel
theorem dL_isWell_85 : decode cL_isWell 85 = .ok (.iload 4, 2) := by decide +kernel
theorem dL_isWell_87 : decode cL_isWell 87 = .ok (.aload_n 0, 1) := by decide +kernel
theorem dL_isWell_88 : decode cL_isWell 88 = .ok (.iload 9, 2) := by decide +kernel
theorem dL_isWell_90 : decode cL_isWell 90 = .ok (.iconst 3, 1) := by decide +kernel
theorem dL_isWell_91 : decode cL_isWell 91 = .ok (.invokevirtual 28, 3) := by decide +kernel
theorem dL_isWell_94 : decode cL_isWell 94 = .ok (.iadd, 1) := by decide +kernel
theorem dL_isWell_95 : decode cL_isWell 95 = .ok (.istore 4, 2) := by decide +kernel
theorem dL_isWell_97 : decode cL_isWell 97 = .ok (.iload 5, 2) := by decide +kernel
theorem dL_isWell_99 : decode cL_isWell 99 = .ok (.aload_n 0, 1) := by decide +kernel
theorem dL_isWell_100 : decode cL_isWell 100 = .ok (.iload 9, 2) := by decide +kernel
theorem dL_isWell_102 : decode cL_isWell 102 = .ok (.iconst 4, 1) := by decide +kernel
theorem dL_isWell_103 : decode cL_isWell 103 = .ok (.invokevirtual 28, 3) := by decide +kernel
theorem dL_isWell_106 : decode cL_isWell 106 = .ok (.iload 9, 2) := by decide +kernel
theorem dL_isWell_108 : decode cL_isWell 108 = .ok (.ishl, 1) := by decide +kernel
theorem dL_isWell_109 : decode cL_isWell 109 = .ok (.ior, 1) := by decide +kernel
theorem dL_isWell_110 : decode cL_isWell 110 = .ok (.istore 5, 2) := by decide +kernel
theorem dL_isWell_112 : decode cL_isWell 112 = .ok (.aload_n 0, 1) := by decide +kernel
theorem dL_isWell_113 : decode cL_isWell 113 = .ok (.aload_n 0, 1) := by decide +kernel
theorem dL_isWell_114 : decode cL_isWell 114 = .ok (.iload 9, 2) := by decide +kernel
theorem dL_isWell_116 : decode cL_isWell 116 = .ok (.iconst 0, 1) := by decide +kernel
theorem dL_isWell_117 : decode cL_isWell 117 = .ok (.invokevirtual 28, 3) := by decide +kernel
theorem dL_isWell_120 : decode cL_isWell 120 = .ok (.aload_n 0, 1) := by decide +kernel
theorem dL_isWell_121 : decode cL_isWell 121 = .ok (.iload 9, 2) := by decide +kernel
theorem dL_isWell_123 : decode cL_isWell 123 = .ok (.iconst 1, 1) := by decide +kernel
theorem dL_isWell_124 : decode cL_isWell 124 = .ok (.invokevirtual 28, 3) := by decide +kernel
theorem dL_isWell_127 : decode cL_isWell 127 = .ok (.invokevirtual 21, 3) := by decide +kernel
theorem dL_isWell_130 : decode cL_isWell 130 = .ok (.iload 9, 2) := by decide +kernel
theorem dL_isWell_132 : decode cL_isWell 132 = .ok (.if_icmp .ne 19, 3) := by decide +kernel
theorem dL_isWell_135 : decode cL_isWell 135 = .ok (.aload_n 0, 1) := by decide +kernel
theorem dL_isWell_136 : decode cL_isWell 136 = .ok (.iload 9, 2) := by decide +kernel
theorem dL_isWell_138 : decode cL_isWell 138 = .ok (.iconst 3, 1) := by decide +kernel
theorem dL_isWell_139 : decode cL_isWell 139 = .ok (.invokevirtual 28, 3) := by decide +kernel
theorem dL_isWell_142 : decode cL_isWell 142 = .ok (.bipush 100, 2) := by decide +kernel
theorem dL_isWell_144 : decode cL_isWell 144 = .ok (.if_icmp .gt 7, 3) := by decide +kernel
theorem dL_isWell_147 : decode cL_isWell 147 = .ok (.iconst 1, 1) := by decide +kernel
theorem dL_isWell_148 : decode cL_isWell 148 = .ok (.goto 4, 3) := by decide +kernel
theorem dL_isWell_151 : decode cL_isWell 151 = .ok (.iconst 0, 1) := by decide +kernel
theorem dL_isWell_152 : decode cL_isWell 152 = .ok (.istore 8, 2) := by decide +kernel
theorem dL_isWell_154 : decode cL_isWell 154 = .ok (.iinc 9 1, 3) := by decide +kernel
theorem dL_isWell_157 : decode cL_isWell 157 = .ok (.goto (-83), 3) := by decide +kernel
theorem dL_isWell_160 : decode cL_isWell 160 = .ok (.iconst 0, 1) := by decide +kernel
theorem dL_isWell_161 : decode cL_isWell 161 = .ok (.istore 9, 2) := by decide +kernel
theorem dL_isWell_163 : decode cL_isWell 163 = .ok (.iload 9, 2) := by decide +kernel
theorem dL_isWell_165 : decode cL_isWell 165 = .ok (.bipush 11, 2) := by decide +kernel
theorem dL_isWell_167 : decode cL_isWell 167 = .ok (.if_icmp .ge 512, 3) := by decide +kernel
theorem dL_isWell_170 : decode cL_isWell 170 = .ok (.iload 8, 2) := by decide +kernel
theorem dL_isWell_172 : decode cL_isWell 172 = .ok (.ifCond .eq 507, 3) := by decide +kernel
theorem dL_isWell_175 : decode cL_isWell 175 = .ok (.iconst 0, 1) := by decide +kernel
theorem dL_isWell_176 : decode cL_isWell 176 = .ok (.istore 10, 2) := by decide +kernel
theorem dL_isWell_178 : decode cL_isWell 178 = .ok (.iconst 0, 1) := by decide +kernel
theorem dL_isWell_179 : decode cL_isWell 179 = .ok (.istore 11, 2) := by decide +kernel
theorem dL_isWell_181 : decode cL_isWell 181 = .ok (.iload 11, 2) := by decide +kernel
theorem dL_isWell_183 : decode cL_isWell 183 = .ok (.iconst 4, 1) := by decide +kernel
theorem dL_isWell_184 : decode cL_isWell 184 = .ok (.if_icmp .ge 315, 3) := by decide +kernel
theorem dL_isWell_187 : decode cL_isWell 187 = .ok (.iload 8, 2) := by decide +kernel
theorem dL_isWell_189 : decode cL_isWell 189 = .ok (.ifCond .eq 310, 3) := by decide +kernel
theorem dL_isWell_192 : decode cL_isWell 192 = .ok (.aload_n 0, 1) := by decide +kernel
theorem dL_isWell_193 : decode cL_isWell 193 = .ok (.iload 11, 2) := by decide +kernel
theorem dL_isWell_195 : decode cL_isWell 195 = .ok (.iload 9, 2) := by decide +kernel
theorem dL_isWell_197 : decode cL_isWell 197 = .ok (.iconst 1, 1) := by decide +kernel
theorem dL_isWell_198 : decode cL_isWell 198 = .ok (.invokevirtual 72, 3) := by decide +kernel
theorem dL_isWell_201 : decode cL_isWell 201 = .ok (.istore 12, 2) := by decide +kernel
theorem dL_isWell_203 : decode cL_isWell 203 = .ok (.aload_n 0, 1) := by decide +kernel
theorem dL_isWell_204 : decode cL_isWell 204 = .ok (.iload 11, 2) := by decide +kernel
theorem dL_isWell_206 : decode cL_isWell 206 = .ok (.iload 9, 2) := by decide +kernel
theorem dL_isWell_208 : decode cL_isWell 208 = .ok (.iconst 2, 1) := by decide +kernel
theorem dL_isWell_209 : decode cL_isWell 209 = .ok (.invokevirtual 72, 3) := by decide +kernel
theorem dL_isWell_212 : decode cL_isWell 212 = .ok (.istore 13, 2) := by decide +kernel
theorem dL_isWell_214 : decode cL_isWell 214 = .ok (.iconst 0, 1) := by decide +kernel
theorem dL_isWell_215 : decode cL_isWell 215 = .ok (.istore 14, 2) := by decide +kernel
theorem dL_isWell_217 : decode cL_isWell 217 = .ok (.iconst 0, 1) := by decide +kernel
theorem dL_isWell_218 : decode cL_isWell 218 = .ok (.istore 15, 2) := by decide +kernel
theorem dL_isWell_220 : decode cL_isWell 220 = .ok (.sipush 1000, 3) := by decide +kernel
theorem dL_isWell_223 : decode cL_isWell 223 = .ok (.istore 16, 2) := by decide +kernel
theorem dL_isWell_225 : decode cL_isWell 225 = .ok (.iconst 0, 1) := by decide +kernel
theorem dL_isWell_226 : decode cL_isWell 226 = .ok (.istore 17, 2) := by decide +kernel
theorem dL_isWell_228 : decode cL_isWell 228 = .ok (.iload 17, 2) := by decide +kernel
theorem dL_isWell_230 : decode cL_isWell 230 = .ok (.iload_n 1, 1) := by decide +kernel
theorem dL_isWell_231 : decode cL_isWell 231 = .ok (.if_icmp .ge 180, 3) := by decide +kernel
theorem dL_isWell_234 : decode cL_isWell 234 = .ok (.iload 12, 2) := by decide +kernel
theorem dL_isWell_236 : decode cL_isWell 236 = .ok (.iload 17, 2) := by decide +kernel
theorem dL_isWell_238 : decode cL_isWell 238 = .ok (.ishr, 1) := by decide +kernel
theorem dL_isWell_239 : decode cL_isWell 239 = .ok (.iconst 1, 1) := by decide +kernel
theorem dL_isWell_240 : decode cL_isWell 240 = .ok (.iand, 1) := by decide +kernel
theorem dL_isWell_241 : decode cL_isWell 241 = .ok (.iconst 1, 1) := by decide +kernel
theorem dL_isWell_242 : decode cL_isWell 242 = .ok (.if_icmp .ne 7, 3) := by decide +kernel
theorem dL_isWell_245 : decode cL_isWell 245 = .ok (.iconst 1, 1) := by decide +kernel
theorem dL_isWell_246 : decode cL_isWell 246 = .ok (.goto 4, 3) := by decide +kernel
theorem dL_isWell_249 : decode cL_isWell 249 = .ok (.iconst 0, 1) := by decide +kernel
theorem dL_isWell_250 : decode cL_isWell 250 = .ok (.istore 18, 2) := by decide +kernel
theorem dL_isWell_252 : decode cL_isWell 252 = .ok (.aload_n 0, 1) := by decide +kernel
theorem dL_isWell_253 : decode cL_isWell 253 = .ok (.iload 17, 2) := by decide +kernel
theorem dL_isWell_255 : decode cL_isWell 255 = .ok (.iload 9, 2) := by decide +kernel
theorem dL_isWell_257 : decode cL_isWell 257 = .ok (.iconst 1, 1) := by decide +kernel
theorem dL_isWell_258 : decode cL_isWell 258 = .ok (.invokevirtual 69, 3) := by decide +kernel
theorem dL_isWell_261 : decode cL_isWell 261 = .ok (.istore 19, 2) := by decide +kernel
theorem dL_isWell_263 : decode cL_isWell 263 = .ok (.iload 8, 2) := by decide +kernel
theorem dL_isWell_265 : decode cL_isWell 265 = .ok (.ifCond .eq 68, 3) := by decide +kernel
theorem dL_isWell_268 : decode cL_isWell 268 = .ok (.iload 18, 2) := by decide +kernel
theorem dL_isWell_270 : decode cL_isWell 270 = .ok (.aload_n 0, 1) := by decide +kernel
theorem dL_isWell_271 : decode cL_isWell 271 = .ok (.iload 17, 2) := by decide +kernel
theorem dL_isWell_273 : decode cL_isWell 273 = .ok (.iconst 2, 1) := by decide +kernel
theorem dL_isWell_274 : decode cL_isWell 274 = .ok (.invokevirtual 28, 3) := by decide +kernel
theorem dL_isWell_277 : decode cL_isWell 277 = .ok (.iload 11, 2) := by decide +kernel
theorem dL_isWell_279 : decode cL_isWell 279 = .ok (.if_icmp .ne 7, 3) := by decide +kernel
theorem dL_isWell_282 : decode cL_isWell 282 = .ok (.iconst 1, 1) := by decide +kernel
theorem dL_isWell_283 : decode cL_isWell 283 = .ok (.goto 4, 3) := by decide +kernel
theorem dL_isWell_286 : decode cL_isWell 286 = .ok (.iconst 0, 1) := by decide +kernel
theorem dL_isWell_287 : decode cL_isWell 287 = .ok (.if_icmp .ne 46, 3) := by decide +kernel
theorem dL_isWell_290 : decode cL_isWell 290 = .ok (.iload 18, 2) := by decide +kernel
theorem dL_isWell_292 : decode cL_isWell 292 = .ok (.ifCond .eq 22, 3) := by decide +kernel
theorem dL_isWell_295 : decode cL_isWell 295 = .ok (.iload 13, 2) := by decide +kernel
theorem dL_isWell_297 : decode cL_isWell 297 = .ok (.iload 17, 2) := by decide +kernel
theorem dL_isWell_299 : decode cL_isWell 299 = .ok (.ishr, 1) := by decide +kernel
theorem dL_isWell_300 : decode cL_isWell 300 = .ok (.iconst 1, 1) := by decide +kernel
theorem dL_isWell_301 : decode cL_isWell 301 = .ok (.iand, 1) := by decide +kernel
theorem dL_isWell_302 : decode cL_isWell 302 = .ok (.aload_n 0, 1) := by decide +kernel
theorem dL_isWell_303 : decode cL_isWell 303 = .ok (.iload 17, 2) := by decide +kernel
theorem dL_isWell_305 : decode cL_isWell 305 = .ok (.iload 9, 2) := by decide +kernel
theorem dL_isWell_307 : decode cL_isWell 307 = .ok (.iconst 2, 1) := by decide +kernel
theorem dL_isWell_308 : decode cL_isWell 308 = .ok (.invokevirtual 69, 3) := by decide +kernel
theorem dL_isWell_311 : decode cL_isWell 311 = .ok (.if_icmp .ne 22, 3) := by decide +kernel
theorem dL_isWell_314 : decode cL_isWell 314 = .ok (.iload 18, 2) := by decide +kernel
theorem dL_isWell_316 : decode cL_isWell 316 = .ok (.ifCond .ne 13, 3) := by decide +kernel
theorem dL_isWell_319 : decode cL_isWell 319 = .ok (.iload 13, 2) := by decide +kernel
theorem dL_isWell_321 : decode cL_isWell 321 = .ok (.iload 17, 2) := by decide +kernel
theorem dL_isWell_323 : decode cL_isWell 323 = .ok (.ishr, 1) := by decide +kernel
theorem dL_isWell_324 : decode cL_isWell 324 = .ok (.iconst 1, 1) := by decide +kernel
theorem dL_isWell_325 : decode cL_isWell 325 = .ok (.iand, 1) := by decide +kernel
theorem dL_isWell_326 : decode cL_isWell 326 = .ok (.ifCond .ne 7, 3) := by decide +kernel
theorem dL_isWell_329 : decode cL_isWell 329 = .ok (.iconst 1, 1) := by decide +kernel
theorem dL_isWell_330 : decode cL_isWell 330 = .ok (.goto 4, 3) := by decide +kernel
theorem dL_isWell_333 : decode cL_isWell 333 = .ok (.iconst 0, 1) := by decide +kernel
theorem dL_isWell_334 : decode cL_isWell 334 = .ok (.istore 8, 2) := by decide +kernel
theorem dL_isWell_336 : decode cL_isWell 336 = .ok (.iload 14, 2) := by decide +kernel
theorem dL_isWell_338 : decode cL_isWell 338 = .ok (.iload 13, 2) := by decide +kernel
theorem dL_isWell_340 : decode cL_isWell 340 = .ok (.iload 17, 2) := by decide +kernel
theorem dL_isWell_342 : decode cL_isWell 342 = .ok (.ishr, 1) := by decide +kernel
theorem dL_isWell_343 : decode cL_isWell 343 = .ok (.iconst 1, 1) := by decide +kernel
theorem dL_isWell_344 : decode cL_isWell 344 = .ok (.iand, 1) := by decide +kernel
theorem dL_isWell_345 : decode cL_isWell 345 = .ok (.iconst 1, 1) := by decide +kernel
theorem dL_isWell_346 : decode cL_isWell 346 = .ok (.if_icmp .ne 8, 3) := by decide +kernel
theorem dL_isWell_349 : decode cL_isWell 349 = .ok (.iload 19, 2) := by decide +kernel
theorem dL_isWell_351 : decode cL_isWell 351 = .ok (.goto 4, 3) := by decide +kernel
theorem dL_isWell_354 : decode cL_isWell 354 = .ok (.iconst 0, 1) := by decide +kernel
theorem dL_isWell_355 : decode cL_isWell 355 = .ok (.iadd, 1) := by decide +kernel
theorem dL_isWell_356 : decode cL_isWell 356 = .ok (.istore 14, 2) := by decide +kernel
theorem dL_isWell_358 : decode cL_isWell 358 = .ok (.iload 15, 2) := by decide +kernel
theorem dL_isWell_360 : decode cL_isWell 360 = .ok (.iload 18, 2) := by decide +kernel
theorem dL_isWell_362 : decode cL_isWell 362 = .ok (.ifCond .eq 8, 3) := by decide +kernel
theorem dL_isWell_365 : decode cL_isWell 365 = .ok (.iload 19, 2) := by decide +kernel
theorem dL_isWell_367 : decode cL_isWell 367 = .ok (.goto 4, 3) := by decide +kernel
theorem dL_isWell_370 : decode cL_isWell 370 = .ok (.iconst 0, 1) := by decide +kernel
theorem dL_isWell_371 : decode cL_isWell 371 = .ok (.iadd, 1) := by decide +kernel
theorem dL_isWell_372 : decode cL_isWell 372 = .ok (.istore 15, 2) := by decide +kernel
theorem dL_isWell_374 : decode cL_isWell 374 = .ok (.iload 18, 2) := by decide +kernel
theorem dL_isWell_376 : decode cL_isWell 376 = .ok (.ifCond .eq 25, 3) := by decide +kernel
theorem dL_isWell_379 : decode cL_isWell 379 = .ok (.iload 13, 2) := by decide +kernel
theorem dL_isWell_381 : decode cL_isWell 381 = .ok (.iload 17, 2) := by decide +kernel
theorem dL_isWell_383 : decode cL_isWell 383 = .ok (.ishr, 1) := by decide +kernel
theorem dL_isWell_384 : decode cL_isWell 384 = .ok (.iconst 1, 1) := by decide +kernel
theorem dL_isWell_385 : decode cL_isWell 385 = .ok (.iand, 1) := by decide +kernel
theorem dL_isWell_386 : decode cL_isWell 386 = .ok (.ifCond .ne 15, 3) := by decide +kernel
theorem dL_isWell_389 : decode cL_isWell 389 = .ok (.iload 19, 2) := by decide +kernel
theorem dL_isWell_391 : decode cL_isWell 391 = .ok (.iload 16, 2) := by decide +kernel
theorem dL_isWell_393 : decode cL_isWell 393 = .ok (.if_icmp .ge 8, 3) := by decide +kernel
theorem dL_isWell_396 : decode cL_isWell 396 = .ok (.iload 19, 2) := by decide +kernel
theorem dL_isWell_398 : decode cL_isWell 398 = .ok (.goto 5, 3) := by decide +kernel
theorem dL_isWell_401 : decode cL_isWell 401 = .ok (.iload 16, 2) := by decide +kernel
theorem dL_isWell_403 : decode cL_isWell 403 = .ok (.istore 16, 2) := by decide +kernel
theorem dL_isWell_405 : decode cL_isWell 405 = .ok (.iinc 17 1, 3) := by decide +kernel
theorem dL_isWell_408 : decode cL_isWell 408 = .ok (.goto (-180), 3) := by decide +kernel
theorem dL_isWell_411 : decode cL_isWell 411 = .ok (.iload 8, 2) := by decide +kernel
theorem dL_isWell_413 : decode cL_isWell 413 = .ok (.ifCond .eq 54, 3) := by decide +kernel
theorem dL_isWell_416 : decode cL_isWell 416 = .ok (.iload 14, 2) := by decide +kernel
theorem dL_isWell_418 : decode cL_isWell 418 = .ok (.aload_n 0, 1) := by decide +kernel
theorem dL_isWell_419 : decode cL_isWell 419 = .ok (.iload 11, 2) := by decide +kernel
theorem dL_isWell_421 : decode cL_isWell 421 = .ok (.iload 9, 2) := by decide +kernel
theorem dL_isWell_423 : decode cL_isWell 423 = .ok (.iconst 0, 1) := by decide +kernel
theorem dL_isWell_424 : decode cL_isWell 424 = .ok (.invokevirtual 72, 3) := by decide +kernel
theorem dL_isWell_427 : decode cL_isWell 427 = .ok (.if_icmp .ne 40, 3) := by decide +kernel
theorem dL_isWell_430 : decode cL_isWell 430 = .ok (.iload 14, 2) := by decide +kernel
theorem dL_isWell_432 : decode cL_isWell 432 = .ok (.iload_n 2, 1) := by decide +kernel
theorem dL_isWell_433 : decode cL_isWell 433 = .ok (.if_icmp .gt 34, 3) := by decide +kernel
theorem dL_isWell_436 : decode cL_isWell 436 = .ok (.iload 16, 2) := by decide +kernel
theorem dL_isWell_438 : decode cL_isWell 438 = .ok (.sipush 1000, 3) := by decide +kernel
theorem dL_isWell_441 : decode cL_isWell 441 = .ok (.if_icmp .ne 13, 3) := by decide +kernel
theorem dL_isWell_444 : decode cL_isWell 444 = .ok (.iload 13, 2) := by decide +kernel
theorem dL_isWell_446 : decode cL_isWell 446 = .ok (.iload 12, 2) := by decide +kernel
theorem dL_isWell_448 : decode cL_isWell 448 = .ok (.if_icmp .ne 19, 3) := by decide +kernel
theorem dL_isWell_451 : decode cL_isWell 451 = .ok (.goto 12, 3) := by decide +kernel
theorem dL_isWell_454 : decode cL_isWell 454 = .ok (.iload 14, 2) := by decide +kernel
theorem dL_isWell_456 : decode cL_isWell 456 = .ok (.iload 16, 2) := by decide +kernel
theorem dL_isWell_458 : decode cL_isWell 458 = .ok (.iadd, 1) := by decide +kernel
theorem dL_isWell_459 : decode cL_isWell 459 = .ok (.iload_n 2, 1) := by decide +kernel
theorem dL_isWell_460 : decode cL_isWell 460 = .ok (.if_icmp .le 7, 3) := by decide +kernel
theorem dL_isWell_463 : decode cL_isWell 463 = .ok (.iconst 1, 1) := by decide +kernel
theorem dL_isWell_464 : decode cL_isWell 464 = .ok (.goto 4, 3) := by decide +kernel
theorem dL_isWell_467 : decode cL_isWell 467 = .ok (.iconst 0, 1) := by decide +kernel
theorem dL_isWell_468 : decode cL_isWell 468 = .ok (.istore 8, 2) := by decide +kernel
theorem dL_isWell_470 : decode cL_isWell 470 = .ok (.iload 10, 2) := by decide +kernel
theorem dL_isWell_472 : decode cL_isWell 472 = .ok (.iload 14, 2) := by decide +kernel
theorem dL_isWell_474 : decode cL_isWell 474 = .ok (.iadd, 1) := by decide +kernel
theorem dL_isWell_475 : decode cL_isWell 475 = .ok (.istore 10, 2) := by decide +kernel
theorem dL_isWell_477 : decode cL_isWell 477 = .ok (.iload 15, 2) := by decide +kernel
theorem dL_isWell_479 : decode cL_isWell 479 = .ok (.iload 6, 2) := by decide +kernel
theorem dL_isWell_481 : decode cL_isWell 481 = .ok (.if_icmp .le 8, 3) := by decide +kernel
theorem dL_isWell_484 : decode cL_isWell 484 = .ok (.iload 15, 2) := by decide +kernel
theorem dL_isWell_486 : decode cL_isWell 486 = .ok (.goto 5, 3) := by decide +kernel
theorem dL_isWell_489 : decode cL_isWell 489 = .ok (.iload 6, 2) := by decide +kernel
theorem dL_isWell_491 : decode cL_isWell 491 = .ok (.istore 6, 2) := by decide +kernel
theorem dL_isWell_493 : decode cL_isWell 493 = .ok (.iinc 11 1, 3) := by decide +kernel
theorem dL_isWell_496 : decode cL_isWell 496 = .ok (.goto (-315), 3) := by decide +kernel
theorem dL_isWell_499 : decode cL_isWell 499 = .ok (.iload_n 3, 1) := by decide +kernel
theorem dL_isWell_500 : decode cL_isWell 500 = .ok (.iload 10, 2) := by decide +kernel
theorem dL_isWell_502 : decode cL_isWell 502 = .ok (.iadd, 1) := by decide +kernel
theorem dL_isWell_503 : decode cL_isWell 503 = .ok (.istore_n 3, 1) := by decide +kernel
theorem dL_isWell_504 : decode cL_isWell 504 = .ok (.iconst 0, 1) := by decide +kernel
theorem dL_isWell_505 : decode cL_isWell 505 = .ok (.istore 11, 2) := by decide +kernel
theorem dL_isWell_507 : decode cL_isWell 507 = .ok (.iload 11, 2) := by decide +kernel
theorem dL_isWell_509 : decode cL_isWell 509 = .ok (.iload_n 1, 1) := by decide +kernel
theorem dL_isWell_510 : decode cL_isWell 510 = .ok (.if_icmp .ge 163, 3) := by decide +kernel
theorem dL_isWell_513 : decode cL_isWell 513 = .ok (.aload_n 0, 1) := by decide +kernel
theorem dL_isWell_514 : decode cL_isWell 514 = .ok (.iload 11, 2) := by decide +kernel
theorem dL_isWell_516 : decode cL_isWell 516 = .ok (.iload 9, 2) := by decide +kernel
theorem dL_isWell_518 : decode cL_isWell 518 = .ok (.iconst 3, 1) := by decide +kernel
theorem dL_isWell_519 : decode cL_isWell 519 = .ok (.invokevirtual 69, 3) := by decide +kernel
theorem dL_isWell_522 : decode cL_isWell 522 = .ok (.istore 12, 2) := by decide +kernel
theorem dL_isWell_524 : decode cL_isWell 524 = .ok (.aload_n 0, 1) := by decide +kernel
theorem dL_isWell_525 : decode cL_isWell 525 = .ok (.iload 11, 2) := by decide +kernel
theorem dL_isWell_527 : decode cL_isWell 527 = .ok (.iload 9, 2) := by decide +kernel
theorem dL_isWell_529 : decode cL_isWell 529 = .ok (.iconst 1, 1) := by decide +kernel
theorem dL_isWell_530 : decode cL_isWell 530 = .ok (.invokevirtual 69, 3) := by decide +kernel
theorem dL_isWell_533 : decode cL_isWell 533 = .ok (.istore 13, 2) := by decide +kernel
theorem dL_isWell_535 : decode cL_isWell 535 = .ok (.iload 7, 2) := by decide +kernel
theorem dL_isWell_537 : decode cL_isWell 537 = .ok (.ifCond .ne 19, 3) := by decide +kernel
theorem dL_isWell_540 : decode cL_isWell 540 = .ok (.iload 12, 2) := by decide +kernel
theorem dL_isWell_542 : decode cL_isWell 542 = .ok (.ifCond .ge 14, 3) := by decide +kernel
theorem dL_isWell_545 : decode cL_isWell 545 = .ok (.aload_n 0, 1) := by decide +kernel
theorem dL_isWell_546 : decode cL_isWell 546 = .ok (.iload 11, 2) := by decide +kernel
theorem dL_isWell_548 : decode cL_isWell 548 = .ok (.iconst 4, 1) := by decide +kernel
theorem dL_isWell_549 : decode cL_isWell 549 = .ok (.invokevirtual 28, 3) := by decide +kernel
theorem dL_isWell_552 : decode cL_isWell 552 = .ok (.iconst 1, 1) := by decide +kernel
theorem dL_isWell_553 : decode cL_isWell 553 = .ok (.if_icmp .ne 7, 3) := by decide +kernel
theorem dL_isWell_556 : decode cL_isWell 556 = .ok (.iconst 1, 1) := by decide +kernel
theorem dL_isWell_557 : decode cL_isWell 557 = .ok (.goto 4, 3) := by decide +kernel
theorem dL_isWell_560 : decode cL_isWell 560 = .ok (.iconst 0, 1) := by decide +kernel
theorem dL_isWell_561 : decode cL_isWell 561 = .ok (.istore 14, 2) := by decide +kernel
theorem dL_isWell_563 : decode cL_isWell 563 = .ok (.iload 8, 2) := by decide +kernel
theorem dL_isWell_565 : decode cL_isWell 565 = .ok (.ifCond .eq 99, 3) := by decide +kernel
theorem dL_isWell_568 : decode cL_isWell 568 = .ok (.iload 12, 2) := by decide +kernel
theorem dL_isWell_570 : decode cL_isWell 570 = .ok (.ifCond .lt 7, 3) := by decide +kernel
theorem dL_isWell_573 : decode cL_isWell 573 = .ok (.iconst 1, 1) := by decide +kernel
theorem dL_isWell_574 : decode cL_isWell 574 = .ok (.goto 4, 3) := by decide +kernel
theorem dL_isWell_577 : decode cL_isWell 577 = .ok (.iconst 0, 1) := by decide +kernel
theorem dL_isWell_578 : decode cL_isWell 578 = .ok (.aload_n 0, 1) := by decide +kernel
theorem dL_isWell_579 : decode cL_isWell 579 = .ok (.iload 11, 2) := by decide +kernel
theorem dL_isWell_581 : decode cL_isWell 581 = .ok (.iload 9, 2) := by decide +kernel
theorem dL_isWell_583 : decode cL_isWell 583 = .ok (.iconst 0, 1) := by decide +kernel
theorem dL_isWell_584 : decode cL_isWell 584 = .ok (.invokevirtual 69, 3) := by decide +kernel
theorem dL_isWell_587 : decode cL_isWell 587 = .ok (.iconst 1, 1) := by decide +kernel
theorem dL_isWell_588 : decode cL_isWell 588 = .ok (.if_icmp .ne 7, 3) := by decide +kernel
theorem dL_isWell_591 : decode cL_isWell 591 = .ok (.iconst 1, 1) := by decide +kernel
theorem dL_isWell_592 : decode cL_isWell 592 = .ok (.goto 4, 3) := by decide +kernel
theorem dL_isWell_595 : decode cL_isWell 595 = .ok (.iconst 0, 1) := by decide +kernel
theorem dL_isWell_596 : decode cL_isWell 596 = .ok (.if_icmp .ne 68, 3) := by decide +kernel
theorem dL_isWell_599 : decode cL_isWell 599 = .ok (.iload 14, 2) := by decide +kernel
theorem dL_isWell_601 : decode cL_isWell 601 = .ok (.ifCond .eq 8, 3) := by decide +kernel
theorem dL_isWell_604 : decode cL_isWell 604 = .ok (.iload 13, 2) := by decide +kernel
theorem dL_isWell_606 : decode cL_isWell 606 = .ok (.ifCond .ne 58, 3) := by decide +kernel
theorem dL_isWell_609 : decode cL_isWell 609 = .ok (.iload 12, 2) := by decide +kernel
theorem dL_isWell_611 : decode cL_isWell 611 = .ok (.ifCond .lt 20, 3) := by decide +kernel
theorem dL_isWell_614 : decode cL_isWell 614 = .ok (.aload_n 0, 1) := by decide +kernel
theorem dL_isWell_615 : decode cL_isWell 615 = .ok (.iload 12, 2) := by decide +kernel
theorem dL_isWell_617 : decode cL_isWell 617 = .ok (.iconst 0, 1) := by decide +kernel
theorem dL_isWell_618 : decode cL_isWell 618 = .ok (.invokevirtual 28, 3) := by decide +kernel
theorem dL_isWell_621 : decode cL_isWell 621 = .ok (.aload_n 0, 1) := by decide +kernel
theorem dL_isWell_622 : decode cL_isWell 622 = .ok (.iload 11, 2) := by decide +kernel
theorem dL_isWell_624 : decode cL_isWell 624 = .ok (.iconst 0, 1) := by decide +kernel
theorem dL_isWell_625 : decode cL_isWell 625 = .ok (.invokevirtual 28, 3) := by decide +kernel
theorem dL_isWell_628 : decode cL_isWell 628 = .ok (.if_icmp .ge 36, 3) := by decide +kernel
theorem dL_isWell_631 : decode cL_isWell 631 = .ok (.iload 13, 2) := by decide +kernel
theorem dL_isWell_633 : decode cL_isWell 633 = .ok (.bipush 60, 2) := by decide +kernel
theorem dL_isWell_635 : decode cL_isWell 635 = .ok (.if_icmp .gt 29, 3) := by decide +kernel
theorem dL_isWell_638 : decode cL_isWell 638 = .ok (.iload 14, 2) := by decide +kernel
theorem dL_isWell_640 : decode cL_isWell 640 = .ok (.ifCond .ne 20, 3) := by decide +kernel
theorem dL_isWell_643 : decode cL_isWell 643 = .ok (.aload_n 0, 1) := by decide +kernel
theorem dL_isWell_644 : decode cL_isWell 644 = .ok (.iload 11, 2) := by decide +kernel
theorem dL_isWell_646 : decode cL_isWell 646 = .ok (.iconst 3, 1) := by decide +kernel
theorem dL_isWell_647 : decode cL_isWell 647 = .ok (.invokevirtual 28, 3) := by decide +kernel
theorem dL_isWell_650 : decode cL_isWell 650 = .ok (.bipush 50, 2) := by decide +kernel
theorem dL_isWell_652 : decode cL_isWell 652 = .ok (.if_icmp .gt 8, 3) := by decide +kernel
theorem dL_isWell_655 : decode cL_isWell 655 = .ok (.iload 13, 2) := by decide +kernel
theorem dL_isWell_657 : decode cL_isWell 657 = .ok (.ifCond .le 7, 3) := by decide +kernel
theorem dL_isWell_660 : decode cL_isWell 660 = .ok (.iconst 1, 1) := by decide +kernel
theorem dL_isWell_661 : decode cL_isWell 661 = .ok (.goto 4, 3) := by decide +kernel
theorem dL_isWell_664 : decode cL_isWell 664 = .ok (.iconst 0, 1) := by decide +kernel
theorem dL_isWell_665 : decode cL_isWell 665 = .ok (.istore 8, 2) := by decide +kernel
theorem dL_isWell_667 : decode cL_isWell 667 = .ok (.iinc 11 1, 3) := by decide +kernel
theorem dL_isWell_670 : decode cL_isWell 670 = .ok (.goto (-163), 3) := by decide +kernel
theorem dL_isWell_673 : decode cL_isWell 673 = .ok (.iinc 9 1, 3) := by decide +kernel
theorem dL_isWell_676 : decode cL_isWell 676 = .ok (.goto (-513), 3) := by decide +kernel
theorem dL_isWell_679 : decode cL_isWell 679 = .ok (.iload 8, 2) := by decide +kernel
theorem dL_isWell_681 : decode cL_isWell 681 = .ok (.ifCond .eq 47, 3) := by decide +kernel
theorem dL_isWell_684 : decode cL_isWell 684 = .ok (.iload_n 3, 1) := by decide +kernel
theorem dL_isWell_685 : decode cL_isWell 685 = .ok (.aload_n 0, 1) := by decide +kernel
theorem dL_isWell_686 : decode cL_isWell 686 = .ok (.iconst 5, 1) := by decide +kernel
theorem dL_isWell_687 : decode cL_isWell 687 = .ok (.invokevirtual 9, 3) := by decide +kernel
theorem dL_isWell_690 : decode cL_isWell 690 = .ok (.if_icmp .ne 38, 3) := by decide +kernel
theorem dL_isWell_693 : decode cL_isWell 693 = .ok (.iload 4, 2) := by decide +kernel
theorem dL_isWell_695 : decode cL_isWell 695 = .ok (.aload_n 0, 1) := by decide +kernel
theorem dL_isWell_696 : decode cL_isWell 696 = .ok (.bipush 7, 2) := by decide +kernel
theorem dL_isWell_698 : decode cL_isWell 698 = .ok (.invokevirtual 9, 3) := by decide +kernel
theorem dL_isWell_701 : decode cL_isWell 701 = .ok (.if_icmp .ne 27, 3) := by decide +kernel
theorem dL_isWell_704 : decode cL_isWell 704 = .ok (.iload 5, 2) := by decide +kernel
theorem dL_isWell_706 : decode cL_isWell 706 = .ok (.aload_n 0, 1) := by decide +kernel
theorem dL_isWell_707 : decode cL_isWell 707 = .ok (.bipush 6, 2) := by decide +kernel
theorem dL_isWell_709 : decode cL_isWell 709 = .ok (.invokevirtual 9, 3) := by decide +kernel
theorem dL_isWell_712 : decode cL_isWell 712 = .ok (.if_icmp .ne 16, 3) := by decide +kernel
theorem dL_isWell_715 : decode cL_isWell 715 = .ok (.iload 6, 2) := by decide +kernel
theorem dL_isWell_717 : decode cL_isWell 717 = .ok (.aload_n 0, 1) := by decide +kernel
theorem dL_isWell_718 : decode cL_isWell 718 = .ok (.invokevirtual 66, 3) := by decide +kernel
theorem dL_isWell_721 : decode cL_isWell 721 = .ok (.if_icmp .ne 7, 3) := by decide +kernel
theorem dL_isWell_724 : decode cL_isWell 724 = .ok (.iconst 1, 1) := by decide +kernel
theorem dL_isWell_725 : decode cL_isWell 725 = .ok (.goto 4, 3) := by decide +kernel
theorem dL_isWell_728 : decode cL_isWell 728 = .ok (.iconst 0, 1) := by decide +kernel
theorem dL_isWell_729 : decode cL_isWell 729 = .ok (.ireturn, 1) := by decide +kernel
theorem dL_law_0 : decode cL_law 0 = .ok (.new 10, 3) := by decide +kernel
theorem dL_law_3 : decode cL_law 3 = .ok (.dup, 1) := by decide +kernel
theorem dL_law_4 : decode cL_law 4 = .ok (.invokespecial 75, 3) := by decide +kernel
theorem dL_law_7 : decode cL_law 7 = .ok (.astore_n 1, 1) := by decide +kernel
theorem dL_law_8 : decode cL_law 8 = .ok (.new 10, 3) := by decide +kernel
theorem dL_law_11 : decode cL_law 11 = .ok (.dup, 1) := by decide +kernel
theorem dL_law_12 : decode cL_law 12 = .ok (.invokespecial 75, 3) := by decide +kernel
theorem dL_law_15 : decode cL_law 15 = .ok (.astore_n 2, 1) := by decide +kernel
theorem dL_law_16 : decode cL_law 16 = .ok (.iconst 1, 1) := by decide +kernel
theorem dL_law_17 : decode cL_law 17 = .ok (.istore_n 3, 1) := by decide +kernel
theorem dL_law_18 : decode cL_law 18 = .ok (.iconst 0, 1) := by decide +kernel
theorem dL_law_19 : decode cL_law 19 = .ok (.istore 4, 2) := by decide +kernel
theorem dL_law_21 : decode cL_law 21 = .ok (.iload 4, 2) := by decide +kernel
theorem dL_law_23 : decode cL_law 23 = .ok (.bipush 44, 2) := by decide +kernel
theorem dL_law_25 : decode cL_law 25 = .ok (.if_icmp .ge 58, 3) := by decide +kernel
theorem dL_law_28 : decode cL_law 28 = .ok (.iload_n 3, 1) := by decide +kernel
theorem dL_law_29 : decode cL_law 29 = .ok (.ifCond .eq 54, 3) := by decide +kernel
theorem dL_law_32 : decode cL_law 32 = .ok (.aload_n 1, 1) := by decide +kernel
theorem dL_law_33 : decode cL_law 33 = .ok (.aload_n 2, 1) := by decide +kernel
theorem dL_law_34 : decode cL_law 34 = .ok (.aload_n 0, 1) := by decide +kernel
theorem dL_law_35 : decode cL_law 35 = .ok (.iload 4, 2) := by decide +kernel
theorem dL_law_37 : decode cL_law 37 = .ok (.invokestatic 76, 3) := by decide +kernel
theorem dL_law_40 : decode cL_law 40 = .ok (.aload_n 0, 1) := by decide +kernel
theorem dL_law_41 : decode cL_law 41 = .ok (.iload 4, 2) := by decide +kernel
theorem dL_law_43 : decode cL_law 43 = .ok (.iconst 1, 1) := by decide +kernel
theorem dL_law_44 : decode cL_law 44 = .ok (.iadd, 1) := by decide +kernel
theorem dL_law_45 : decode cL_law 45 = .ok (.invokestatic 76, 3) := by decide +kernel
theorem dL_law_48 : decode cL_law 48 = .ok (.iconst 2, 1) := by decide +kernel
theorem dL_law_49 : decode cL_law 49 = .ok (.ishr, 1) := by decide +kernel
theorem dL_law_50 : decode cL_law 50 = .ok (.invokestatic 80, 3) := by decide +kernel
theorem dL_law_53 : decode cL_law 53 = .ok (.ifCond .eq 22, 3) := by decide +kernel
theorem dL_law_56 : decode cL_law 56 = .ok (.iload 4, 2) := by decide +kernel
theorem dL_law_58 : decode cL_law 58 = .ok (.bipush 9, 2) := by decide +kernel
theorem dL_law_60 : decode cL_law 60 = .ok (.irem, 1) := by decide +kernel
theorem dL_law_61 : decode cL_law 61 = .ok (.ifCond .gt 10, 3) := by decide +kernel
theorem dL_law_64 : decode cL_law 64 = .ok (.aload_n 1, 1) := by decide +kernel
theorem dL_law_65 : decode cL_law 65 = .ok (.invokestatic 83, 3) := by decide +kernel
theorem dL_law_68 : decode cL_law 68 = .ok (.ifCond .eq 7, 3) := by decide +kernel
theorem dL_law_71 : decode cL_law 71 = .ok (.iconst 1, 1) := by decide +kernel
theorem dL_law_72 : decode cL_law 72 = .ok (.goto 4, 3) := by decide +kernel
theorem dL_law_75 : decode cL_law 75 = .ok (.iconst 0, 1) := by decide +kernel
theorem dL_law_76 : decode cL_law 76 = .ok (.istore_n 3, 1) := by decide +kernel
theorem dL_law_77 : decode cL_law 77 = .ok (.iinc 4 1, 3) := by decide +kernel
theorem dL_law_80 : decode cL_law 80 = .ok (.goto (-59), 3) := by decide +kernel
theorem dL_law_83 : decode cL_law 83 = .ok (.iload_n 3, 1) := by decide +kernel
theorem dL_law_84 : decode cL_law 84 = .ok (.ifCond .eq 22, 3) := by decide +kernel
theorem dL_law_87 : decode cL_law 87 = .ok (.aload_n 1, 1) := by decide +kernel
theorem dL_law_88 : decode cL_law 88 = .ok (.invokestatic 83, 3) := by decide +kernel
theorem dL_law_91 : decode cL_law 91 = .ok (.ifCond .eq 15, 3) := by decide +kernel
theorem dL_law_94 : decode cL_law 94 = .ok (.aload_n 1, 1) := by decide +kernel
theorem dL_law_95 : decode cL_law 95 = .ok (.aload_n 2, 1) := by decide +kernel
theorem dL_law_96 : decode cL_law 96 = .ok (.invokestatic 87, 3) := by decide +kernel
theorem dL_law_99 : decode cL_law 99 = .ok (.ifCond .eq 7, 3) := by decide +kernel
theorem dL_law_102 : decode cL_law 102 = .ok (.iconst 1, 1) := by decide +kernel
theorem dL_law_103 : decode cL_law 103 = .ok (.goto 4, 3) := by decide +kernel
theorem dL_law_106 : decode cL_law 106 = .ok (.iconst 0, 1) := by decide +kernel
theorem dL_law_107 : decode cL_law 107 = .ok (.ireturn, 1) := by decide +kernel
