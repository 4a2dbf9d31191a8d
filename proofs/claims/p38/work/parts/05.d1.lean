theorem dJ9_max_f86c9_2 : decode cJ9_max_f86c9 2 = .ok (.lcmp, 1) := by decide +kernel
theorem dJ9_max_f86c9_3 : decode cJ9_max_f86c9 3 = .ok (.ifCond .lt 7, 3) := by decide +kernel
theorem dJ9_max_f86c9_6 : decode cJ9_max_f86c9 6 = .ok (.lload_n 0, 1) := by decide +kernel
theorem dJ9_max_f86c9_7 : decode cJ9_max_f86c9 7 = .ok (.goto 4, 3) := by decide +kernel
theorem dJ9_max_f86c9_10 : decode cJ9_max_f86c9 10 = .ok (.lload_n 2, 1) := by decide +kernel
theorem dJ9_max_f86c9_11 : decode cJ9_max_f86c9 11 = .ok (.lreturn, 1) := by decide +kernel
theorem dJ9_min_f86c9_0 : decode cJ9_min_f86c9 0 = .ok (.lload_n 0, 1) := by decide +kernel
theorem dJ9_min_f86c9_1 : decode cJ9_min_f86c9 1 = .ok (.lload_n 2, 1) := by decide +kernel
theorem dJ9_min_f86c9_2 : decode cJ9_min_f86c9 2 = .ok (.lcmp, 1) := by decide +kernel
theorem dJ9_min_f86c9_3 : decode cJ9_min_f86c9 3 = .ok (.ifCond .gt 7, 3) := by decide +kernel
theorem dJ9_min_f86c9_6 : decode cJ9_min_f86c9 6 = .ok (.lload_n 0, 1) := by decide +kernel
theorem dJ9_min_f86c9_7 : decode cJ9_min_f86c9 7 = .ok (.goto 4, 3) := by decide +kernel
theorem dJ9_min_f86c9_10 : decode cJ9_min_f86c9 10 = .ok (.lload_n 2, 1) := by decide +kernel
theorem dJ9_min_f86c9_11 : decode cJ9_min_f86c9 11 = .ok (.lreturn, 1) := by decide +kernel
theorem dL_cell_0 : decode cL_cell 0 = .ok (.iload_n 1, 1) := by decide +kernel
theorem dL_cell_1 : decode cL_cell 1 = .ok (.aload_n 0, 1) := by decide +kernel
theorem dL_cell_2 : decode cL_cell 2 = .ok (.arraylength, 1) := by decide +kernel
theorem dL_cell_3 : decode cL_cell 3 = .ok (.if_icmp .ge 9, 3) := by decide +kernel
theorem dL_cell_6 : decode cL_cell 6 = .ok (.aload_n 0, 1) := by decide +kernel
theorem dL_cell_7 : decode cL_cell 7 = .ok (.iload_n 1, 1) := by decide +kernel
theorem dL_cell_8 : decode cL_cell 8 = .ok (.iaload, 1) := by decide +kernel
theorem dL_cell_9 : decode cL_cell 9 = .ok (.goto 15, 3) := by decide +kernel
theorem dL_cell_12 : decode cL_cell 12 = .ok (.sipush 7919, 3) := by decide +kernel
theorem dL_cell_15 : decode cL_cell 15 = .ok (.iload_n 1, 1) := by decide +kernel
theorem dL_cell_16 : decode cL_cell 16 = .ok (.iconst 3, 1) := by decide +kernel
theorem dL_cell_17 : decode cL_cell 17 = .ok (.iadd, 1) := by decide +kernel
theorem dL_cell_18 : decode cL_cell 18 = .ok (.imul, 1) := by decide +kernel
theorem dL_cell_19 : decode cL_cell 19 = .ok (.iload_n 1, 1) := by decide +kernel
theorem dL_cell_20 : decode cL_cell 20 = .ok (.bipush 11, 2) := by decide +kernel
theorem dL_cell_22 : decode cL_cell 22 = .ok (.iadd, 1) := by decide +kernel
theorem dL_cell_23 : decode cL_cell 23 = .ok (.imul, 1) := by decide +kernel
theorem dL_cell_24 : decode cL_cell 24 = .ok (.ireturn, 1) := by decide +kernel
theorem dL_low_0 : decode cL_low 0 = .ok (.iload_n 0, 1) := by decide +kernel
theorem dL_low_1 : decode cL_low 1 = .ok (.ldc 7, 2) := by decide +kernel
theorem dL_low_3 : decode cL_low 3 = .ok (.iand, 1) := by decide +kernel
theorem dL_low_4 : decode cL_low 4 = .ok (.iload_n 1, 1) := by decide +kernel
theorem dL_low_5 : decode cL_low 5 = .ok (.irem, 1) := by decide +kernel
theorem dL_low_6 : decode cL_low 6 = .ok (.ireturn, 1) := by decide +kernel
theorem dL_told_0 : decode cL_told 0 = .ok (.ldc2_w 8, 3) := by decide +kernel
theorem dL_told_3 : decode cL_told 3 = .ok (.lstore_n 1, 1) := by decide +kernel
theorem dL_told_4 : decode cL_told 4 = .ok (.iconst 0, 1) := by decide +kernel
theorem dL_told_5 : decode cL_told 5 = .ok (.istore_n 3, 1) := by decide +kernel
theorem dL_told_6 : decode cL_told 6 = .ok (.iload_n 3, 1) := by decide +kernel
theorem dL_told_7 : decode cL_told 7 = .ok (.bipush 6, 2) := by decide +kernel
theorem dL_told_9 : decode cL_told 9 = .ok (.if_icmp .ge 33, 3) := by decide +kernel
theorem dL_told_12 : decode cL_told 12 = .ok (.ldc2_w 10, 3) := by decide +kernel
theorem dL_told_15 : decode cL_told 15 = .ok (.ldc2_w 10, 3) := by decide +kernel
theorem dL_told_18 : decode cL_told 18 = .ok (.lload_n 1, 1) := by decide +kernel
theorem dL_told_19 : decode cL_told 19 = .ok (.lmul, 1) := by decide +kernel
theorem dL_told_20 : decode cL_told 20 = .ok (.aload_n 0, 1) := by decide +kernel
theorem dL_told_21 : decode cL_told 21 = .ok (.iload_n 3, 1) := by decide +kernel
theorem dL_told_22 : decode cL_told 22 = .ok (.invokevirtual 12, 3) := by decide +kernel
theorem dL_told_25 : decode cL_told 25 = .ok (.i2l, 1) := by decide +kernel
theorem dL_told_26 : decode cL_told 26 = .ok (.ladd, 1) := by decide +kernel
theorem dL_told_27 : decode cL_told 27 = .ok (.lmul, 1) := by decide +kernel
theorem dL_told_28 : decode cL_told 28 = .ok (.aload_n 0, 1) := by decide +kernel
theorem dL_told_29 : decode cL_told 29 = .ok (.iload_n 3, 1) := by decide +kernel
theorem dL_told_30 : decode cL_told 30 = .ok (.invokevirtual 18, 3) := by decide +kernel
theorem dL_told_33 : decode cL_told 33 = .ok (.i2l, 1) := by decide +kernel
theorem dL_told_34 : decode cL_told 34 = .ok (.ladd, 1) := by decide +kernel
theorem dL_told_35 : decode cL_told 35 = .ok (.lstore_n 1, 1) := by decide +kernel
theorem dL_told_36 : decode cL_told 36 = .ok (.iinc 3 1, 3) := by decide +kernel
theorem dL_told_39 : decode cL_told 39 = .ok (.goto (-33), 3) := by decide +kernel
theorem dL_told_42 : decode cL_told 42 = .ok (.lload_n 1, 1) := by decide +kernel
theorem dL_told_43 : decode cL_told 43 = .ok (.lreturn, 1) := by decide +kernel
theorem dL_act_0 : decode cL_act 0 = .ok (.iload_n 1, 1) := by decide +kernel
theorem dL_act_1 : decode cL_act 1 = .ok (.iconst 4, 1) := by decide +kernel
theorem dL_act_2 : decode cL_act 2 = .ok (.ishr, 1) := by decide +kernel
theorem dL_act_3 : decode cL_act 3 = .ok (.bipush 6, 2) := by decide +kernel
theorem dL_act_5 : decode cL_act 5 = .ok (.invokestatic 21, 3) := by decide +kernel
theorem dL_act_8 : decode cL_act 8 = .ok (.istore_n 3, 1) := by decide +kernel
theorem dL_act_9 : decode cL_act 9 = .ok (.iload_n 1, 1) := by decide +kernel
theorem dL_act_10 : decode cL_act 10 = .ok (.bipush 7, 2) := by decide +kernel
theorem dL_act_12 : decode cL_act 12 = .ok (.ishr, 1) := by decide +kernel
theorem dL_act_13 : decode cL_act 13 = .ok (.bipush 6, 2) := by decide +kernel
theorem dL_act_15 : decode cL_act 15 = .ok (.invokestatic 21, 3) := by decide +kernel
theorem dL_act_18 : decode cL_act 18 = .ok (.istore 4, 2) := by decide +kernel
theorem dL_act_20 : decode cL_act 20 = .ok (.aload_n 0, 1) := by decide +kernel
theorem dL_act_21 : decode cL_act 21 = .ok (.iload_n 3, 1) := by decide +kernel
theorem dL_act_22 : decode cL_act 22 = .ok (.invokevirtual 12, 3) := by decide +kernel
theorem dL_act_25 : decode cL_act 25 = .ok (.istore 5, 2) := by decide +kernel
theorem dL_act_27 : decode cL_act 27 = .ok (.aload_n 0, 1) := by decide +kernel
theorem dL_act_28 : decode cL_act 28 = .ok (.iload_n 3, 1) := by decide +kernel
theorem dL_act_29 : decode cL_act 29 = .ok (.invokevirtual 18, 3) := by decide +kernel
theorem dL_act_32 : decode cL_act 32 = .ok (.istore 6, 2) := by decide +kernel
theorem dL_act_34 : decode cL_act 34 = .ok (.iload 5, 2) := by decide +kernel
theorem dL_act_36 : decode cL_act 36 = .ok (.sipush 1000, 3) := by decide +kernel
theorem dL_act_39 : decode cL_act 39 = .ok (.if_icmp .ge 39, 3) := by decide +kernel
theorem dL_act_42 : decode cL_act 42 = .ok (.iload 6, 2) := by decide +kernel
theorem dL_act_44 : decode cL_act 44 = .ok (.sipush 1000, 3) := by decide +kernel
theorem dL_act_47 : decode cL_act 47 = .ok (.if_icmp .ge 31, 3) := by decide +kernel
theorem dL_act_50 : decode cL_act 50 = .ok (.aload_n 0, 1) := by decide +kernel
theorem dL_act_51 : decode cL_act 51 = .ok (.iload 4, 2) := by decide +kernel
theorem dL_act_53 : decode cL_act 53 = .ok (.invokevirtual 12, 3) := by decide +kernel
theorem dL_act_56 : decode cL_act 56 = .ok (.sipush 400, 3) := by decide +kernel
theorem dL_act_59 : decode cL_act 59 = .ok (.if_icmp .ge 19, 3) := by decide +kernel
theorem dL_act_62 : decode cL_act 62 = .ok (.aload_n 0, 1) := by decide +kernel
theorem dL_act_63 : decode cL_act 63 = .ok (.iload 4, 2) := by decide +kernel
theorem dL_act_65 : decode cL_act 65 = .ok (.invokevirtual 18, 3) := by decide +kernel
theorem dL_act_68 : decode cL_act 68 = .ok (.sipush 500, 3) := by decide +kernel
theorem dL_act_71 : decode cL_act 71 = .ok (.if_icmp .ge 7, 3) := by decide +kernel
theorem dL_act_74 : decode cL_act 74 = .ok (.iconst 1, 1) := by decide +kernel
theorem dL_act_75 : decode cL_act 75 = .ok (.goto 4, 3) := by decide +kernel
theorem dL_act_78 : decode cL_act 78 = .ok (.iconst 0, 1) := by decide +kernel
theorem dL_act_79 : decode cL_act 79 = .ok (.istore 7, 2) := by decide +kernel
theorem dL_act_81 : decode cL_act 81 = .ok (.iload_n 1, 1) := by decide +kernel
theorem dL_act_82 : decode cL_act 82 = .ok (.bipush 15, 2) := by decide +kernel
theorem dL_act_84 : decode cL_act 84 = .ok (.iand, 1) := by decide +kernel
theorem dL_act_85 : decode cL_act 85 = .ok (.tableswitch 236 0 13 #[71, 71, 71, 71, 71, 124, 124, 141, 168, 168, 185, 195, 210, 210], 71) := by decide +kernel
theorem dL_act_156 : decode cL_act 156 = .ok (.aload_n 0, 1) := by decide +kernel
theorem dL_act_157 : decode cL_act 157 = .ok (.iload_n 3, 1) := by decide +kernel
theorem dL_act_158 : decode cL_act 158 = .ok (.iload_n 2, 1) := by decide +kernel
theorem dL_act_159 : decode cL_act 159 = .ok (.iload_n 2, 1) := by decide +kernel
theorem dL_act_160 : decode cL_act 160 = .ok (.bipush 20, 2) := by decide +kernel
theorem dL_act_162 : decode cL_act 162 = .ok (.ishr, 1) := by decide +kernel
theorem dL_act_163 : decode cL_act 163 = .ok (.iconst 1, 1) := by decide +kernel
theorem dL_act_164 : decode cL_act 164 = .ok (.iand, 1) := by decide +kernel
theorem dL_act_165 : decode cL_act 165 = .ok (.ifCond .ne 8, 3) := by decide +kernel
theorem dL_act_168 : decode cL_act 168 = .ok (.bipush 40, 2) := by decide +kernel
theorem dL_act_170 : decode cL_act 170 = .ok (.goto 5, 3) := by decide +kernel
theorem dL_act_173 : decode cL_act 173 = .ok (.ldc 27, 2) := by decide +kernel
theorem dL_act_175 : decode cL_act 175 = .ok (.invokestatic 21, 3) := by decide +kernel
theorem dL_act_178 : decode cL_act 178 = .ok (.iconst 1, 1) := by decide +kernel
theorem dL_act_179 : decode cL_act 179 = .ok (.iload_n 2, 1) := by decide +kernel
theorem dL_act_180 : decode cL_act 180 = .ok (.bipush 6, 2) := by decide +kernel
theorem dL_act_182 : decode cL_act 182 = .ok (.ishr, 1) := by decide +kernel
theorem dL_act_183 : decode cL_act 183 = .ok (.iload_n 2, 1) := by decide +kernel
theorem dL_act_184 : decode cL_act 184 = .ok (.bipush 19, 2) := by decide +kernel
theorem dL_act_186 : decode cL_act 186 = .ok (.ishr, 1) := by decide +kernel
theorem dL_act_187 : decode cL_act 187 = .ok (.iconst 1, 1) := by decide +kernel
theorem dL_act_188 : decode cL_act 188 = .ok (.iand, 1) := by decide +kernel
theorem dL_act_189 : decode cL_act 189 = .ok (.ifCond .ne 8, 3) := by decide +kernel
theorem dL_act_192 : decode cL_act 192 = .ok (.bipush 60, 2) := by decide +kernel
theorem dL_act_194 : decode cL_act 194 = .ok (.goto 5, 3) := by decide +kernel
theorem dL_act_197 : decode cL_act 197 = .ok (.ldc 28, 2) := by decide +kernel
theorem dL_act_199 : decode cL_act 199 = .ok (.invokestatic 21, 3) := by decide +kernel
theorem dL_act_202 : decode cL_act 202 = .ok (.iadd, 1) := by decide +kernel
theorem dL_act_203 : decode cL_act 203 = .ok (.invokevirtual 29, 3) := by decide +kernel
theorem dL_act_206 : decode cL_act 206 = .ok (.pop, 1) := by decide +kernel
theorem dL_act_207 : decode cL_act 207 = .ok (.iconst 1, 1) := by decide +kernel
theorem dL_act_208 : decode cL_act 208 = .ok (.ireturn, 1) := by decide +kernel
theorem dL_act_209 : decode cL_act 209 = .ok (.iload 7, 2) := by decide +kernel
theorem dL_act_211 : decode cL_act 211 = .ok (.ifCond .ne 5, 3) := by decide +kernel
theorem dL_act_214 : decode cL_act 214 = .ok (.iconst 0, 1) := by decide +kernel
theorem dL_act_215 : decode cL_act 215 = .ok (.ireturn, 1) := by decide +kernel
theorem dL_act_216 : decode cL_act 216 = .ok (.aload_n 0, 1) := by decide +kernel
theorem dL_act_217 : decode cL_act 217 = .ok (.iload_n 3, 1) := by decide +kernel
theorem dL_act_218 : decode cL_act 218 = .ok (.iload 4, 2) := by decide +kernel
theorem dL_act_220 : decode cL_act 220 = .ok (.invokevirtual 33, 3) := by decide +kernel
theorem dL_act_223 : decode cL_act 223 = .ok (.pop, 1) := by decide +kernel
theorem dL_act_224 : decode cL_act 224 = .ok (.iconst 1, 1) := by decide +kernel
theorem dL_act_225 : decode cL_act 225 = .ok (.ireturn, 1) := by decide +kernel
theorem dL_act_226 : decode cL_act 226 = .ok (.iload 7, 2) := by decide +kernel
theorem dL_act_228 : decode cL_act 228 = .ok (.ifCond .eq 13, 3) := by decide +kernel
theorem dL_act_231 : decode cL_act 231 = .ok (.aload_n 0, 1) := by decide +kernel
theorem dL_act_232 : decode cL_act 232 = .ok (.iload_n 3, 1) := by decide +kernel
theorem dL_act_233 : decode cL_act 233 = .ok (.iload 4, 2) := by decide +kernel
theorem dL_act_235 : decode cL_act 235 = .ok (.invokevirtual 36, 3) := by decide +kernel
theorem dL_act_238 : decode cL_act 238 = .ok (.ifCond .ge 5, 3) := by decide +kernel
theorem dL_act_241 : decode cL_act 241 = .ok (.iconst 0, 1) := by decide +kernel
theorem dL_act_242 : decode cL_act 242 = .ok (.ireturn, 1) := by decide +kernel
theorem dL_act_243 : decode cL_act 243 = .ok (.aload_n 0, 1) := by decide +kernel
theorem dL_act_244 : decode cL_act 244 = .ok (.iload_n 3, 1) := by decide +kernel
theorem dL_act_245 : decode cL_act 245 = .ok (.iload 4, 2) := by decide +kernel
theorem dL_act_247 : decode cL_act 247 = .ok (.invokevirtual 39, 3) := by decide +kernel
theorem dL_act_250 : decode cL_act 250 = .ok (.pop, 1) := by decide +kernel
theorem dL_act_251 : decode cL_act 251 = .ok (.iconst 1, 1) := by decide +kernel
theorem dL_act_252 : decode cL_act 252 = .ok (.ireturn, 1) := by decide +kernel
theorem dL_act_253 : decode cL_act 253 = .ok (.iload 7, 2) := by decide +kernel
theorem dL_act_255 : decode cL_act 255 = .ok (.ifCond .ne 5, 3) := by decide +kernel
theorem dL_act_258 : decode cL_act 258 = .ok (.iconst 0, 1) := by decide +kernel
theorem dL_act_259 : decode cL_act 259 = .ok (.ireturn, 1) := by decide +kernel
theorem dL_act_260 : decode cL_act 260 = .ok (.aload_n 0, 1) := by decide +kernel
theorem dL_act_261 : decode cL_act 261 = .ok (.iload_n 3, 1) := by decide +kernel
theorem dL_act_262 : decode cL_act 262 = .ok (.iload 4, 2) := by decide +kernel
theorem dL_act_264 : decode cL_act 264 = .ok (.invokevirtual 42, 3) := by decide +kernel
theorem dL_act_267 : decode cL_act 267 = .ok (.pop, 1) := by decide +kernel
theorem dL_act_268 : decode cL_act 268 = .ok (.iconst 1, 1) := by decide +kernel
theorem dL_act_269 : decode cL_act 269 = .ok (.ireturn, 1) := by decide +kernel
theorem dL_act_270 : decode cL_act 270 = .ok (.aload_n 0, 1) := by decide +kernel
theorem dL_act_271 : decode cL_act 271 = .ok (.iload_n 3, 1) := by decide +kernel
theorem dL_act_272 : decode cL_act 272 = .ok (.iload 4, 2) := by decide +kernel
theorem dL_act_274 : decode cL_act 274 = .ok (.invokevirtual 45, 3) := by decide +kernel
theorem dL_act_277 : decode cL_act 277 = .ok (.pop, 1) := by decide +kernel
theorem dL_act_278 : decode cL_act 278 = .ok (.iconst 1, 1) := by decide +kernel
theorem dL_act_279 : decode cL_act 279 = .ok (.ireturn, 1) := by decide +kernel
theorem dL_act_280 : decode cL_act 280 = .ok (.iload 5, 2) := by decide +kernel
theorem dL_act_282 : decode cL_act 282 = .ok (.ifCond .ne 5, 3) := by decide +kernel
theorem dL_act_285 : decode cL_act 285 = .ok (.iconst 0, 1) := by decide +kernel
theorem dL_act_286 : decode cL_act 286 = .ok (.ireturn, 1) := by decide +kernel
theorem dL_act_287 : decode cL_act 287 = .ok (.aload_n 0, 1) := by decide +kernel
theorem dL_act_288 : decode cL_act 288 = .ok (.iload_n 3, 1) := by decide +kernel
theorem dL_act_289 : decode cL_act 289 = .ok (.invokevirtual 49, 3) := by decide +kernel
theorem dL_act_292 : decode cL_act 292 = .ok (.pop, 1) := by decide +kernel
theorem dL_act_293 : decode cL_act 293 = .ok (.iconst 1, 1) := by decide +kernel
theorem dL_act_294 : decode cL_act 294 = .ok (.ireturn, 1) := by decide +kernel
theorem dL_act_295 : decode cL_act 295 = .ok (.iload 6, 2) := by decide +kernel
theorem dL_act_297 : decode cL_act 297 = .ok (.sipush 10000, 3) := by decide +kernel
theorem dL_act_300 : decode cL_act 300 = .ok (.if_icmp .le 5, 3) := by decide +kernel
theorem dL_act_303 : decode cL_act 303 = .ok (.iconst 0, 1) := by decide +kernel
theorem dL_act_304 : decode cL_act 304 = .ok (.ireturn, 1) := by decide +kernel
theorem dL_act_305 : decode cL_act 305 = .ok (.aload_n 0, 1) := by decide +kernel
theorem dL_act_306 : decode cL_act 306 = .ok (.iload_n 3, 1) := by decide +kernel
theorem dL_act_307 : decode cL_act 307 = .ok (.iconst 1, 1) := by decide +kernel
theorem dL_act_308 : decode cL_act 308 = .ok (.iload_n 2, 1) := by decide +kernel
theorem dL_act_309 : decode cL_act 309 = .ok (.bipush 100, 2) := by decide +kernel
theorem dL_act_311 : decode cL_act 311 = .ok (.invokestatic 21, 3) := by decide +kernel
theorem dL_act_314 : decode cL_act 314 = .ok (.iadd, 1) := by decide +kernel
theorem dL_act_315 : decode cL_act 315 = .ok (.invokevirtual 52, 3) := by decide +kernel
theorem dL_act_318 : decode cL_act 318 = .ok (.pop, 1) := by decide +kernel
theorem dL_act_319 : decode cL_act 319 = .ok (.iconst 1, 1) := by decide +kernel
theorem dL_act_320 : decode cL_act 320 = .ok (.ireturn, 1) := by decide +kernel
theorem dL_act_321 : decode cL_act 321 = .ok (.aload_n 0, 1) := by decide +kernel
theorem dL_act_322 : decode cL_act 322 = .ok (.iload_n 3, 1) := by decide +kernel
theorem dL_act_323 : decode cL_act 323 = .ok (.iconst 1, 1) := by decide +kernel
theorem dL_act_324 : decode cL_act 324 = .ok (.iload_n 2, 1) := by decide +kernel
theorem dL_act_325 : decode cL_act 325 = .ok (.iload_n 2, 1) := by decide +kernel
theorem dL_act_326 : decode cL_act 326 = .ok (.bipush 20, 2) := by decide +kernel
theorem dL_act_328 : decode cL_act 328 = .ok (.ishr, 1) := by decide +kernel
theorem dL_act_329 : decode cL_act 329 = .ok (.iconst 1, 1) := by decide +kernel
theorem dL_act_330 : decode cL_act 330 = .ok (.iand, 1) := by decide +kernel
theorem dL_act_331 : decode cL_act 331 = .ok (.ifCond .ne 8, 3) := by decide +kernel
theorem dL_act_334 : decode cL_act 334 = .ok (.bipush 30, 2) := by decide +kernel
theorem dL_act_336 : decode cL_act 336 = .ok (.goto 6, 3) := by decide +kernel
theorem dL_act_339 : decode cL_act 339 = .ok (.sipush 300, 3) := by decide +kernel
theorem dL_act_342 : decode cL_act 342 = .ok (.invokestatic 21, 3) := by decide +kernel
theorem dL_act_345 : decode cL_act 345 = .ok (.iadd, 1) := by decide +kernel
theorem dL_act_346 : decode cL_act 346 = .ok (.invokevirtual 55, 3) := by decide +kernel
theorem dL_act_349 : decode cL_act 349 = .ok (.pop, 1) := by decide +kernel
theorem dL_act_350 : decode cL_act 350 = .ok (.iconst 1, 1) := by decide +kernel
theorem dL_act_351 : decode cL_act 351 = .ok (.ireturn, 1) := by decide +kernel
theorem dL_common_0 : decode cL_common 0 = .ok (.iload_n 0, 1) := by decide +kernel
theorem dL_common_1 : decode cL_common 1 = .ok (.istore_n 2, 1) := by decide +kernel
theorem dL_common_2 : decode cL_common 2 = .ok (.iload_n 1, 1) := by decide +kernel
theorem dL_common_3 : decode cL_common 3 = .ok (.istore_n 3, 1) := by decide +kernel
theorem dL_common_4 : decode cL_common 4 = .ok (.iload_n 3, 1) := by decide +kernel
theorem dL_common_5 : decode cL_common 5 = .ok (.ifCond .le 16, 3) := by decide +kernel
theorem dL_common_8 : decode cL_common 8 = .ok (.iload_n 2, 1) := by decide +kernel
theorem dL_common_9 : decode cL_common 9 = .ok (.iload_n 3, 1) := by decide +kernel
theorem dL_common_10 : decode cL_common 10 = .ok (.irem, 1) := by decide +kernel
theorem dL_common_11 : decode cL_common 11 = .ok (.istore 4, 2) := by decide +kernel
theorem dL_common_13 : decode cL_common 13 = .ok (.iload_n 3, 1) := by decide +kernel
theorem dL_common_14 : decode cL_common 14 = .ok (.istore_n 2, 1) := by decide +kernel
theorem dL_common_15 : decode cL_common 15 = .ok (.iload 4, 2) := by decide +kernel
theorem dL_common_17 : decode cL_common 17 = .ok (.istore_n 3, 1) := by decide +kernel
theorem dL_common_18 : decode cL_common 18 = .ok (.goto (-14), 3) := by decide +kernel
theorem dL_common_21 : decode cL_common 21 = .ok (.iload_n 2, 1) := by decide +kernel
theorem dL_common_22 : decode cL_common 22 = .ok (.ireturn, 1) := by decide +kernel
theorem dL_holds_0 : decode cL_holds 0 = .ok (.iconst 0, 1) := by decide +kernel
theorem dL_holds_1 : decode cL_holds 1 = .ok (.istore_n 3, 1) := by decide +kernel
theorem dL_holds_2 : decode cL_holds 2 = .ok (.iconst 0, 1) := by decide +kernel
theorem dL_holds_3 : decode cL_holds 3 = .ok (.istore 4, 2) := by decide +kernel
theorem dL_holds_5 : decode cL_holds 5 = .ok (.iload 4, 2) := by decide +kernel
theorem dL_holds_7 : decode cL_holds 7 = .ok (.bipush 6, 2) := by decide +kernel
theorem dL_holds_9 : decode cL_holds 9 = .ok (.if_icmp .ge 136, 3) := by decide +kernel
theorem dL_holds_12 : decode cL_holds 12 = .ok (.aload_n 0, 1) := by decide +kernel
theorem dL_holds_13 : decode cL_holds 13 = .ok (.iload 4, 2) := by decide +kernel
theorem dL_holds_15 : decode cL_holds 15 = .ok (.invokevirtual 58, 3) := by decide +kernel
theorem dL_holds_18 : decode cL_holds 18 = .ok (.istore 5, 2) := by decide +kernel
theorem dL_holds_20 : decode cL_holds 20 = .ok (.aload_n 0, 1) := by decide +kernel
theorem dL_holds_21 : decode cL_holds 21 = .ok (.iload 4, 2) := by decide +kernel
theorem dL_holds_23 : decode cL_holds 23 = .ok (.invokevirtual 12, 3) := by decide +kernel
theorem dL_holds_26 : decode cL_holds 26 = .ok (.istore 6, 2) := by decide +kernel
theorem dL_holds_28 : decode cL_holds 28 = .ok (.aload_n 0, 1) := by decide +kernel
theorem dL_holds_29 : decode cL_holds 29 = .ok (.iload 4, 2) := by decide +kernel
theorem dL_holds_31 : decode cL_holds 31 = .ok (.invokevirtual 18, 3) := by decide +kernel
theorem dL_holds_34 : decode cL_holds 34 = .ok (.istore 7, 2) := by decide +kernel
theorem dL_holds_36 : decode cL_holds 36 = .ok (.iload_n 3, 1) := by decide +kernel
theorem dL_holds_37 : decode cL_holds 37 = .ok (.iconst 1, 1) := by decide +kernel
theorem dL_holds_38 : decode cL_holds 38 = .ok (.iload 5, 2) := by decide +kernel
theorem dL_holds_40 : decode cL_holds 40 = .ok (.ishl, 1) := by decide +kernel
theorem dL_holds_41 : decode cL_holds 41 = .ok (.ior, 1) := by decide +kernel
theorem dL_holds_42 : decode cL_holds 42 = .ok (.istore_n 3, 1) := by decide +kernel
theorem dL_holds_43 : decode cL_holds 43 = .ok (.iload 7, 2) := by decide +kernel
theorem dL_holds_45 : decode cL_holds 45 = .ok (.iload 6, 2) := by decide +kernel
theorem dL_holds_47 : decode cL_holds 47 = .ok (.invokestatic 61, 3) := by decide +kernel
theorem dL_holds_50 : decode cL_holds 50 = .ok (.iconst 1, 1) := by decide +kernel
theorem dL_holds_51 : decode cL_holds 51 = .ok (.if_icmp .ne 86, 3) := by decide +kernel
theorem dL_holds_54 : decode cL_holds 54 = .ok (.iload 6, 2) := by decide +kernel
theorem dL_holds_56 : decode cL_holds 56 = .ok (.ifCond .lt 81, 3) := by decide +kernel
theorem dL_holds_59 : decode cL_holds 59 = .ok (.iload 6, 2) := by decide +kernel
theorem dL_holds_61 : decode cL_holds 61 = .ok (.ldc 28, 2) := by decide +kernel
theorem dL_holds_63 : decode cL_holds 63 = .ok (.if_icmp .gt 74, 3) := by decide +kernel
theorem dL_holds_66 : decode cL_holds 66 = .ok (.iload 7, 2) := by decide +kernel
theorem dL_holds_68 : decode cL_holds 68 = .ok (.ldc 28, 2) := by decide +kernel
theorem dL_holds_70 : decode cL_holds 70 = .ok (.if_icmp .gt 67, 3) := by decide +kernel
theorem dL_holds_73 : decode cL_holds 73 = .ok (.aload_n 0, 1) := by decide +kernel
theorem dL_holds_74 : decode cL_holds 74 = .ok (.iload 4, 2) := by decide +kernel
theorem dL_holds_76 : decode cL_holds 76 = .ok (.iload 5, 2) := by decide +kernel
theorem dL_holds_78 : decode cL_holds 78 = .ok (.invokevirtual 36, 3) := by decide +kernel
theorem dL_holds_81 : decode cL_holds 81 = .ok (.aload_n 0, 1) := by decide +kernel
theorem dL_holds_82 : decode cL_holds 82 = .ok (.iload 5, 2) := by decide +kernel
theorem dL_holds_84 : decode cL_holds 84 = .ok (.iload 4, 2) := by decide +kernel
theorem dL_holds_86 : decode cL_holds 86 = .ok (.invokevirtual 36, 3) := by decide +kernel
theorem dL_holds_89 : decode cL_holds 89 = .ok (.ineg, 1) := by decide +kernel
theorem dL_holds_90 : decode cL_holds 90 = .ok (.if_icmp .ne 47, 3) := by decide +kernel
theorem dL_holds_93 : decode cL_holds 93 = .ok (.iload 4, 2) := by decide +kernel
theorem dL_holds_95 : decode cL_holds 95 = .ok (.ifCond .le 20, 3) := by decide +kernel
theorem dL_holds_98 : decode cL_holds 98 = .ok (.aload_n 0, 1) := by decide +kernel
theorem dL_holds_99 : decode cL_holds 99 = .ok (.aload_n 0, 1) := by decide +kernel
theorem dL_holds_100 : decode cL_holds 100 = .ok (.iload 4, 2) := by decide +kernel
theorem dL_holds_102 : decode cL_holds 102 = .ok (.iconst 1, 1) := by decide +kernel
theorem dL_holds_103 : decode cL_holds 103 = .ok (.isub, 1) := by decide +kernel
theorem dL_holds_104 : decode cL_holds 104 = .ok (.invokevirtual 58, 3) := by decide +kernel
theorem dL_holds_107 : decode cL_holds 107 = .ok (.iload 5, 2) := by decide +kernel
theorem dL_holds_109 : decode cL_holds 109 = .ok (.invokevirtual 36, 3) := by decide +kernel
theorem dL_holds_112 : decode cL_holds 112 = .ok (.ifCond .lt 25, 3) := by decide +kernel
theorem dL_holds_115 : decode cL_holds 115 = .ok (.aload_n 0, 1) := by decide +kernel
theorem dL_holds_116 : decode cL_holds 116 = .ok (.invokevirtual 64, 3) := by decide +kernel
theorem dL_holds_119 : decode cL_holds 119 = .ok (.lconst 0, 1) := by decide +kernel
theorem dL_holds_120 : decode cL_holds 120 = .ok (.lcmp, 1) := by decide +kernel
theorem dL_holds_121 : decode cL_holds 121 = .ok (.ifCond .le 18, 3) := by decide +kernel
theorem dL_holds_124 : decode cL_holds 124 = .ok (.aload_n 0, 1) := by decide +kernel
theorem dL_holds_125 : decode cL_holds 125 = .ok (.invokevirtual 64, 3) := by decide +kernel
theorem dL_holds_128 : decode cL_holds 128 = .ok (.iload 7, 2) := by decide +kernel
theorem dL_holds_130 : decode cL_holds 130 = .ok (.i2l, 1) := by decide +kernel
theorem dL_holds_131 : decode cL_holds 131 = .ok (.lrem, 1) := by decide +kernel
theorem dL_holds_132 : decode cL_holds 132 = .ok (.lconst 0, 1) := by decide +kernel
theorem dL_holds_133 : decode cL_holds 133 = .ok (.lcmp, 1) := by decide +kernel
theorem dL_holds_134 : decode cL_holds 134 = .ok (.ifCond .eq 5, 3) := by decide +kernel
theorem dL_holds_137 : decode cL_holds 137 = .ok (.iconst 0, 1) := by decide +kernel
theorem dL_holds_138 : decode cL_holds 138 = .ok (.ireturn, 1) := by decide +kernel
theorem dL_holds_139 : decode cL_holds 139 = .ok (.iinc 4 1, 3) := by decide +kernel
theorem dL_holds_142 : decode cL_holds 142 = .ok (.goto (-137), 3) := by decide +kernel
theorem dL_holds_145 : decode cL_holds 145 = .ok (.aload_n 0, 1) := by decide +kernel
theorem dL_holds_146 : decode cL_holds 146 = .ok (.iload_n 1, 1) := by decide +kernel
theorem dL_holds_147 : decode cL_holds 147 = .ok (.iload_n 2, 1) := by decide +kernel
theorem dL_holds_148 : decode cL_holds 148 = .ok (.invokevirtual 68, 3) := by decide +kernel
theorem dL_holds_151 : decode cL_holds 151 = .ok (.istore 4, 2) := by decide +kernel
theorem dL_holds_153 : decode cL_holds 153 = .ok (.iload_n 3, 1) := by decide +kernel
theorem dL_holds_154 : decode cL_holds 154 = .ok (.bipush 63, 2) := by decide +kernel
theorem dL_holds_156 : decode cL_holds 156 = .ok (.if_icmp .ne 58, 3) := by decide +kernel
theorem dL_holds_159 : decode cL_holds 159 = .ok (.iload 4, 2) := by decide +kernel
theorem dL_holds_161 : decode cL_holds 161 = .ok (.aload_n 0, 1) := by decide +kernel
theorem dL_holds_162 : decode cL_holds 162 = .ok (.iload_n 1, 1) := by decide +kernel
theorem dL_holds_163 : decode cL_holds 163 = .ok (.iload_n 2, 1) := by decide +kernel
theorem dL_holds_164 : decode cL_holds 164 = .ok (.invokevirtual 71, 3) := by decide +kernel
theorem dL_holds_167 : decode cL_holds 167 = .ok (.if_icmp .ne 47, 3) := by decide +kernel
theorem dL_holds_170 : decode cL_holds 170 = .ok (.iload 4, 2) := by decide +kernel
theorem dL_holds_172 : decode cL_holds 172 = .ok (.iload_n 2, 1) := by decide +kernel
theorem dL_holds_173 : decode cL_holds 173 = .ok (.if_icmp .gt 41, 3) := by decide +kernel
theorem dL_holds_176 : decode cL_holds 176 = .ok (.aload_n 0, 1) := by decide +kernel
theorem dL_holds_177 : decode cL_holds 177 = .ok (.iload_n 1, 1) := by decide +kernel
theorem dL_holds_178 : decode cL_holds 178 = .ok (.invokevirtual 18, 3) := by decide +kernel
theorem dL_holds_181 : decode cL_holds 181 = .ok (.iload_n 2, 1) := by decide +kernel
theorem dL_holds_182 : decode cL_holds 182 = .ok (.if_icmp .gt 13, 3) := by decide +kernel
theorem dL_holds_185 : decode cL_holds 185 = .ok (.iload 4, 2) := by decide +kernel
theorem dL_holds_187 : decode cL_holds 187 = .ok (.aload_n 0, 1) := by decide +kernel
theorem dL_holds_188 : decode cL_holds 188 = .ok (.iload_n 1, 1) := by decide +kernel
theorem dL_holds_189 : decode cL_holds 189 = .ok (.invokevirtual 18, 3) := by decide +kernel
theorem dL_holds_192 : decode cL_holds 192 = .ok (.if_icmp .ne 22, 3) := by decide +kernel
theorem dL_holds_195 : decode cL_holds 195 = .ok (.iload 4, 2) := by decide +kernel
theorem dL_holds_197 : decode cL_holds 197 = .ok (.aload_n 0, 1) := by decide +kernel
theorem dL_holds_198 : decode cL_holds 198 = .ok (.iload_n 1, 1) := by decide +kernel
theorem dL_holds_199 : decode cL_holds 199 = .ok (.iload_n 2, 1) := by decide +kernel
theorem dL_holds_200 : decode cL_holds 200 = .ok (.invokevirtual 74, 3) := by decide +kernel
theorem dL_holds_203 : decode cL_holds 203 = .ok (.invokestatic 61, 3) := by decide +kernel
theorem dL_holds_206 : decode cL_holds 206 = .ok (.iconst 1, 1) := by decide +kernel
theorem dL_holds_207 : decode cL_holds 207 = .ok (.if_icmp .ne 7, 3) := by decide +kernel
theorem dL_holds_210 : decode cL_holds 210 = .ok (.iconst 1, 1) := by decide +kernel
theorem dL_holds_211 : decode cL_holds 211 = .ok (.goto 4, 3) := by decide +kernel
theorem dL_holds_214 : decode cL_holds 214 = .ok (.iconst 0, 1) := by decide +kernel
theorem dL_holds_215 : decode cL_holds 215 = .ok (.istore 5, 2) := by decide +kernel
theorem dL_holds_217 : decode cL_holds 217 = .ok (.aload_n 0, 1) := by decide +kernel
theorem dL_holds_218 : decode cL_holds 218 = .ok (.iload_n 1, 1) := by decide +kernel
theorem dL_holds_219 : decode cL_holds 219 = .ok (.invokevirtual 77, 3) := by decide +kernel
theorem dL_holds_222 : decode cL_holds 222 = .ok (.iconst 1, 1) := by decide +kernel
theorem dL_holds_223 : decode cL_holds 223 = .ok (.isub, 1) := by decide +kernel
theorem dL_holds_224 : decode cL_holds 224 = .ok (.istore 6, 2) := by decide +kernel
theorem dL_holds_226 : decode cL_holds 226 = .ok (.iload 5, 2) := by decide +kernel
theorem dL_holds_228 : decode cL_holds 228 = .ok (.ifCond .eq 54, 3) := by decide +kernel
theorem dL_holds_231 : decode cL_holds 231 = .ok (.aload_n 0, 1) := by decide +kernel
theorem dL_holds_232 : decode cL_holds 232 = .ok (.iload_n 1, 1) := by decide +kernel
theorem dL_holds_233 : decode cL_holds 233 = .ok (.iload 6, 2) := by decide +kernel
theorem dL_holds_235 : decode cL_holds 235 = .ok (.invokevirtual 80, 3) := by decide +kernel
theorem dL_holds_238 : decode cL_holds 238 = .ok (.aload_n 0, 1) := by decide +kernel
theorem dL_holds_239 : decode cL_holds 239 = .ok (.iload_n 1, 1) := by decide +kernel
theorem dL_holds_240 : decode cL_holds 240 = .ok (.invokevirtual 12, 3) := by decide +kernel
theorem dL_holds_243 : decode cL_holds 243 = .ok (.if_icmp .ne 39, 3) := by decide +kernel
theorem dL_holds_246 : decode cL_holds 246 = .ok (.aload_n 0, 1) := by decide +kernel
theorem dL_holds_247 : decode cL_holds 247 = .ok (.iload_n 1, 1) := by decide +kernel
theorem dL_holds_248 : decode cL_holds 248 = .ok (.iload 6, 2) := by decide +kernel
theorem dL_holds_250 : decode cL_holds 250 = .ok (.invokevirtual 83, 3) := by decide +kernel
theorem dL_holds_253 : decode cL_holds 253 = .ok (.aload_n 0, 1) := by decide +kernel
theorem dL_holds_254 : decode cL_holds 254 = .ok (.iload_n 1, 1) := by decide +kernel
theorem dL_holds_255 : decode cL_holds 255 = .ok (.invokevirtual 18, 3) := by decide +kernel
theorem dL_holds_258 : decode cL_holds 258 = .ok (.if_icmp .ne 24, 3) := by decide +kernel
theorem dL_holds_261 : decode cL_holds 261 = .ok (.aload_n 0, 1) := by decide +kernel
theorem dL_holds_262 : decode cL_holds 262 = .ok (.invokevirtual 86, 3) := by decide +kernel
theorem dL_holds_265 : decode cL_holds 265 = .ok (.iconst 1, 1) := by decide +kernel
theorem dL_holds_266 : decode cL_holds 266 = .ok (.if_icmp .lt 16, 3) := by decide +kernel
theorem dL_holds_269 : decode cL_holds 269 = .ok (.aload_n 0, 1) := by decide +kernel
theorem dL_holds_270 : decode cL_holds 270 = .ok (.invokevirtual 86, 3) := by decide +kernel
theorem dL_holds_273 : decode cL_holds 273 = .ok (.bipush 6, 2) := by decide +kernel
theorem dL_holds_275 : decode cL_holds 275 = .ok (.if_icmp .gt 7, 3) := by decide +kernel
theorem dL_holds_278 : decode cL_holds 278 = .ok (.iconst 1, 1) := by decide +kernel
theorem dL_holds_279 : decode cL_holds 279 = .ok (.goto 4, 3) := by decide +kernel
theorem dL_holds_282 : decode cL_holds 282 = .ok (.iconst 0, 1) := by decide +kernel
theorem dL_holds_283 : decode cL_holds 283 = .ok (.istore 5, 2) := by decide +kernel
theorem dL_holds_285 : decode cL_holds 285 = .ok (.iload 5, 2) := by decide +kernel
theorem dL_holds_287 : decode cL_holds 287 = .ok (.ifCond .eq 41, 3) := by decide +kernel
theorem dL_holds_290 : decode cL_holds 290 = .ok (.aload_n 0, 1) := by decide +kernel
theorem dL_holds_291 : decode cL_holds 291 = .ok (.iload_n 1, 1) := by decide +kernel
theorem dL_holds_292 : decode cL_holds 292 = .ok (.invokevirtual 12, 3) := by decide +kernel
theorem dL_holds_295 : decode cL_holds 295 = .ok (.ifCond .eq 29, 3) := by decide +kernel
theorem dL_holds_298 : decode cL_holds 298 = .ok (.aload_n 0, 1) := by decide +kernel
theorem dL_holds_299 : decode cL_holds 299 = .ok (.iload_n 1, 1) := by decide +kernel
theorem dL_holds_300 : decode cL_holds 300 = .ok (.invokevirtual 90, 3) := by decide +kernel
theorem dL_holds_303 : decode cL_holds 303 = .ok (.aload_n 0, 1) := by decide +kernel
theorem dL_holds_304 : decode cL_holds 304 = .ok (.iload_n 1, 1) := by decide +kernel
theorem dL_holds_305 : decode cL_holds 305 = .ok (.invokevirtual 12, 3) := by decide +kernel
theorem dL_holds_308 : decode cL_holds 308 = .ok (.aload_n 0, 1) := by decide +kernel
theorem dL_holds_309 : decode cL_holds 309 = .ok (.iload_n 1, 1) := by decide +kernel
theorem dL_holds_310 : decode cL_holds 310 = .ok (.invokevirtual 18, 3) := by decide +kernel
theorem dL_holds_313 : decode cL_holds 313 = .ok (.if_icmp .le 7, 3) := by decide +kernel
theorem dL_holds_316 : decode cL_holds 316 = .ok (.iconst 1, 1) := by decide +kernel
theorem dL_holds_317 : decode cL_holds 317 = .ok (.goto 4, 3) := by decide +kernel
theorem dL_holds_320 : decode cL_holds 320 = .ok (.iconst 0, 1) := by decide +kernel
theorem dL_holds_321 : decode cL_holds 321 = .ok (.if_icmp .ne 7, 3) := by decide +kernel
theorem dL_holds_324 : decode cL_holds 324 = .ok (.iconst 1, 1) := by decide +kernel
theorem dL_holds_325 : decode cL_holds 325 = .ok (.goto 4, 3) := by decide +kernel
theorem dL_holds_328 : decode cL_holds 328 = .ok (.iconst 0, 1) := by decide +kernel
theorem dL_holds_329 : decode cL_holds 329 = .ok (.ireturn, 1) := by decide +kernel
