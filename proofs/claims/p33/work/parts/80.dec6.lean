-- what the bytes of the law say
theorem d_Law_cell_0 : decode method_2_code 0 = .ok (.iload_n 1, 1) := by decide +kernel
theorem d_Law_cell_1 : decode method_2_code 1 = .ok (.aload_n 0, 1) := by decide +kernel
theorem d_Law_cell_2 : decode method_2_code 2 = .ok (.arraylength, 1) := by decide +kernel
theorem d_Law_cell_3 : decode method_2_code 3 = .ok (.if_icmp .ge 9, 3) := by decide +kernel
theorem d_Law_cell_6 : decode method_2_code 6 = .ok (.aload_n 0, 1) := by decide +kernel
theorem d_Law_cell_7 : decode method_2_code 7 = .ok (.iload_n 1, 1) := by decide +kernel
theorem d_Law_cell_8 : decode method_2_code 8 = .ok (.iaload, 1) := by decide +kernel
theorem d_Law_cell_9 : decode method_2_code 9 = .ok (.goto 15, 3) := by decide +kernel
theorem d_Law_cell_12 : decode method_2_code 12 = .ok (.sipush 7919, 3) := by decide +kernel
theorem d_Law_cell_15 : decode method_2_code 15 = .ok (.iload_n 1, 1) := by decide +kernel
theorem d_Law_cell_16 : decode method_2_code 16 = .ok (.iconst 3, 1) := by decide +kernel
theorem d_Law_cell_17 : decode method_2_code 17 = .ok (.iadd, 1) := by decide +kernel
theorem d_Law_cell_18 : decode method_2_code 18 = .ok (.imul, 1) := by decide +kernel
theorem d_Law_cell_19 : decode method_2_code 19 = .ok (.iload_n 1, 1) := by decide +kernel
theorem d_Law_cell_20 : decode method_2_code 20 = .ok (.bipush 11, 2) := by decide +kernel
theorem d_Law_cell_22 : decode method_2_code 22 = .ok (.iadd, 1) := by decide +kernel
theorem d_Law_cell_23 : decode method_2_code 23 = .ok (.imul, 1) := by decide +kernel
theorem d_Law_cell_24 : decode method_2_code 24 = .ok (.ireturn, 1) := by decide +kernel
theorem d_Law_low_0 : decode method_3_code 0 = .ok (.iload_n 0, 1) := by decide +kernel
theorem d_Law_low_1 : decode method_3_code 1 = .ok (.ldc 7, 2) := by decide +kernel
theorem d_Law_low_3 : decode method_3_code 3 = .ok (.iand, 1) := by decide +kernel
theorem d_Law_low_4 : decode method_3_code 4 = .ok (.iload_n 1, 1) := by decide +kernel
theorem d_Law_low_5 : decode method_3_code 5 = .ok (.irem, 1) := by decide +kernel
theorem d_Law_low_6 : decode method_3_code 6 = .ok (.ireturn, 1) := by decide +kernel
theorem d_Law_digest_0 : decode method_4_code 0 = .ok (.ldc2_w 8, 3) := by decide +kernel
theorem d_Law_digest_3 : decode method_4_code 3 = .ok (.lstore_n 1, 1) := by decide +kernel
theorem d_Law_digest_4 : decode method_4_code 4 = .ok (.iconst 0, 1) := by decide +kernel
theorem d_Law_digest_5 : decode method_4_code 5 = .ok (.istore_n 3, 1) := by decide +kernel
theorem d_Law_digest_6 : decode method_4_code 6 = .ok (.iload_n 3, 1) := by decide +kernel
theorem d_Law_digest_7 : decode method_4_code 7 = .ok (.bipush 9, 2) := by decide +kernel
theorem d_Law_digest_9 : decode method_4_code 9 = .ok (.if_icmp .ge 22, 3) := by decide +kernel
theorem d_Law_digest_12 : decode method_4_code 12 = .ok (.ldc2_w 10, 3) := by decide +kernel
theorem d_Law_digest_15 : decode method_4_code 15 = .ok (.lload_n 1, 1) := by decide +kernel
theorem d_Law_digest_16 : decode method_4_code 16 = .ok (.lmul, 1) := by decide +kernel
theorem d_Law_digest_17 : decode method_4_code 17 = .ok (.aload_n 0, 1) := by decide +kernel
theorem d_Law_digest_18 : decode method_4_code 18 = .ok (.iload_n 3, 1) := by decide +kernel
theorem d_Law_digest_19 : decode method_4_code 19 = .ok (.invokevirtual 12, 3) := by decide +kernel
theorem d_Law_digest_22 : decode method_4_code 22 = .ok (.i2l, 1) := by decide +kernel
theorem d_Law_digest_23 : decode method_4_code 23 = .ok (.ladd, 1) := by decide +kernel
theorem d_Law_digest_24 : decode method_4_code 24 = .ok (.lstore_n 1, 1) := by decide +kernel
theorem d_Law_digest_25 : decode method_4_code 25 = .ok (.iinc 3 1, 3) := by decide +kernel
theorem d_Law_digest_28 : decode method_4_code 28 = .ok (.goto (-22), 3) := by decide +kernel
theorem d_Law_digest_31 : decode method_4_code 31 = .ok (.ldc2_w 10, 3) := by decide +kernel
theorem d_Law_digest_34 : decode method_4_code 34 = .ok (.lload_n 1, 1) := by decide +kernel
theorem d_Law_digest_35 : decode method_4_code 35 = .ok (.lmul, 1) := by decide +kernel
theorem d_Law_digest_36 : decode method_4_code 36 = .ok (.aload_n 0, 1) := by decide +kernel
theorem d_Law_digest_37 : decode method_4_code 37 = .ok (.bipush 11, 2) := by decide +kernel
theorem d_Law_digest_39 : decode method_4_code 39 = .ok (.invokevirtual 12, 3) := by decide +kernel
theorem d_Law_digest_42 : decode method_4_code 42 = .ok (.i2l, 1) := by decide +kernel
theorem d_Law_digest_43 : decode method_4_code 43 = .ok (.ladd, 1) := by decide +kernel
theorem d_Law_digest_44 : decode method_4_code 44 = .ok (.lstore_n 1, 1) := by decide +kernel
theorem d_Law_digest_45 : decode method_4_code 45 = .ok (.iconst 0, 1) := by decide +kernel
theorem d_Law_digest_46 : decode method_4_code 46 = .ok (.istore_n 3, 1) := by decide +kernel
theorem d_Law_digest_47 : decode method_4_code 47 = .ok (.iload_n 3, 1) := by decide +kernel
theorem d_Law_digest_48 : decode method_4_code 48 = .ok (.iconst 2, 1) := by decide +kernel
theorem d_Law_digest_49 : decode method_4_code 49 = .ok (.if_icmp .ge 88, 3) := by decide +kernel
theorem d_Law_digest_52 : decode method_4_code 52 = .ok (.iconst 0, 1) := by decide +kernel
theorem d_Law_digest_53 : decode method_4_code 53 = .ok (.istore 4, 2) := by decide +kernel
theorem d_Law_digest_55 : decode method_4_code 55 = .ok (.iload 4, 2) := by decide +kernel
theorem d_Law_digest_57 : decode method_4_code 57 = .ok (.bipush 6, 2) := by decide +kernel
theorem d_Law_digest_59 : decode method_4_code 59 = .ok (.if_icmp .ge 24, 3) := by decide +kernel
theorem d_Law_digest_62 : decode method_4_code 62 = .ok (.ldc2_w 10, 3) := by decide +kernel
theorem d_Law_digest_65 : decode method_4_code 65 = .ok (.lload_n 1, 1) := by decide +kernel
theorem d_Law_digest_66 : decode method_4_code 66 = .ok (.lmul, 1) := by decide +kernel
theorem d_Law_digest_67 : decode method_4_code 67 = .ok (.aload_n 0, 1) := by decide +kernel
theorem d_Law_digest_68 : decode method_4_code 68 = .ok (.iload_n 3, 1) := by decide +kernel
theorem d_Law_digest_69 : decode method_4_code 69 = .ok (.iload 4, 2) := by decide +kernel
theorem d_Law_digest_71 : decode method_4_code 71 = .ok (.invokevirtual 18, 3) := by decide +kernel
theorem d_Law_digest_74 : decode method_4_code 74 = .ok (.i2l, 1) := by decide +kernel
theorem d_Law_digest_75 : decode method_4_code 75 = .ok (.ladd, 1) := by decide +kernel
theorem d_Law_digest_76 : decode method_4_code 76 = .ok (.lstore_n 1, 1) := by decide +kernel
theorem d_Law_digest_77 : decode method_4_code 77 = .ok (.iinc 4 1, 3) := by decide +kernel
theorem d_Law_digest_80 : decode method_4_code 80 = .ok (.goto (-25), 3) := by decide +kernel
theorem d_Law_digest_83 : decode method_4_code 83 = .ok (.iconst 0, 1) := by decide +kernel
theorem d_Law_digest_84 : decode method_4_code 84 = .ok (.istore 4, 2) := by decide +kernel
theorem d_Law_digest_86 : decode method_4_code 86 = .ok (.iload 4, 2) := by decide +kernel
theorem d_Law_digest_88 : decode method_4_code 88 = .ok (.bipush 6, 2) := by decide +kernel
theorem d_Law_digest_90 : decode method_4_code 90 = .ok (.if_icmp .ge 41, 3) := by decide +kernel
theorem d_Law_digest_93 : decode method_4_code 93 = .ok (.iconst 0, 1) := by decide +kernel
theorem d_Law_digest_94 : decode method_4_code 94 = .ok (.istore 5, 2) := by decide +kernel
theorem d_Law_digest_96 : decode method_4_code 96 = .ok (.iload 5, 2) := by decide +kernel
theorem d_Law_digest_98 : decode method_4_code 98 = .ok (.iconst 3, 1) := by decide +kernel
theorem d_Law_digest_99 : decode method_4_code 99 = .ok (.if_icmp .ge 26, 3) := by decide +kernel
theorem d_Law_digest_102 : decode method_4_code 102 = .ok (.ldc2_w 10, 3) := by decide +kernel
theorem d_Law_digest_105 : decode method_4_code 105 = .ok (.lload_n 1, 1) := by decide +kernel
theorem d_Law_digest_106 : decode method_4_code 106 = .ok (.lmul, 1) := by decide +kernel
theorem d_Law_digest_107 : decode method_4_code 107 = .ok (.aload_n 0, 1) := by decide +kernel
theorem d_Law_digest_108 : decode method_4_code 108 = .ok (.iload_n 3, 1) := by decide +kernel
theorem d_Law_digest_109 : decode method_4_code 109 = .ok (.iload 4, 2) := by decide +kernel
theorem d_Law_digest_111 : decode method_4_code 111 = .ok (.iload 5, 2) := by decide +kernel
theorem d_Law_digest_113 : decode method_4_code 113 = .ok (.invokevirtual 22, 3) := by decide +kernel
theorem d_Law_digest_116 : decode method_4_code 116 = .ok (.i2l, 1) := by decide +kernel
theorem d_Law_digest_117 : decode method_4_code 117 = .ok (.ladd, 1) := by decide +kernel
theorem d_Law_digest_118 : decode method_4_code 118 = .ok (.lstore_n 1, 1) := by decide +kernel
theorem d_Law_digest_119 : decode method_4_code 119 = .ok (.iinc 5 1, 3) := by decide +kernel
theorem d_Law_digest_122 : decode method_4_code 122 = .ok (.goto (-26), 3) := by decide +kernel
theorem d_Law_digest_125 : decode method_4_code 125 = .ok (.iinc 4 1, 3) := by decide +kernel
theorem d_Law_digest_128 : decode method_4_code 128 = .ok (.goto (-42), 3) := by decide +kernel
theorem d_Law_digest_131 : decode method_4_code 131 = .ok (.iinc 3 1, 3) := by decide +kernel
theorem d_Law_digest_134 : decode method_4_code 134 = .ok (.goto (-87), 3) := by decide +kernel
theorem d_Law_digest_137 : decode method_4_code 137 = .ok (.iconst 0, 1) := by decide +kernel
theorem d_Law_digest_138 : decode method_4_code 138 = .ok (.istore_n 3, 1) := by decide +kernel
theorem d_Law_digest_139 : decode method_4_code 139 = .ok (.iload_n 3, 1) := by decide +kernel
theorem d_Law_digest_140 : decode method_4_code 140 = .ok (.aload_n 0, 1) := by decide +kernel
theorem d_Law_digest_141 : decode method_4_code 141 = .ok (.iconst 0, 1) := by decide +kernel
theorem d_Law_digest_142 : decode method_4_code 142 = .ok (.iconst 0, 1) := by decide +kernel
theorem d_Law_digest_143 : decode method_4_code 143 = .ok (.invokevirtual 18, 3) := by decide +kernel
theorem d_Law_digest_146 : decode method_4_code 146 = .ok (.if_icmp .gt 61, 3) := by decide +kernel
theorem d_Law_digest_149 : decode method_4_code 149 = .ok (.iconst 0, 1) := by decide +kernel
theorem d_Law_digest_150 : decode method_4_code 150 = .ok (.istore 4, 2) := by decide +kernel
theorem d_Law_digest_152 : decode method_4_code 152 = .ok (.iload 4, 2) := by decide +kernel
theorem d_Law_digest_154 : decode method_4_code 154 = .ok (.aload_n 0, 1) := by decide +kernel
theorem d_Law_digest_155 : decode method_4_code 155 = .ok (.iconst 1, 1) := by decide +kernel
theorem d_Law_digest_156 : decode method_4_code 156 = .ok (.iconst 0, 1) := by decide +kernel
theorem d_Law_digest_157 : decode method_4_code 157 = .ok (.invokevirtual 18, 3) := by decide +kernel
theorem d_Law_digest_160 : decode method_4_code 160 = .ok (.if_icmp .gt 41, 3) := by decide +kernel
theorem d_Law_digest_163 : decode method_4_code 163 = .ok (.iconst 0, 1) := by decide +kernel
theorem d_Law_digest_164 : decode method_4_code 164 = .ok (.istore 5, 2) := by decide +kernel
theorem d_Law_digest_166 : decode method_4_code 166 = .ok (.iload 5, 2) := by decide +kernel
theorem d_Law_digest_168 : decode method_4_code 168 = .ok (.iconst 4, 1) := by decide +kernel
theorem d_Law_digest_169 : decode method_4_code 169 = .ok (.if_icmp .ge 26, 3) := by decide +kernel
theorem d_Law_digest_172 : decode method_4_code 172 = .ok (.ldc2_w 10, 3) := by decide +kernel
theorem d_Law_digest_175 : decode method_4_code 175 = .ok (.lload_n 1, 1) := by decide +kernel
theorem d_Law_digest_176 : decode method_4_code 176 = .ok (.lmul, 1) := by decide +kernel
theorem d_Law_digest_177 : decode method_4_code 177 = .ok (.aload_n 0, 1) := by decide +kernel
theorem d_Law_digest_178 : decode method_4_code 178 = .ok (.iload_n 3, 1) := by decide +kernel
theorem d_Law_digest_179 : decode method_4_code 179 = .ok (.iload 4, 2) := by decide +kernel
theorem d_Law_digest_181 : decode method_4_code 181 = .ok (.iload 5, 2) := by decide +kernel
theorem d_Law_digest_183 : decode method_4_code 183 = .ok (.invokevirtual 26, 3) := by decide +kernel
theorem d_Law_digest_186 : decode method_4_code 186 = .ok (.i2l, 1) := by decide +kernel
theorem d_Law_digest_187 : decode method_4_code 187 = .ok (.ladd, 1) := by decide +kernel
theorem d_Law_digest_188 : decode method_4_code 188 = .ok (.lstore_n 1, 1) := by decide +kernel
theorem d_Law_digest_189 : decode method_4_code 189 = .ok (.iinc 5 1, 3) := by decide +kernel
theorem d_Law_digest_192 : decode method_4_code 192 = .ok (.goto (-26), 3) := by decide +kernel
theorem d_Law_digest_195 : decode method_4_code 195 = .ok (.iinc 4 1, 3) := by decide +kernel
theorem d_Law_digest_198 : decode method_4_code 198 = .ok (.goto (-46), 3) := by decide +kernel
theorem d_Law_digest_201 : decode method_4_code 201 = .ok (.iinc 3 1, 3) := by decide +kernel
theorem d_Law_digest_204 : decode method_4_code 204 = .ok (.goto (-65), 3) := by decide +kernel
theorem d_Law_digest_207 : decode method_4_code 207 = .ok (.iconst 0, 1) := by decide +kernel
theorem d_Law_digest_208 : decode method_4_code 208 = .ok (.istore_n 3, 1) := by decide +kernel
theorem d_Law_digest_209 : decode method_4_code 209 = .ok (.iload_n 3, 1) := by decide +kernel
theorem d_Law_digest_210 : decode method_4_code 210 = .ok (.iconst 3, 1) := by decide +kernel
theorem d_Law_digest_211 : decode method_4_code 211 = .ok (.if_icmp .ge 66, 3) := by decide +kernel
theorem d_Law_digest_214 : decode method_4_code 214 = .ok (.iconst 0, 1) := by decide +kernel
theorem d_Law_digest_215 : decode method_4_code 215 = .ok (.istore 4, 2) := by decide +kernel
theorem d_Law_digest_217 : decode method_4_code 217 = .ok (.iload 4, 2) := by decide +kernel
theorem d_Law_digest_219 : decode method_4_code 219 = .ok (.iconst 4, 1) := by decide +kernel
theorem d_Law_digest_220 : decode method_4_code 220 = .ok (.if_icmp .ge 24, 3) := by decide +kernel
theorem d_Law_digest_223 : decode method_4_code 223 = .ok (.ldc2_w 10, 3) := by decide +kernel
theorem d_Law_digest_226 : decode method_4_code 226 = .ok (.lload_n 1, 1) := by decide +kernel
theorem d_Law_digest_227 : decode method_4_code 227 = .ok (.lmul, 1) := by decide +kernel
theorem d_Law_digest_228 : decode method_4_code 228 = .ok (.aload_n 0, 1) := by decide +kernel
theorem d_Law_digest_229 : decode method_4_code 229 = .ok (.iload_n 3, 1) := by decide +kernel
theorem d_Law_digest_230 : decode method_4_code 230 = .ok (.iload 4, 2) := by decide +kernel
theorem d_Law_digest_232 : decode method_4_code 232 = .ok (.invokevirtual 29, 3) := by decide +kernel
theorem d_Law_digest_235 : decode method_4_code 235 = .ok (.i2l, 1) := by decide +kernel
theorem d_Law_digest_236 : decode method_4_code 236 = .ok (.ladd, 1) := by decide +kernel
theorem d_Law_digest_237 : decode method_4_code 237 = .ok (.lstore_n 1, 1) := by decide +kernel
theorem d_Law_digest_238 : decode method_4_code 238 = .ok (.iinc 4 1, 3) := by decide +kernel
theorem d_Law_digest_241 : decode method_4_code 241 = .ok (.goto (-24), 3) := by decide +kernel
theorem d_Law_digest_244 : decode method_4_code 244 = .ok (.ldc2_w 10, 3) := by decide +kernel
theorem d_Law_digest_247 : decode method_4_code 247 = .ok (.lload_n 1, 1) := by decide +kernel
theorem d_Law_digest_248 : decode method_4_code 248 = .ok (.lmul, 1) := by decide +kernel
theorem d_Law_digest_249 : decode method_4_code 249 = .ok (.aload_n 0, 1) := by decide +kernel
theorem d_Law_digest_250 : decode method_4_code 250 = .ok (.iload_n 3, 1) := by decide +kernel
theorem d_Law_digest_251 : decode method_4_code 251 = .ok (.invokevirtual 32, 3) := by decide +kernel
theorem d_Law_digest_254 : decode method_4_code 254 = .ok (.i2l, 1) := by decide +kernel
theorem d_Law_digest_255 : decode method_4_code 255 = .ok (.ladd, 1) := by decide +kernel
theorem d_Law_digest_256 : decode method_4_code 256 = .ok (.lstore_n 1, 1) := by decide +kernel
theorem d_Law_digest_257 : decode method_4_code 257 = .ok (.ldc2_w 10, 3) := by decide +kernel
theorem d_Law_digest_260 : decode method_4_code 260 = .ok (.lload_n 1, 1) := by decide +kernel
theorem d_Law_digest_261 : decode method_4_code 261 = .ok (.lmul, 1) := by decide +kernel
theorem d_Law_digest_262 : decode method_4_code 262 = .ok (.aload_n 0, 1) := by decide +kernel
theorem d_Law_digest_263 : decode method_4_code 263 = .ok (.iload_n 3, 1) := by decide +kernel
theorem d_Law_digest_264 : decode method_4_code 264 = .ok (.iconst 0, 1) := by decide +kernel
theorem d_Law_digest_265 : decode method_4_code 265 = .ok (.invokevirtual 35, 3) := by decide +kernel
theorem d_Law_digest_268 : decode method_4_code 268 = .ok (.i2l, 1) := by decide +kernel
theorem d_Law_digest_269 : decode method_4_code 269 = .ok (.ladd, 1) := by decide +kernel
theorem d_Law_digest_270 : decode method_4_code 270 = .ok (.lstore_n 1, 1) := by decide +kernel
theorem d_Law_digest_271 : decode method_4_code 271 = .ok (.iinc 3 1, 3) := by decide +kernel
theorem d_Law_digest_274 : decode method_4_code 274 = .ok (.goto (-65), 3) := by decide +kernel
theorem d_Law_digest_277 : decode method_4_code 277 = .ok (.iconst 0, 1) := by decide +kernel
theorem d_Law_digest_278 : decode method_4_code 278 = .ok (.istore_n 3, 1) := by decide +kernel
theorem d_Law_digest_279 : decode method_4_code 279 = .ok (.iload_n 3, 1) := by decide +kernel
theorem d_Law_digest_280 : decode method_4_code 280 = .ok (.bipush 20, 2) := by decide +kernel
theorem d_Law_digest_282 : decode method_4_code 282 = .ok (.if_icmp .ge 38, 3) := by decide +kernel
theorem d_Law_digest_285 : decode method_4_code 285 = .ok (.ldc2_w 10, 3) := by decide +kernel
theorem d_Law_digest_288 : decode method_4_code 288 = .ok (.lload_n 1, 1) := by decide +kernel
theorem d_Law_digest_289 : decode method_4_code 289 = .ok (.lmul, 1) := by decide +kernel
theorem d_Law_digest_290 : decode method_4_code 290 = .ok (.aload_n 0, 1) := by decide +kernel
theorem d_Law_digest_291 : decode method_4_code 291 = .ok (.iload_n 3, 1) := by decide +kernel
theorem d_Law_digest_292 : decode method_4_code 292 = .ok (.iconst 0, 1) := by decide +kernel
theorem d_Law_digest_293 : decode method_4_code 293 = .ok (.invokevirtual 38, 3) := by decide +kernel
theorem d_Law_digest_296 : decode method_4_code 296 = .ok (.i2l, 1) := by decide +kernel
theorem d_Law_digest_297 : decode method_4_code 297 = .ok (.ladd, 1) := by decide +kernel
theorem d_Law_digest_298 : decode method_4_code 298 = .ok (.lstore_n 1, 1) := by decide +kernel
theorem d_Law_digest_299 : decode method_4_code 299 = .ok (.ldc2_w 10, 3) := by decide +kernel
theorem d_Law_digest_302 : decode method_4_code 302 = .ok (.lload_n 1, 1) := by decide +kernel
theorem d_Law_digest_303 : decode method_4_code 303 = .ok (.lmul, 1) := by decide +kernel
theorem d_Law_digest_304 : decode method_4_code 304 = .ok (.aload_n 0, 1) := by decide +kernel
theorem d_Law_digest_305 : decode method_4_code 305 = .ok (.iload_n 3, 1) := by decide +kernel
theorem d_Law_digest_306 : decode method_4_code 306 = .ok (.bipush 7, 2) := by decide +kernel
theorem d_Law_digest_308 : decode method_4_code 308 = .ok (.invokevirtual 38, 3) := by decide +kernel
theorem d_Law_digest_311 : decode method_4_code 311 = .ok (.i2l, 1) := by decide +kernel
theorem d_Law_digest_312 : decode method_4_code 312 = .ok (.ladd, 1) := by decide +kernel
theorem d_Law_digest_313 : decode method_4_code 313 = .ok (.lstore_n 1, 1) := by decide +kernel
theorem d_Law_digest_314 : decode method_4_code 314 = .ok (.iinc 3 1, 3) := by decide +kernel
theorem d_Law_digest_317 : decode method_4_code 317 = .ok (.goto (-38), 3) := by decide +kernel
theorem d_Law_digest_320 : decode method_4_code 320 = .ok (.ldc2_w 10, 3) := by decide +kernel
theorem d_Law_digest_323 : decode method_4_code 323 = .ok (.lload_n 1, 1) := by decide +kernel
theorem d_Law_digest_324 : decode method_4_code 324 = .ok (.lmul, 1) := by decide +kernel
theorem d_Law_digest_325 : decode method_4_code 325 = .ok (.aload_n 0, 1) := by decide +kernel
theorem d_Law_digest_326 : decode method_4_code 326 = .ok (.iconst 3, 1) := by decide +kernel
theorem d_Law_digest_327 : decode method_4_code 327 = .ok (.invokevirtual 32, 3) := by decide +kernel
theorem d_Law_digest_330 : decode method_4_code 330 = .ok (.i2l, 1) := by decide +kernel
theorem d_Law_digest_331 : decode method_4_code 331 = .ok (.ladd, 1) := by decide +kernel
theorem d_Law_digest_332 : decode method_4_code 332 = .ok (.lreturn, 1) := by decide +kernel
theorem d_Law_act_0 : decode method_5_code 0 = .ok (.iload_n 1, 1) := by decide +kernel
theorem d_Law_act_1 : decode method_5_code 1 = .ok (.iconst 4, 1) := by decide +kernel
theorem d_Law_act_2 : decode method_5_code 2 = .ok (.ishr, 1) := by decide +kernel
theorem d_Law_act_3 : decode method_5_code 3 = .ok (.istore_n 2, 1) := by decide +kernel
theorem d_Law_act_4 : decode method_5_code 4 = .ok (.iload_n 1, 1) := by decide +kernel
theorem d_Law_act_5 : decode method_5_code 5 = .ok (.bipush 6, 2) := by decide +kernel
theorem d_Law_act_7 : decode method_5_code 7 = .ok (.ishr, 1) := by decide +kernel
theorem d_Law_act_8 : decode method_5_code 8 = .ok (.iconst 3, 1) := by decide +kernel
theorem d_Law_act_9 : decode method_5_code 9 = .ok (.invokestatic 41, 3) := by decide +kernel
theorem d_Law_act_12 : decode method_5_code 12 = .ok (.istore_n 3, 1) := by decide +kernel
theorem d_Law_act_13 : decode method_5_code 13 = .ok (.iload_n 1, 1) := by decide +kernel
theorem d_Law_act_14 : decode method_5_code 14 = .ok (.bipush 8, 2) := by decide +kernel
theorem d_Law_act_16 : decode method_5_code 16 = .ok (.ishr, 1) := by decide +kernel
theorem d_Law_act_17 : decode method_5_code 17 = .ok (.iconst 3, 1) := by decide +kernel
theorem d_Law_act_18 : decode method_5_code 18 = .ok (.invokestatic 41, 3) := by decide +kernel
theorem d_Law_act_21 : decode method_5_code 21 = .ok (.istore 4, 2) := by decide +kernel
theorem d_Law_act_23 : decode method_5_code 23 = .ok (.iload_n 1, 1) := by decide +kernel
theorem d_Law_act_24 : decode method_5_code 24 = .ok (.bipush 15, 2) := by decide +kernel
theorem d_Law_act_26 : decode method_5_code 26 = .ok (.iand, 1) := by decide +kernel
theorem d_Law_act_27 : decode method_5_code 27 = .ok (.tableswitch 345 0 14 #[73, 73, 109, 127, 153, 182, 182, 211, 238, 257, 268, 268, 294, 325, 335], 73) := by decide +kernel
theorem d_Law_act_100 : decode method_5_code 100 = .ok (.aload_n 0, 1) := by decide +kernel
theorem d_Law_act_101 : decode method_5_code 101 = .ok (.iload_n 2, 1) := by decide +kernel
theorem d_Law_act_102 : decode method_5_code 102 = .ok (.iconst 2, 1) := by decide +kernel
theorem d_Law_act_103 : decode method_5_code 103 = .ok (.invokestatic 41, 3) := by decide +kernel
theorem d_Law_act_106 : decode method_5_code 106 = .ok (.bipush 50, 2) := by decide +kernel
theorem d_Law_act_108 : decode method_5_code 108 = .ok (.iload_n 1, 1) := by decide +kernel
theorem d_Law_act_109 : decode method_5_code 109 = .ok (.iconst 5, 1) := by decide +kernel
theorem d_Law_act_110 : decode method_5_code 110 = .ok (.ishr, 1) := by decide +kernel
theorem d_Law_act_111 : decode method_5_code 111 = .ok (.sipush 900, 3) := by decide +kernel
theorem d_Law_act_114 : decode method_5_code 114 = .ok (.invokestatic 41, 3) := by decide +kernel
theorem d_Law_act_117 : decode method_5_code 117 = .ok (.iadd, 1) := by decide +kernel
theorem d_Law_act_118 : decode method_5_code 118 = .ok (.iload_n 1, 1) := by decide +kernel
theorem d_Law_act_119 : decode method_5_code 119 = .ok (.bipush 9, 2) := by decide +kernel
theorem d_Law_act_121 : decode method_5_code 121 = .ok (.ishr, 1) := by decide +kernel
theorem d_Law_act_122 : decode method_5_code 122 = .ok (.iconst 1, 1) := by decide +kernel
theorem d_Law_act_123 : decode method_5_code 123 = .ok (.iand, 1) := by decide +kernel
theorem d_Law_act_124 : decode method_5_code 124 = .ok (.iload_n 1, 1) := by decide +kernel
theorem d_Law_act_125 : decode method_5_code 125 = .ok (.iconst 4, 1) := by decide +kernel
theorem d_Law_act_126 : decode method_5_code 126 = .ok (.ishr, 1) := by decide +kernel
theorem d_Law_act_127 : decode method_5_code 127 = .ok (.bipush 60, 2) := by decide +kernel
theorem d_Law_act_129 : decode method_5_code 129 = .ok (.invokestatic 41, 3) := by decide +kernel
theorem d_Law_act_132 : decode method_5_code 132 = .ok (.invokevirtual 46, 3) := by decide +kernel
theorem d_Law_act_135 : decode method_5_code 135 = .ok (.ireturn, 1) := by decide +kernel
theorem d_Law_act_136 : decode method_5_code 136 = .ok (.aload_n 0, 1) := by decide +kernel
theorem d_Law_act_137 : decode method_5_code 137 = .ok (.iload_n 2, 1) := by decide +kernel
theorem d_Law_act_138 : decode method_5_code 138 = .ok (.iconst 2, 1) := by decide +kernel
theorem d_Law_act_139 : decode method_5_code 139 = .ok (.invokestatic 41, 3) := by decide +kernel
theorem d_Law_act_142 : decode method_5_code 142 = .ok (.iload_n 1, 1) := by decide +kernel
theorem d_Law_act_143 : decode method_5_code 143 = .ok (.bipush 6, 2) := by decide +kernel
theorem d_Law_act_145 : decode method_5_code 145 = .ok (.ishr, 1) := by decide +kernel
theorem d_Law_act_146 : decode method_5_code 146 = .ok (.iconst 3, 1) := by decide +kernel
theorem d_Law_act_147 : decode method_5_code 147 = .ok (.invokestatic 41, 3) := by decide +kernel
theorem d_Law_act_150 : decode method_5_code 150 = .ok (.invokevirtual 50, 3) := by decide +kernel
theorem d_Law_act_153 : decode method_5_code 153 = .ok (.ireturn, 1) := by decide +kernel
theorem d_Law_act_154 : decode method_5_code 154 = .ok (.aload_n 0, 1) := by decide +kernel
theorem d_Law_act_155 : decode method_5_code 155 = .ok (.iload_n 2, 1) := by decide +kernel
theorem d_Law_act_156 : decode method_5_code 156 = .ok (.iconst 2, 1) := by decide +kernel
theorem d_Law_act_157 : decode method_5_code 157 = .ok (.invokestatic 41, 3) := by decide +kernel
theorem d_Law_act_160 : decode method_5_code 160 = .ok (.iload_n 1, 1) := by decide +kernel
theorem d_Law_act_161 : decode method_5_code 161 = .ok (.bipush 6, 2) := by decide +kernel
theorem d_Law_act_163 : decode method_5_code 163 = .ok (.ishr, 1) := by decide +kernel
theorem d_Law_act_164 : decode method_5_code 164 = .ok (.iconst 3, 1) := by decide +kernel
theorem d_Law_act_165 : decode method_5_code 165 = .ok (.invokestatic 41, 3) := by decide +kernel
theorem d_Law_act_168 : decode method_5_code 168 = .ok (.iload_n 1, 1) := by decide +kernel
theorem d_Law_act_169 : decode method_5_code 169 = .ok (.iconst 5, 1) := by decide +kernel
theorem d_Law_act_170 : decode method_5_code 170 = .ok (.ishr, 1) := by decide +kernel
theorem d_Law_act_171 : decode method_5_code 171 = .ok (.bipush 90, 2) := by decide +kernel
theorem d_Law_act_173 : decode method_5_code 173 = .ok (.invokestatic 41, 3) := by decide +kernel
theorem d_Law_act_176 : decode method_5_code 176 = .ok (.invokevirtual 53, 3) := by decide +kernel
theorem d_Law_act_179 : decode method_5_code 179 = .ok (.ireturn, 1) := by decide +kernel
theorem d_Law_act_180 : decode method_5_code 180 = .ok (.aload_n 0, 1) := by decide +kernel
theorem d_Law_act_181 : decode method_5_code 181 = .ok (.iload_n 2, 1) := by decide +kernel
theorem d_Law_act_182 : decode method_5_code 182 = .ok (.iconst 3, 1) := by decide +kernel
theorem d_Law_act_183 : decode method_5_code 183 = .ok (.invokestatic 41, 3) := by decide +kernel
theorem d_Law_act_186 : decode method_5_code 186 = .ok (.iload_n 1, 1) := by decide +kernel
theorem d_Law_act_187 : decode method_5_code 187 = .ok (.bipush 6, 2) := by decide +kernel
theorem d_Law_act_189 : decode method_5_code 189 = .ok (.ishr, 1) := by decide +kernel
theorem d_Law_act_190 : decode method_5_code 190 = .ok (.iconst 2, 1) := by decide +kernel
theorem d_Law_act_191 : decode method_5_code 191 = .ok (.invokestatic 41, 3) := by decide +kernel
theorem d_Law_act_194 : decode method_5_code 194 = .ok (.iconst 1, 1) := by decide +kernel
theorem d_Law_act_195 : decode method_5_code 195 = .ok (.iload_n 1, 1) := by decide +kernel
theorem d_Law_act_196 : decode method_5_code 196 = .ok (.iconst 3, 1) := by decide +kernel
theorem d_Law_act_197 : decode method_5_code 197 = .ok (.ishr, 1) := by decide +kernel
