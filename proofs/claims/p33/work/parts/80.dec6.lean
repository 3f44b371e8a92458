-- what the bytes of the law say
theorem d_Law_cell_0 : decode method_2_code 0 = .ok (.iload_n 1, 1) := by decide +kernel
theorem d_Law_cell_1 : decode method_2_code 1 = .ok (.aload_n 0, 1) := by decide +kernel
theorem d_Law_cell_2 : decode method_2_code 2 = .ok (.arraylength, 1) := by decide +kernel
theorem d_Law_cell_3 : decode method_2_code 3 = .ok (.if_icmp .ge 9, 3) := by decide +kernel
theorem d_Law_cell_6 : decode method_2_code 6 = .ok (.aload_n 0, 1) := by decide +kernel
theorem d_Law_cell_7 : decode method_2_code 7 = .ok (.iload_n 1, 1) := by decide +kernel
theorem d_Law_cell_8 : decode method_2_code 8 = .ok (.iaload, 1) := by decide +kernel
theorem d_Law_cell_9 : decode method_2_code 9 = .ok (.goto 15, 3) := by decide +kernel
theorem d_Law_cell_12 : decode method_2_code 12 = .ok (.sipush 7919, 3) := by decide +kernel
theorem d_Law_cell_15 : decode method_2_code 15 = .ok (.iload_n 1, 1) := by decide +kernel
theorem d_Law_cell_16 : decode method_2_code 16 = .ok (.iconst 3, 1) := by decide +kernel
theorem d_Law_cell_17 : decode method_2_code 17 = .ok (.iadd, 1) := by decide +kernel
theorem d_Law_cell_18 : decode method_2_code 18 = .ok (.imul, 1) := by decide +kernel
theorem d_Law_cell_19 : decode method_2_code 19 = .ok (.iload_n 1, 1) := by decide +kernel
theorem d_Law_cell_20 : decode method_2_code 20 = .ok (.bipush 11, 2) := by decide +kernel
theorem d_Law_cell_22 : decode method_2_code 22 = .ok (.iadd, 1) := by decide +kernel
theorem d_Law_cell_23 : decode method_2_code 23 = .ok (.imul, 1) := by decide +kernel
theorem d_Law_cell_24 : decode method_2_code 24 = .ok (.ireturn, 1) := by decide +kernel
theorem d_Law_low_0 : decode method_3_code 0 = .ok (.iload_n 0, 1) := by decide +kernel
theorem d_Law_low_1 : decode method_3_code 1 = .ok (.ldc 7, 2) := by decide +kernel
theorem d_Law_low_3 : decode method_3_code 3 = .ok (.iand, 1) := by decide +kernel
theorem d_Law_low_4 : decode method_3_code 4 = .ok (.iload_n 1, 1) := by decide +kernel
theorem d_Law_low_5 : decode method_3_code 5 = .ok (.irem, 1) := by decide +kernel
theorem d_Law_low_6 : decode method_3_code 6 = .ok (.ireturn, 1) := by decide +kernel
theorem d_Law_digest_0 : decode method_4_code 0 = .ok (.ldc2_w 8, 3) := by decide +kernel
theorem d_Law_digest_3 : decode method_4_code 3 = .ok (.lstore_n 1, 1) := by decide +kernel
theorem d_Law_digest_4 : decode method_4_code 4 = .ok (.iconst 0, 1) := by decide +kernel
theorem d_Law_digest_5 : decode method_4_code 5 = .ok (.istore_n 3, 1) := by decide +kernel
theorem d_Law_digest_6 : decode method_4_code 6 = .ok (.iload_n 3, 1) := by decide +kernel
theorem d_Law_digest_7 : decode method_4_code 7 = .ok (.bipush 9, 2) := by decide +kernel
theorem d_Law_digest_9 : decode method_4_code 9 = .ok (.if_icmp .ge 22, 3) := by decide +kernel
theorem d_Law_digest_12 : decode method_4_code 12 = .ok (.ldc2_w 10, 3) := by decide +kernel
theorem d_Law_digest_15 : decode method_4_code 15 = .ok (.lload_n 1, 1) := by decide +kernel
theorem d_Law_digest_16 : decode method_4_code 16 = .ok (.lmul, 1) := by decide +kernel
theorem d_Law_digest_17 : decode method_4_code 17 = .ok (.aload_n 0, 1) := by decide +kernel
theorem d_Law_digest_18 : decode method_4_code 18 = .ok (.iload_n 3, 1) := by decide +kernel
theorem d_Law_digest_19 : decode method_4_code 19 = .ok (.invokevirtual 12, 3) := by decide +kernel
theorem d_Law_digest_22 : decode method_4_code 22 = .ok (.i2l, 1) := by decide +kernel
theorem d_Law_digest_23 : decode method_4_code 23 = .ok (.ladd, 1) := by decide +kernel
theorem d_Law_digest_24 : decode method_4_code 24 = .ok (.lstore_n 1, 1) := by decide +kernel
theorem d_Law_digest_25 : decode method_4_code 25 = .ok (.iinc 3 1, 3) := by decide +kernel
theorem d_Law_digest_28 : decode method_4_code 28 = .ok (.goto (-22), 3) := by decide +kernel
theorem d_Law_digest_31 : decode method_4_code 31 = .ok (.ldc2_w 10, 3) := by decide +kernel
theorem d_Law_digest_34 : decode method_4_code 34 = .ok (.lload_n 1, 1) := by decide +kernel
theorem d_Law_digest_35 : decode method_4_code 35 = .ok (.lmul, 1) := by decide +kernel
theorem d_Law_digest_36 : decode method_4_code 36 = .ok (.aload_n 0, 1) := by decide +kernel
theorem d_Law_digest_37 : decode method_4_code 37 = .ok (.bipush 11, 2) := by decide +kernel
theorem d_Law_digest_39 : decode method_4_code 39 = .ok (.invokevirtual 12, 3) := by decide +kernel
theorem d_Law_digest_42 : decode method_4_code 42 = .ok (.i2l, 1) := by decide +kernel
theorem d_Law_digest_43 : decode method_4_code 43 = .ok (.ladd, 1) := by decide +kernel
theorem d_Law_digest_44 : decode method_4_code 44 = .ok (.lstore_n 1, 1) := by decide +kernel
theorem d_Law_digest_45 : decode method_4_code 45 = .ok (.iconst 0, 1) := by decide +kernel
theorem d_Law_digest_46 : decode method_4_code 46 = .ok (.istore_n 3, 1) := by decide +kernel
theorem d_Law_digest_47 : decode method_4_code 47 = .ok (.iload_n 3, 1) := by decide +kernel
theorem d_Law_digest_48 : decode method_4_code 48 = .ok (.iconst 2, 1) := by decide +kernel
theorem d_Law_digest_49 : decode method_4_code 49 = .ok (.if_icmp .ge 88, 3) := by decide +kernel
theorem d_Law_digest_52 : decode method_4_code 52 = .ok (.iconst 0, 1) := by decide +kernel
theorem d_Law_digest_53 : decode method_4_code 53 = .ok (.istore 4, 2) := by decide +kernel
theorem d_Law_digest_55 : decode method_4_code 55 = .ok (.iload 4, 2) := by decide +kernel
theorem d_Law_digest_57 : decode method_4_code 57 = .ok (.bipush 6, 2) := by decide +kernel
theorem d_Law_digest_59 : decode method_4_code 59 = .ok (.if_icmp .ge 24, 3) := by decide +kernel
theorem d_Law_digest_62 : decode method_4_code 62 = .ok (.ldc2_w 10, 3) := by decide +kernel
theorem d_Law_digest_65 : decode method_4_code 65 = .ok (.lload_n 1, 1) := by decide +kernel
theorem d_Law_digest_66 : decode method_4_code 66 = .ok (.lmul, 1) := by decide +kernel
theorem d_Law_digest_67 : decode method_4_code 67 = .ok (.aload_n 0, 1) := by decide +kernel
theorem d_Law_digest_68 : decode method_4_code 68 = .ok (.iload_n 3, 1) := by decide +kernel
theorem d_Law_digest_69 : decode method_4_code 69 = .ok (.iload 4, 2) := by decide +kernel
theorem d_Law_digest_71 : decode method_4_code 71 = .ok (.invokevirtual 18, 3) := by decide +kernel
theorem d_Law_digest_74 : decode method_4_code 74 = .ok (.i2l, 1) := by decide +kernel
theorem d_Law_digest_75 : decode method_4_code 75 = .ok (.ladd, 1) := by decide +kernel
theorem d_Law_digest_76 : decode method_4_code 76 = .ok (.lstore_n 1, 1) := by decide +kernel
theorem d_Law_digest_77 : decode method_4_code 77 = .ok (.iinc 4 1, 3) := by decide +kernel
theorem d_Law_digest_80 : decode method_4_code 80 = .ok (.goto (-25), 3) := by decide +kernel
theorem d_Law_digest_83 : decode method_4_code 83 = .ok (.iconst 0, 1) := by decide +kernel
theorem d_Law_digest_84 : decode method_4_code 84 = .ok (.istore 4, 2) := by decide +kernel
theorem d_Law_digest_86 : decode method_4_code 86 = .ok (.iload 4, 2) := by decide +kernel
theorem d_Law_digest_88 : decode method_4_code 88 = .ok (.bipush 6, 2) := by decide +kernel
theorem d_Law_digest_90 : decode method_4_code 90 = .ok (.if_icmp .ge 41, 3) := by decide +kernel
theorem d_Law_digest_93 : decode method_4_code 93 = .ok (.iconst 0, 1) := by decide +kernel
theorem d_Law_digest_94 : decode method_4_code 94 = .ok (.istore 5, 2) := by decide +kernel
theorem d_Law_digest_96 : decode method_4_code 96 = .ok (.iload 5, 2) := by decide +kernel
theorem d_Law_digest_98 : decode method_4_code 98 = .ok (.iconst 3, 1) := by decide +kernel
theorem d_Law_digest_99 : decode method_4_code 99 = .ok (.if_icmp .ge 26, 3) := by decide +kernel
theorem d_Law_digest_102 : decode method_4_code 102 = .ok (.ldc2_w 10, 3) := by decide +kernel
theorem d_Law_digest_105 : decode method_4_code 105 = .ok (.lload_n 1, 1) := by decide +kernel
theorem d_Law_digest_106 : decode method_4_code 106 = .ok (.lmul, 1) := by decide +kernel
theorem d_Law_digest_107 : decode method_4_code 107 = .ok (.aload_n 0, 1) := by decide +kernel
theorem d_Law_digest_108 : decode method_4_code 108 = .ok (.iload_n 3, 1) := by decide +kernel
theorem d_Law_digest_109 : decode method_4_code 109 = .ok (.iload 4, 2) := by decide +kernel
theorem d_Law_digest_111 : decode method_4_code 111 = .ok (.iload 5, 2) := by decide +kernel
theorem d_Law_digest_113 : decode method_4_code 113 = .ok (.invokevirtual 22, 3) := by decide +kernel
theorem d_Law_digest_116 : decode method_4_code 116 = .ok (.i2l, 1) := by decide +kernel
theorem d_Law_digest_117 : decode method_4_code 117 = .ok (.ladd, 1) := by decide +kernel
theorem d_Law_digest_118 : decode method_4_code 118 = .ok (.lstore_n 1, 1) := by decide +kernel
theorem d_Law_digest_119 : decode method_4_code 119 = .ok (.iinc 5 1, 3) := by decide +kernel
theorem d_Law_digest_122 : decode method_4_code 122 = .ok (.goto (-26), 3) := by decide +kernel
theorem d_Law_digest_125 : decode method_4_code 125 = .ok (.iinc 4 1, 3) := by decide +kernel
theorem d_Law_digest_128 : decode method_4_code 128 = .ok (.goto (-42), 3) := by decide +kernel
theorem d_Law_digest_131 : decode method_4_code 131 = .ok (.iinc 3 1, 3) := by decide +kernel
theorem d_Law_digest_134 : decode method_4_code 134 = .ok (.goto (-87), 3) := by decide +kernel
theorem d_Law_digest_137 : decode method_4_code 137 = .ok (.iconst 0, 1) := by decide +kernel
theorem d_Law_digest_138 : decode method_4_code 138 = .ok (.istore_n 3, 1) := by decide +kernel
theorem d_Law_digest_139 : decode method_4_code 139 = .ok (.iload_n 3, 1) := by decide +kernel
theorem d_Law_digest_140 : decode method_4_code 140 = .ok (.aload_n 0, 1) := by decide +kernel
theorem d_Law_digest_141 : decode method_4_code 141 = .ok (.iconst 0, 1) := by decide +kernel
theorem d_Law_digest_142 : decode method_4_code 142 = .ok (.iconst 0, 1) := by decide +kernel
theorem d_Law_digest_143 : decode method_4_code 143 = .ok (.invokevirtual 18, 3) := by decide +kernel
theorem d_Law_digest_146 : decode method_4_code 146 = .ok (.if_icmp .gt 61, 3) := by decide +kernel
theorem d_Law_digest_149 : decode method_4_code 149 = .ok (.iconst 0, 1) := by decide +kernel
theorem d_Law_digest_150 : decode method_4_code 150 = .ok (.istore 4, 2) := by decide +kernel
theorem d_Law_digest_152 : decode method_4_code 152 = .ok (.iload 4, 2) := by decide +kernel
theorem d_Law_digest_154 : decode method_4_code 154 = .ok (.aload_n 0, 1) := by decide +kernel
theorem d_Law_digest_155 : decode method_4_code 155 = .ok (.iconst 1, 1) := by decide +kernel
theorem d_Law_digest_156 : decode method_4_code 156 = .ok (.iconst 0, 1) := by decide +kernel
theorem d_Law_digest_157 : decode method_4_code 157 = .ok (.invokevirtual 18, 3) := by decide +kernel
theorem d_Law_digest_160 : decode method_4_code 160 = .ok (.if_icmp .gt 41, 3) := by decide +kernel
theorem d_Law_digest_163 : decode method_4_code 163 = .ok (.iconst 0, 1) := by decide +kernel
theorem d_Law_digest_164 : decode method_4_code 164 = .ok (.istore 5, 2) := by decide +kernel
theorem d_Law_digest_166 : decode method_4_code 166 = .ok (.iload 5, 2) := by decide +kernel
theorem d_Law_digest_168 : decode method_4_code 168 = .ok (.iconst 4, 1) := by decide +kernel
theorem d_Law_digest_169 : decode method_4_code 169 = .ok (.if_icmp .ge 26, 3) := by decide +kernel
theorem d_Law_digest_172 : decode method_4_code 172 = .ok (.ldc2_w 10, 3) := by decide +kernel
theorem d_Law_digest_175 : decode method_4_code 175 = .ok (.lload_n 1, 1) := by decide +kernel
theorem d_Law_digest_176 : decode method_4_code 176 = .ok (.lmul, 1) := by decide +kernel
theorem d_Law_digest_177 : decode method_4_code 177 = .ok (.aload_n 0, 1) := by decide +kernel
theorem d_Law_digest_178 : decode method_4_code 178 = .ok (.iload_n 3, 1) := by decide +kernel
theorem d_Law_digest_179 : decode method_4_code 179 = .ok (.iload 4, 2) := by decide +kernel
theorem d_Law_digest_181 : decode method_4_code 181 = .ok (.iload 5, 2) := by decide +kernel
theorem d_Law_digest_183 : decode method_4_code 183 = .ok (.invokevirtual 26, 3) := by decide +kernel
theorem d_Law_digest_186 : decode method_4_code 186 = .ok (.i2l, 1) := by decide +kernel
theorem d_Law_digest_187 : decode method_4_code 187 = .ok (.ladd, 1) := by decide +kernel
theorem d_Law_digest_188 : decode method_4_code 188 = .ok (.lstore_n 1, 1) := by decide +kernel
theorem d_Law_digest_189 : decode method_4_code 189 = .ok (.iinc 5 1, 3) := by decide +kernel
theorem d_Law_digest_192 : decode method_4_code 192 = .ok (.goto (-26), 3) := by decide +kernel
theorem d_Law_digest_195 : decode method_4_code 195 = .ok (.iinc 4 1, 3) := by decide +kernel
theorem d_Law_digest_198 : decode method_4_code 198 = .ok (.goto (-46), 3) := by decide +kernel
theorem d_Law_digest_201 : decode method_4_code 201 = .ok (.iinc 3 1, 3) := by decide +kernel
theorem d_Law_digest_204 : decode method_4_code 204 = .ok (.goto (-65), 3) := by decide +kernel
theorem d_Law_digest_207 : decode method_4_code 207 = .ok (.iconst 0, 1) := by decide +kernel
theorem d_Law_digest_208 : decode method_4_code 208 = .ok (.istore_n 3, 1) := by decide +kernel
theorem d_Law_digest_209 : decode method_4_code 209 = .ok (.iload_n 3, 1) := by decide +kernel
theorem d_Law_digest_210 : decode method_4_code 210 = .ok (.iconst 3, 1) := by decide +kernel
theorem d_Law_digest_211 : decode method_4_code 211 = .ok (.if_icmp .ge 66, 3) := by decide +kernel
theorem d_Law_digest_214 : decode method_4_code 214 = .ok (.iconst 0, 1) := by decide +kernel
theorem d_Law_digest_215 : decode method_4_code 215 = .ok (.istore 4, 2) := by decide +kernel
theorem d_Law_digest_217 : decode method_4_code 217 = .ok (.iload 4, 2) := by decide +kernel
theorem d_Law_digest_219 : decode method_4_code 219 = .ok (.iconst 4, 1) := by decide +kernel
theorem d_Law_digest_220 : decode method_4_code 220 = .ok (.if_icmp .ge 24, 3) := by decide +kernel
theorem d_Law_digest_223 : decode method_4_code 223 = .ok (.ldc2_w 10, 3) := by decide +kernel
theorem d_Law_digest_226 : decode method_4_code 226 = .ok (.lload_n 1, 1) := by decide +kernel
theorem d_Law_digest_227 : decode method_4_code 227 = .ok (.lmul, 1) := by decide +kernel
theorem d_Law_digest_228 : decode method_4_code 228 = .ok (.aload_n 0, 1) := by decide +kernel
theorem d_Law_digest_229 : decode method_4_code 229 = .ok (.iload_n 3, 1) := by decide +kernel
theorem d_Law_digest_230 : decode method_4_code 230 = .ok (.iload 4, 2) := by decide +kernel
theorem d_Law_digest_232 : decode method_4_code 232 = .ok (.invokevirtual 29, 3) := by decide +kernel
theorem d_Law_digest_235 : decode method_4_code 235 = .ok (.i2l, 1) := by decide +kernel
theorem d_Law_digest_236 : decode method_4_code 236 = .ok (.ladd, 1) := by decide +kernel
theorem d_Law_digest_237 : decode method_4_code 237 = .ok (.lstore_n 1, 1) := by decide +kernel
theorem d_Law_digest_238 : decode method_4_code 238 = .ok (.iinc 4 1, 3) := by decide +kernel
theorem d_Law_digest_241 : decode method_4_code 241 = .ok (.goto (-24), 3) := by decide +kernel
theorem d_Law_digest_244 : decode method_4_code 244 = .ok (.ldc2_w 10, 3) := by decide +kernel
theorem d_Law_digest_247 : decode method_4_code 247 = .ok (.lload_n 1, 1) := by decide +kernel
theorem d_Law_digest_248 : decode method_4_code 248 = .ok (.lmul, 1) := by decide +kernel
theorem d_Law_digest_249 : decode method_4_code 249 = .ok (.aload_n 0, 1) := by decide +kernel
theorem d_Law_digest_250 : decode method_4_code 250 = .ok (.iload_n 3, 1) := by decide +kernel
theorem d_Law_digest_251 : decode method_4_code 251 = .ok (.invokevirtual 32, 3) := by decide +kernel
theorem d_Law_digest_254 : decode method_4_code 254 = .ok (.i2l, 1) := by decide +kernel
theorem d_Law_digest_255 : decode method_4_code 255 = .ok (.ladd, 1) := by decide +kernel
theorem d_Law_digest_256 : decode method_4_code 256 = .ok (.lstore_n 1, 1) := by decide +kernel
theorem d_Law_digest_257 : decode method_4_code 257 = .ok (.ldc2_w 10, 3) := by decide +kernel
theorem d_Law_digest_260 : decode method_4_code 260 = .ok (.lload_n 1, 1) := by decide +kernel
theorem d_Law_digest_261 : decode method_4_code 261 = .ok (.lmul, 1) := by decide +kernel
theorem d_Law_digest_262 : decode method_4_code 262 = .ok (.aload_n 0, 1) := by decide +kernel
theorem d_Law_digest_263 : decode method_4_code 263 = .ok (.iload_n 3, 1) := by decide +kernel
theorem d_Law_digest_264 : decode method_4_code 264 = .ok (.iconst 0, 1) := by decide +kernel
theorem d_Law_digest_265 : decode method_4_code 265 = .ok (.invokevirtual 35, 3) := by decide +kernel
theorem d_Law_digest_268 : decode method_4_code 268 = .ok (.i2l, 1) := by decide +kernel
theorem d_Law_digest_269 : decode method_4_code 269 = .ok (.ladd, 1) := by decide +kernel
theorem d_Law_digest_270 : decode method_4_code 270 = .ok (.lstore_n 1, 1) := by decide +kernel
theorem d_Law_digest_271 : decode method_4_code 271 = .ok (.iinc 3 1, 3) := by decide +kernel
theorem d_Law_digest_274 : decode method_4_code 274 = .ok (.goto (-65), 3) := by decide +kernel
theorem d_Law_digest_277 : decode method_4_code 277 = .ok (.iconst 0, 1) := by decide +kernel
theorem d_Law_digest_278 : decode method_4_code 278 = .ok (.istore_n 3, 1) := by decide +kernel
theorem d_Law_digest_279 : decode method_4_code 279 = .ok (.iload_n 3, 1) := by decide +kernel
theorem d_Law_digest_280 : decode method_4_code 280 = .ok (.bipush 20, 2) := by decide +kernel
theorem d_Law_digest_282 : decode method_4_code 282 = .ok (.if_icmp .ge 38, 3) := by decide +kernel
theorem d_Law_digest_285 : decode method_4_code 285 = .ok (.ldc2_w 10, 3) := by decide +kernel
theorem d_Law_digest_288 : decode method_4_code 288 = .ok (.lload_n 1, 1) := by decide +kernel
theorem d_Law_digest_289 : decode method_4_code 289 = .ok (.lmul, 1) := by decide +kernel
theorem d_Law_digest_290 : decode method_4_code 290 = .ok (.aload_n 0, 1) := by decide +kernel
theorem d_Law_digest_291 : decode method_4_code 291 = .ok (.iload_n 3, 1) := by decide +kernel
theorem d_Law_digest_292 : decode method_4_code 292 = .ok (.iconst 0, 1) := by decide +kernel
theorem d_Law_digest_293 : decode method_4_code 293 = .ok (.invokevirtual 38, 3) := by decide +kernel
theorem d_Law_digest_296 : decode method_4_code 296 = .ok (.i2l, 1) := by decide +kernel
theorem d_Law_digest_297 : decode method_4_code 297 = .ok (.ladd, 1) := by decide +kernel
theorem d_Law_digest_298 : decode method_4_code 298 = .ok (.lstore_n 1, 1) := by decide +kernel
theorem d_Law_digest_299 : decode method_4_code 299 = .ok (.ldc2_w 10, 3) := by decide +kernel
theorem d_Law_digest_302 : decode method_4_code 302 = .ok (.lload_n 1, 1) := by decide +kernel
theorem d_Law_digest_303 : decode method_4_code 303 = .ok (.lmul, 1) := by decide +kernel
theorem d_Law_digest_304 : decode method_4_code 304 = .ok (.aload_n 0, 1) := by decide +kernel
theorem d_Law_digest_305 : decode method_4_code 305 = .ok (.iload_n 3, 1) := by decide +kernel
theorem d_Law_digest_306 : decode method_4_code 306 = .ok (.bipush 7, 2) := by decide +kernel
theorem d_Law_digest_308 : decode method_4_code 308 = .ok (.invokevirtual 38, 3) := by decide +kernel
theorem d_Law_digest_311 : decode method_4_code 311 = .ok (.i2l, 1) := by decide +kernel
theorem d_Law_digest_312 : decode method_4_code 312 = .ok (.ladd, 1) := by decide +kernel
theorem d_Law_digest_313 : decode method_4_code 313 = .ok (.lstore_n 1, 1) := by decide +kernel
theorem d_Law_digest_314 : decode method_4_code 314 = .ok (.iinc 3 1, 3) := by decide +kernel
theorem d_Law_digest_317 : decode method_4_code 317 = .ok (.goto (-38), 3) := by decide +kernel
theorem d_Law_digest_320 : decode method_4_code 320 = .ok (.ldc2_w 10, 3) := by decide +kernel
theorem d_Law_digest_323 : decode method_4_code 323 = .ok (.lload_n 1, 1) := by decide +kernel
theorem d_Law_digest_324 : decode method_4_code 324 = .ok (.lmul, 1) := by decide +kernel
theorem d_Law_digest_325 : decode method_4_code 325 = .ok (.aload_n 0, 1) := by decide +kernel
theorem d_Law_digest_326 : decode method_4_code 326 = .ok (.iconst 3, 1) := by decide +kernel
theorem d_Law_digest_327 : decode method_4_code 327 = .ok (.invokevirtual 32, 3) := by decide +kernel
theorem d_Law_digest_330 : decode method_4_code 330 = .ok (.i2l, 1) := by decide +kernel
theorem d_Law_digest_331 : decode method_4_code 331 = .ok (.ladd, 1) := by decide +kernel
theorem d_Law_digest_332 : decode method_4_code 332 = .ok (.lreturn, 1) := by decide +kernel
theorem d_Law_act_0 : decode method_5_code 0 = .ok (.iload_n 1, 1) := by decide +kernel
theorem d_Law_act_1 : decode method_5_code 1 = .ok (.iconst 4, 1) := by decide +kernel
theorem d_Law_act_2 : decode method_5_code 2 = .ok (.ishr, 1) := by decide +kernel
theorem d_Law_act_3 : decode method_5_code 3 = .ok (.istore_n 2, 1) := by decide +kernel
theorem d_Law_act_4 : decode method_5_code 4 = .ok (.iload_n 1, 1) := by decide +kernel
theorem d_Law_act_5 : decode method_5_code 5 = .ok (.bipush 6, 2) := by decide +kernel
theorem d_Law_act_7 : decode method_5_code 7 = .ok (.ishr, 1) := by decide +kernel
theorem d_Law_act_8 : decode method_5_code 8 = .ok (.iconst 3, 1) := by decide +kernel
theorem d_Law_act_9 : decode method_5_code 9 = .ok (.invokestatic 41, 3) := by decide +kernel
theorem d_Law_act_12 : decode method_5_code 12 = .ok (.istore_n 3, 1) := by decide +kernel
theorem d_Law_act_13 : decode method_5_code 13 = .ok (.iload_n 1, 1) := by decide +kernel
theorem d_Law_act_14 : decode method_5_code 14 = .ok (.bipush 8, 2) := by decide +kernel
theorem d_Law_act_16 : decode method_5_code 16 = .ok (.ishr, 1) := by decide +kernel
theorem d_Law_act_17 : decode method_5_code 17 = .ok (.iconst 3, 1) := by decide +kernel
theorem d_Law_act_18 : decode method_5_code 18 = .ok (.invokestatic 41, 3) := by decide +kernel
theorem d_Law_act_21 : decode method_5_code 21 = .ok (.istore 4, 2) := by decide +kernel
theorem d_Law_act_23 : decode method_5_code 23 = .ok (.iload_n 1, 1) := by decide +kernel
theorem d_Law_act_24 : decode method_5_code 24 = .ok (.bipush 15, 2) := by decide +kernel
theorem d_Law_act_26 : decode method_5_code 26 = .ok (.iand, 1) := by decide +kernel
theorem d_Law_act_27 : decode method_5_code 27 = .ok (.tableswitch 345 0 14 #[73, 73, 109, 127, 153, 182, 182, 211, 238, 257, 268, 268, 294, 325, 335], 73) := by decide +kernel
theorem d_Law_act_100 : decode method_5_code 100 = .ok (.aload_n 0, 1) := by decide +kernel
theorem d_Law_act_101 : decode method_5_code 101 = .ok (.iload_n 2, 1) := by decide +kernel
theorem d_Law_act_102 : decode method_5_code 102 = .ok (.iconst 2, 1) := by decide +kernel
theorem d_Law_act_103 : decode method_5_code 103 = .ok (.invokestatic 41, 3) := by decide +kernel
theorem d_Law_act_106 : decode method_5_code 106 = .ok (.bipush 50, 2) := by decide +kernel
theorem d_Law_act_108 : decode method_5_code 108 = .ok (.iload_n 1, 1) := by decide +kernel
theorem d_Law_act_109 : decode method_5_code 109 = .ok (.iconst 5, 1) := by decide +kernel
theorem d_Law_act_110 : decode method_5_code 110 = .ok (.ishr, 1) := by decide +kernel
theorem d_Law_act_111 : decode method_5_code 111 = .ok (.sipush 900, 3) := by decide +kernel
theorem d_Law_act_114 : decode method_5_code 114 = .ok (.invokestatic 41, 3) := by decide +kernel
theorem d_Law_act_117 : decode method_5_code 117 = .ok (.iadd, 1) := by decide +kernel
theorem d_Law_act_118 : decode method_5_code 118 = .ok (.iload_n 1, 1) := by decide +kernel
theorem d_Law_act_119 : decode method_5_code 119 = .ok (.bipush 9, 2) := by decide +kernel
theorem d_Law_act_121 : decode method_5_code 121 = .ok (.ishr, 1) := by decide +kernel
theorem d_Law_act_122 : decode method_5_code 122 = .ok (.iconst 1, 1) := by decide +kernel
theorem d_Law_act_123 : decode method_5_code 123 = .ok (.iand, 1) := by decide +kernel
theorem d_Law_act_124 : decode method_5_code 124 = .ok (.iload_n 1, 1) := by decide +kernel
theorem d_Law_act_125 : decode method_5_code 125 = .ok (.iconst 4, 1) := by decide +kernel
theorem d_Law_act_126 : decode method_5_code 126 = .ok (.ishr, 1) := by decide +kernel
theorem d_Law_act_127 : decode method_5_code 127 = .ok (.bipush 60, 2) := by decide +kernel
theorem d_Law_act_129 : decode method_5_code 129 = .ok (.invokestatic 41, 3) := by decide +kernel
theorem d_Law_act_132 : decode method_5_code 132 = .ok (.invokevirtual 46, 3) := by decide +kernel
theorem d_Law_act_135 : decode method_5_code 135 = .ok (.ireturn, 1) := by decide +kernel
theorem d_Law_act_136 : decode method_5_code 136 = .ok (.aload_n 0, 1) := by decide +kernel
theorem d_Law_act_137 : decode method_5_code 137 = .ok (.iload_n 2, 1) := by decide +kernel
theorem d_Law_act_138 : decode method_5_code 138 = .ok (.iconst 2, 1) := by decide +kernel
theorem d_Law_act_139 : decode method_5_code 139 = .ok (.invokestatic 41, 3) := by decide +kernel
theorem d_Law_act_142 : decode method_5_code 142 = .ok (.iload_n 1, 1) := by decide +kernel
theorem d_Law_act_143 : decode method_5_code 143 = .ok (.bipush 6, 2) := by decide +kernel
theorem d_Law_act_145 : decode method_5_code 145 = .ok (.ishr, 1) := by decide +kernel
theorem d_Law_act_146 : decode method_5_code 146 = .ok (.iconst 3, 1) := by decide +kernel
theorem d_Law_act_147 : decode method_5_code 147 = .ok (.invokestatic 41, 3) := by decide +kernel
theorem d_Law_act_150 : decode method_5_code 150 = .ok (.invokevirtual 50, 3) := by decide +kernel
theorem d_Law_act_153 : decode method_5_code 153 = .ok (.ireturn, 1) := by decide +kernel
theorem d_Law_act_154 : decode method_5_code 154 = .ok (.aload_n 0, 1) := by decide +kernel
theorem d_Law_act_155 : decode method_5_code 155 = .ok (.iload_n 2, 1) := by decide +kernel
theorem d_Law_act_156 : decode method_5_code 156 = .ok (.iconst 2, 1) := by decide +kernel
theorem d_Law_act_157 : decode method_5_code 157 = .ok (.invokestatic 41, 3) := by decide +kernel
theorem d_Law_act_160 : decode method_5_code 160 = .ok (.iload_n 1, 1) := by decide +kernel
theorem d_Law_act_161 : decode method_5_code 161 = .ok (.bipush 6, 2) := by decide +kernel
theorem d_Law_act_163 : decode method_5_code 163 = .ok (.ishr, 1) := by decide +kernel
theorem d_Law_act_164 : decode method_5_code 164 = .ok (.iconst 3, 1) := by decide +kernel
theorem d_Law_act_165 : decode method_5_code 165 = .ok (.invokestatic 41, 3) := by decide +kernel
theorem d_Law_act_168 : decode method_5_code 168 = .ok (.iload_n 1, 1) := by decide +kernel
theorem d_Law_act_169 : decode method_5_code 169 = .ok (.iconst 5, 1) := by decide +kernel
theorem d_Law_act_170 : decode method_5_code 170 = .ok (.ishr, 1) := by decide +kernel
theorem d_Law_act_171 : decode method_5_code 171 = .ok (.bipush 90, 2) := by decide +kernel
theorem d_Law_act_173 : decode method_5_code 173 = .ok (.invokestatic 41, 3) := by decide +kernel
theorem d_Law_act_176 : decode method_5_code 176 = .ok (.invokevirtual 53, 3) := by decide +kernel
theorem d_Law_act_179 : decode method_5_code 179 = .ok (.ireturn, 1) := by decide +kernel
theorem d_Law_act_180 : decode method_5_code 180 = .ok (.aload_n 0, 1) := by decide +kernel
theorem d_Law_act_181 : decode method_5_code 181 = .ok (.iload_n 2, 1) := by decide +kernel
theorem d_Law_act_182 : decode method_5_code 182 = .ok (.iconst 3, 1) := by decide +kernel
theorem d_Law_act_183 : decode method_5_code 183 = .ok (.invokestatic 41, 3) := by decide +kernel
theorem d_Law_act_186 : decode method_5_code 186 = .ok (.iload_n 1, 1) := by decide +kernel
theorem d_Law_act_187 : decode method_5_code 187 = .ok (.bipush 6, 2) := by decide +kernel
theorem d_Law_act_189 : decode method_5_code 189 = .ok (.ishr, 1) := by decide +kernel
theorem d_Law_act_190 : decode method_5_code 190 = .ok (.iconst 2, 1) := by decide +kernel
theorem d_Law_act_191 : decode method_5_code 191 = .ok (.invokestatic 41, 3) := by decide +kernel
theorem d_Law_act_194 : decode method_5_code 194 = .ok (.iconst 1, 1) := by decide +kernel
theorem d_Law_act_195 : decode method_5_code 195 = .ok (.iload_n 1, 1) := by decide +kernel
theorem d_Law_act_196 : decode method_5_code 196 = .ok (.iconst 3, 1) := by decide +kernel
theorem d_Law_act_197 : decode method_5_code 197 = .ok (.ishr, 1) := by decide +kernel
theorem d_Law_act_198 : decode method_5_code 198 = .ok (.sipush 3000, 3) := by decide +kernel
theorem d_Law_act_201 : decode method_5_code 201 = .ok (.invokestatic 41, 3) := by decide +kernel
theorem d_Law_act_204 : decode method_5_code 204 = .ok (.iadd, 1) := by decide +kernel
theorem d_Law_act_205 : decode method_5_code 205 = .ok (.invokevirtual 56, 3) := by decide +kernel
theorem d_Law_act_208 : decode method_5_code 208 = .ok (.ireturn, 1) := by decide +kernel
theorem d_Law_act_209 : decode method_5_code 209 = .ok (.aload_n 0, 1) := by decide +kernel
theorem d_Law_act_210 : decode method_5_code 210 = .ok (.iload_n 2, 1) := by decide +kernel
theorem d_Law_act_211 : decode method_5_code 211 = .ok (.iconst 3, 1) := by decide +kernel
theorem d_Law_act_212 : decode method_5_code 212 = .ok (.invokestatic 41, 3) := by decide +kernel
theorem d_Law_act_215 : decode method_5_code 215 = .ok (.iload_n 3, 1) := by decide +kernel
theorem d_Law_act_216 : decode method_5_code 216 = .ok (.iload 4, 2) := by decide +kernel
theorem d_Law_act_218 : decode method_5_code 218 = .ok (.iload_n 1, 1) := by decide +kernel
theorem d_Law_act_219 : decode method_5_code 219 = .ok (.iconst 5, 1) := by decide +kernel
theorem d_Law_act_220 : decode method_5_code 220 = .ok (.ishr, 1) := by decide +kernel
theorem d_Law_act_221 : decode method_5_code 221 = .ok (.iconst 3, 1) := by decide +kernel
theorem d_Law_act_222 : decode method_5_code 222 = .ok (.invokestatic 41, 3) := by decide +kernel
theorem d_Law_act_225 : decode method_5_code 225 = .ok (.iload_n 1, 1) := by decide +kernel
theorem d_Law_act_226 : decode method_5_code 226 = .ok (.iconst 3, 1) := by decide +kernel
theorem d_Law_act_227 : decode method_5_code 227 = .ok (.ishr, 1) := by decide +kernel
theorem d_Law_act_228 : decode method_5_code 228 = .ok (.sipush 500, 3) := by decide +kernel
theorem d_Law_act_231 : decode method_5_code 231 = .ok (.invokestatic 41, 3) := by decide +kernel
theorem d_Law_act_234 : decode method_5_code 234 = .ok (.invokevirtual 59, 3) := by decide +kernel
theorem d_Law_act_237 : decode method_5_code 237 = .ok (.ireturn, 1) := by decide +kernel
theorem d_Law_act_238 : decode method_5_code 238 = .ok (.aload_n 0, 1) := by decide +kernel
theorem d_Law_act_239 : decode method_5_code 239 = .ok (.iload_n 2, 1) := by decide +kernel
theorem d_Law_act_240 : decode method_5_code 240 = .ok (.iconst 3, 1) := by decide +kernel
theorem d_Law_act_241 : decode method_5_code 241 = .ok (.invokestatic 41, 3) := by decide +kernel
theorem d_Law_act_244 : decode method_5_code 244 = .ok (.iload_n 1, 1) := by decide +kernel
theorem d_Law_act_245 : decode method_5_code 245 = .ok (.bipush 6, 2) := by decide +kernel
theorem d_Law_act_247 : decode method_5_code 247 = .ok (.ishr, 1) := by decide +kernel
theorem d_Law_act_248 : decode method_5_code 248 = .ok (.iconst 3, 1) := by decide +kernel
theorem d_Law_act_249 : decode method_5_code 249 = .ok (.invokestatic 41, 3) := by decide +kernel
theorem d_Law_act_252 : decode method_5_code 252 = .ok (.iload_n 1, 1) := by decide +kernel
theorem d_Law_act_253 : decode method_5_code 253 = .ok (.iconst 3, 1) := by decide +kernel
theorem d_Law_act_254 : decode method_5_code 254 = .ok (.ishr, 1) := by decide +kernel
theorem d_Law_act_255 : decode method_5_code 255 = .ok (.sipush 300, 3) := by decide +kernel
theorem d_Law_act_258 : decode method_5_code 258 = .ok (.invokestatic 41, 3) := by decide +kernel
theorem d_Law_act_261 : decode method_5_code 261 = .ok (.invokevirtual 63, 3) := by decide +kernel
theorem d_Law_act_264 : decode method_5_code 264 = .ok (.ireturn, 1) := by decide +kernel
theorem d_Law_act_265 : decode method_5_code 265 = .ok (.aload_n 0, 1) := by decide +kernel
theorem d_Law_act_266 : decode method_5_code 266 = .ok (.iload_n 2, 1) := by decide +kernel
theorem d_Law_act_267 : decode method_5_code 267 = .ok (.iconst 3, 1) := by decide +kernel
theorem d_Law_act_268 : decode method_5_code 268 = .ok (.invokestatic 41, 3) := by decide +kernel
theorem d_Law_act_271 : decode method_5_code 271 = .ok (.iload_n 3, 1) := by decide +kernel
theorem d_Law_act_272 : decode method_5_code 272 = .ok (.iload 4, 2) := by decide +kernel
theorem d_Law_act_274 : decode method_5_code 274 = .ok (.iload_n 1, 1) := by decide +kernel
theorem d_Law_act_275 : decode method_5_code 275 = .ok (.bipush 9, 2) := by decide +kernel
theorem d_Law_act_277 : decode method_5_code 277 = .ok (.ishr, 1) := by decide +kernel
theorem d_Law_act_278 : decode method_5_code 278 = .ok (.iconst 1, 1) := by decide +kernel
theorem d_Law_act_279 : decode method_5_code 279 = .ok (.iand, 1) := by decide +kernel
theorem d_Law_act_280 : decode method_5_code 280 = .ok (.invokevirtual 66, 3) := by decide +kernel
theorem d_Law_act_283 : decode method_5_code 283 = .ok (.ireturn, 1) := by decide +kernel
theorem d_Law_act_284 : decode method_5_code 284 = .ok (.aload_n 0, 1) := by decide +kernel
theorem d_Law_act_285 : decode method_5_code 285 = .ok (.iload_n 2, 1) := by decide +kernel
theorem d_Law_act_286 : decode method_5_code 286 = .ok (.bipush 40, 2) := by decide +kernel
theorem d_Law_act_288 : decode method_5_code 288 = .ok (.invokestatic 41, 3) := by decide +kernel
theorem d_Law_act_291 : decode method_5_code 291 = .ok (.invokevirtual 69, 3) := by decide +kernel
theorem d_Law_act_294 : decode method_5_code 294 = .ok (.ireturn, 1) := by decide +kernel
theorem d_Law_act_295 : decode method_5_code 295 = .ok (.aload_n 0, 1) := by decide +kernel
theorem d_Law_act_296 : decode method_5_code 296 = .ok (.iload_n 1, 1) := by decide +kernel
theorem d_Law_act_297 : decode method_5_code 297 = .ok (.iconst 3, 1) := by decide +kernel
theorem d_Law_act_298 : decode method_5_code 298 = .ok (.ishr, 1) := by decide +kernel
theorem d_Law_act_299 : decode method_5_code 299 = .ok (.sipush 1001, 3) := by decide +kernel
theorem d_Law_act_302 : decode method_5_code 302 = .ok (.invokestatic 41, 3) := by decide +kernel
theorem d_Law_act_305 : decode method_5_code 305 = .ok (.iload_n 1, 1) := by decide +kernel
theorem d_Law_act_306 : decode method_5_code 306 = .ok (.bipush 7, 2) := by decide +kernel
theorem d_Law_act_308 : decode method_5_code 308 = .ok (.imul, 1) := by decide +kernel
theorem d_Law_act_309 : decode method_5_code 309 = .ok (.iconst 4, 1) := by decide +kernel
theorem d_Law_act_310 : decode method_5_code 310 = .ok (.ishr, 1) := by decide +kernel
theorem d_Law_act_311 : decode method_5_code 311 = .ok (.sipush 1001, 3) := by decide +kernel
theorem d_Law_act_314 : decode method_5_code 314 = .ok (.invokestatic 41, 3) := by decide +kernel
theorem d_Law_act_317 : decode method_5_code 317 = .ok (.invokevirtual 72, 3) := by decide +kernel
theorem d_Law_act_320 : decode method_5_code 320 = .ok (.ireturn, 1) := by decide +kernel
theorem d_Law_act_321 : decode method_5_code 321 = .ok (.aload_n 0, 1) := by decide +kernel
theorem d_Law_act_322 : decode method_5_code 322 = .ok (.iload_n 2, 1) := by decide +kernel
theorem d_Law_act_323 : decode method_5_code 323 = .ok (.iconst 2, 1) := by decide +kernel
theorem d_Law_act_324 : decode method_5_code 324 = .ok (.invokestatic 41, 3) := by decide +kernel
theorem d_Law_act_327 : decode method_5_code 327 = .ok (.iload_n 1, 1) := by decide +kernel
theorem d_Law_act_328 : decode method_5_code 328 = .ok (.iconst 3, 1) := by decide +kernel
theorem d_Law_act_329 : decode method_5_code 329 = .ok (.ishr, 1) := by decide +kernel
theorem d_Law_act_330 : decode method_5_code 330 = .ok (.sipush 1001, 3) := by decide +kernel
theorem d_Law_act_333 : decode method_5_code 333 = .ok (.invokestatic 41, 3) := by decide +kernel
theorem d_Law_act_336 : decode method_5_code 336 = .ok (.bipush 20, 2) := by decide +kernel
theorem d_Law_act_338 : decode method_5_code 338 = .ok (.iload_n 1, 1) := by decide +kernel
theorem d_Law_act_339 : decode method_5_code 339 = .ok (.iconst 5, 1) := by decide +kernel
theorem d_Law_act_340 : decode method_5_code 340 = .ok (.ishr, 1) := by decide +kernel
theorem d_Law_act_341 : decode method_5_code 341 = .ok (.sipush 300, 3) := by decide +kernel
theorem d_Law_act_344 : decode method_5_code 344 = .ok (.invokestatic 41, 3) := by decide +kernel
theorem d_Law_act_347 : decode method_5_code 347 = .ok (.iadd, 1) := by decide +kernel
theorem d_Law_act_348 : decode method_5_code 348 = .ok (.invokevirtual 75, 3) := by decide +kernel
theorem d_Law_act_351 : decode method_5_code 351 = .ok (.ireturn, 1) := by decide +kernel
theorem d_Law_act_352 : decode method_5_code 352 = .ok (.aload_n 0, 1) := by decide +kernel
theorem d_Law_act_353 : decode method_5_code 353 = .ok (.iload_n 2, 1) := by decide +kernel
theorem d_Law_act_354 : decode method_5_code 354 = .ok (.iconst 3, 1) := by decide +kernel
theorem d_Law_act_355 : decode method_5_code 355 = .ok (.invokestatic 41, 3) := by decide +kernel
theorem d_Law_act_358 : decode method_5_code 358 = .ok (.invokevirtual 78, 3) := by decide +kernel
theorem d_Law_act_361 : decode method_5_code 361 = .ok (.ireturn, 1) := by decide +kernel
theorem d_Law_act_362 : decode method_5_code 362 = .ok (.aload_n 0, 1) := by decide +kernel
theorem d_Law_act_363 : decode method_5_code 363 = .ok (.iload_n 2, 1) := by decide +kernel
theorem d_Law_act_364 : decode method_5_code 364 = .ok (.iconst 3, 1) := by decide +kernel
theorem d_Law_act_365 : decode method_5_code 365 = .ok (.invokestatic 41, 3) := by decide +kernel
theorem d_Law_act_368 : decode method_5_code 368 = .ok (.invokevirtual 81, 3) := by decide +kernel
theorem d_Law_act_371 : decode method_5_code 371 = .ok (.ireturn, 1) := by decide +kernel
theorem d_Law_act_372 : decode method_5_code 372 = .ok (.aload_n 0, 1) := by decide +kernel
theorem d_Law_act_373 : decode method_5_code 373 = .ok (.iload_n 2, 1) := by decide +kernel
theorem d_Law_act_374 : decode method_5_code 374 = .ok (.iconst 3, 1) := by decide +kernel
theorem d_Law_act_375 : decode method_5_code 375 = .ok (.invokestatic 41, 3) := by decide +kernel
theorem d_Law_act_378 : decode method_5_code 378 = .ok (.iconst 0, 1) := by decide +kernel
theorem d_Law_act_379 : decode method_5_code 379 = .ok (.iconst 0, 1) := by decide +kernel
theorem d_Law_act_380 : decode method_5_code 380 = .ok (.iload_n 1, 1) := by decide +kernel
theorem d_Law_act_381 : decode method_5_code 381 = .ok (.iconst 5, 1) := by decide +kernel
theorem d_Law_act_382 : decode method_5_code 382 = .ok (.ishr, 1) := by decide +kernel
theorem d_Law_act_383 : decode method_5_code 383 = .ok (.iconst 3, 1) := by decide +kernel
theorem d_Law_act_384 : decode method_5_code 384 = .ok (.invokestatic 41, 3) := by decide +kernel
theorem d_Law_act_387 : decode method_5_code 387 = .ok (.iload_n 1, 1) := by decide +kernel
theorem d_Law_act_388 : decode method_5_code 388 = .ok (.iconst 4, 1) := by decide +kernel
theorem d_Law_act_389 : decode method_5_code 389 = .ok (.ishr, 1) := by decide +kernel
theorem d_Law_act_390 : decode method_5_code 390 = .ok (.sipush 300, 3) := by decide +kernel
theorem d_Law_act_393 : decode method_5_code 393 = .ok (.invokestatic 41, 3) := by decide +kernel
theorem d_Law_act_396 : decode method_5_code 396 = .ok (.invokevirtual 59, 3) := by decide +kernel
theorem d_Law_act_399 : decode method_5_code 399 = .ok (.ireturn, 1) := by decide +kernel
theorem d_Law_isRight_0 : decode method_6_code 0 = .ok (.iconst 0, 1) := by decide +kernel
theorem d_Law_isRight_1 : decode method_6_code 1 = .ok (.istore_n 1, 1) := by decide +kernel
theorem d_Law_isRight_2 : decode method_6_code 2 = .ok (.aload_n 0, 1) := by decide +kernel
theorem d_Law_isRight_3 : decode method_6_code 3 = .ok (.iconst 0, 1) := by decide +kernel
theorem d_Law_isRight_4 : decode method_6_code 4 = .ok (.iconst 0, 1) := by decide +kernel
theorem d_Law_isRight_5 : decode method_6_code 5 = .ok (.invokevirtual 18, 3) := by decide +kernel
theorem d_Law_isRight_8 : decode method_6_code 8 = .ok (.iconst 1, 1) := by decide +kernel
theorem d_Law_isRight_9 : decode method_6_code 9 = .ok (.iadd, 1) := by decide +kernel
theorem d_Law_isRight_10 : decode method_6_code 10 = .ok (.istore_n 2, 1) := by decide +kernel
theorem d_Law_isRight_11 : decode method_6_code 11 = .ok (.aload_n 0, 1) := by decide +kernel
theorem d_Law_isRight_12 : decode method_6_code 12 = .ok (.iconst 1, 1) := by decide +kernel
theorem d_Law_isRight_13 : decode method_6_code 13 = .ok (.iconst 0, 1) := by decide +kernel
theorem d_Law_isRight_14 : decode method_6_code 14 = .ok (.invokevirtual 18, 3) := by decide +kernel
theorem d_Law_isRight_17 : decode method_6_code 17 = .ok (.iconst 1, 1) := by decide +kernel
theorem d_Law_isRight_18 : decode method_6_code 18 = .ok (.iadd, 1) := by decide +kernel
theorem d_Law_isRight_19 : decode method_6_code 19 = .ok (.istore_n 3, 1) := by decide +kernel
theorem d_Law_isRight_20 : decode method_6_code 20 = .ok (.iconst 0, 1) := by decide +kernel
theorem d_Law_isRight_21 : decode method_6_code 21 = .ok (.istore 4, 2) := by decide +kernel
theorem d_Law_isRight_23 : decode method_6_code 23 = .ok (.iconst 0, 1) := by decide +kernel
theorem d_Law_isRight_24 : decode method_6_code 24 = .ok (.istore 5, 2) := by decide +kernel
theorem d_Law_isRight_26 : decode method_6_code 26 = .ok (.iload 5, 2) := by decide +kernel
theorem d_Law_isRight_28 : decode method_6_code 28 = .ok (.iload_n 2, 1) := by decide +kernel
theorem d_Law_isRight_29 : decode method_6_code 29 = .ok (.if_icmp .ge 78, 3) := by decide +kernel
theorem d_Law_isRight_32 : decode method_6_code 32 = .ok (.iconst 0, 1) := by decide +kernel
theorem d_Law_isRight_33 : decode method_6_code 33 = .ok (.istore 6, 2) := by decide +kernel
theorem d_Law_isRight_35 : decode method_6_code 35 = .ok (.iload 6, 2) := by decide +kernel
theorem d_Law_isRight_37 : decode method_6_code 37 = .ok (.iload_n 3, 1) := by decide +kernel
theorem d_Law_isRight_38 : decode method_6_code 38 = .ok (.if_icmp .ge 63, 3) := by decide +kernel
theorem d_Law_isRight_41 : decode method_6_code 41 = .ok (.iload_n 1, 1) := by decide +kernel
theorem d_Law_isRight_42 : decode method_6_code 42 = .ok (.aload_n 0, 1) := by decide +kernel
theorem d_Law_isRight_43 : decode method_6_code 43 = .ok (.iload 5, 2) := by decide +kernel
theorem d_Law_isRight_45 : decode method_6_code 45 = .ok (.iload 6, 2) := by decide +kernel
theorem d_Law_isRight_47 : decode method_6_code 47 = .ok (.iconst 0, 1) := by decide +kernel
theorem d_Law_isRight_48 : decode method_6_code 48 = .ok (.invokevirtual 26, 3) := by decide +kernel
theorem d_Law_isRight_51 : decode method_6_code 51 = .ok (.aload_n 0, 1) := by decide +kernel
theorem d_Law_isRight_52 : decode method_6_code 52 = .ok (.iload 5, 2) := by decide +kernel
theorem d_Law_isRight_54 : decode method_6_code 54 = .ok (.iload 6, 2) := by decide +kernel
theorem d_Law_isRight_56 : decode method_6_code 56 = .ok (.iconst 1, 1) := by decide +kernel
theorem d_Law_isRight_57 : decode method_6_code 57 = .ok (.invokevirtual 26, 3) := by decide +kernel
theorem d_Law_isRight_60 : decode method_6_code 60 = .ok (.iadd, 1) := by decide +kernel
theorem d_Law_isRight_61 : decode method_6_code 61 = .ok (.aload_n 0, 1) := by decide +kernel
theorem d_Law_isRight_62 : decode method_6_code 62 = .ok (.iload 5, 2) := by decide +kernel
theorem d_Law_isRight_64 : decode method_6_code 64 = .ok (.iload 6, 2) := by decide +kernel
theorem d_Law_isRight_66 : decode method_6_code 66 = .ok (.iconst 2, 1) := by decide +kernel
theorem d_Law_isRight_67 : decode method_6_code 67 = .ok (.invokevirtual 26, 3) := by decide +kernel
theorem d_Law_isRight_70 : decode method_6_code 70 = .ok (.iadd, 1) := by decide +kernel
theorem d_Law_isRight_71 : decode method_6_code 71 = .ok (.iadd, 1) := by decide +kernel
theorem d_Law_isRight_72 : decode method_6_code 72 = .ok (.istore_n 1, 1) := by decide +kernel
theorem d_Law_isRight_73 : decode method_6_code 73 = .ok (.iload 4, 2) := by decide +kernel
theorem d_Law_isRight_75 : decode method_6_code 75 = .ok (.aload_n 0, 1) := by decide +kernel
theorem d_Law_isRight_76 : decode method_6_code 76 = .ok (.iload 5, 2) := by decide +kernel
theorem d_Law_isRight_78 : decode method_6_code 78 = .ok (.iload 6, 2) := by decide +kernel
theorem d_Law_isRight_80 : decode method_6_code 80 = .ok (.iconst 3, 1) := by decide +kernel
theorem d_Law_isRight_81 : decode method_6_code 81 = .ok (.invokevirtual 26, 3) := by decide +kernel
theorem d_Law_isRight_84 : decode method_6_code 84 = .ok (.ifCond .lt 7, 3) := by decide +kernel
theorem d_Law_isRight_87 : decode method_6_code 87 = .ok (.iconst 1, 1) := by decide +kernel
theorem d_Law_isRight_88 : decode method_6_code 88 = .ok (.goto 4, 3) := by decide +kernel
theorem d_Law_isRight_91 : decode method_6_code 91 = .ok (.iconst 0, 1) := by decide +kernel
theorem d_Law_isRight_92 : decode method_6_code 92 = .ok (.iadd, 1) := by decide +kernel
theorem d_Law_isRight_93 : decode method_6_code 93 = .ok (.istore 4, 2) := by decide +kernel
theorem d_Law_isRight_95 : decode method_6_code 95 = .ok (.iinc 6 1, 3) := by decide +kernel
theorem d_Law_isRight_98 : decode method_6_code 98 = .ok (.goto (-63), 3) := by decide +kernel
theorem d_Law_isRight_101 : decode method_6_code 101 = .ok (.iinc 5 1, 3) := by decide +kernel
theorem d_Law_isRight_104 : decode method_6_code 104 = .ok (.goto (-78), 3) := by decide +kernel
theorem d_Law_isRight_107 : decode method_6_code 107 = .ok (.iconst 0, 1) := by decide +kernel
theorem d_Law_isRight_108 : decode method_6_code 108 = .ok (.istore 5, 2) := by decide +kernel
theorem d_Law_isRight_110 : decode method_6_code 110 = .ok (.iload 5, 2) := by decide +kernel
theorem d_Law_isRight_112 : decode method_6_code 112 = .ok (.iconst 2, 1) := by decide +kernel
theorem d_Law_isRight_113 : decode method_6_code 113 = .ok (.if_icmp .ge 289, 3) := by decide +kernel
theorem d_Law_isRight_116 : decode method_6_code 116 = .ok (.aload_n 0, 1) := by decide +kernel
theorem d_Law_isRight_117 : decode method_6_code 117 = .ok (.iload 5, 2) := by decide +kernel
theorem d_Law_isRight_119 : decode method_6_code 119 = .ok (.iconst 0, 1) := by decide +kernel
theorem d_Law_isRight_120 : decode method_6_code 120 = .ok (.invokevirtual 18, 3) := by decide +kernel
theorem d_Law_isRight_123 : decode method_6_code 123 = .ok (.istore 6, 2) := by decide +kernel
theorem d_Law_isRight_125 : decode method_6_code 125 = .ok (.iconst 0, 1) := by decide +kernel
theorem d_Law_isRight_126 : decode method_6_code 126 = .ok (.istore 7, 2) := by decide +kernel
theorem d_Law_isRight_128 : decode method_6_code 128 = .ok (.iconst 0, 1) := by decide +kernel
theorem d_Law_isRight_129 : decode method_6_code 129 = .ok (.istore 8, 2) := by decide +kernel
theorem d_Law_isRight_131 : decode method_6_code 131 = .ok (.iload 8, 2) := by decide +kernel
theorem d_Law_isRight_133 : decode method_6_code 133 = .ok (.iload 6, 2) := by decide +kernel
theorem d_Law_isRight_135 : decode method_6_code 135 = .ok (.if_icmp .ge 117, 3) := by decide +kernel
theorem d_Law_isRight_138 : decode method_6_code 138 = .ok (.iload 7, 2) := by decide +kernel
theorem d_Law_isRight_140 : decode method_6_code 140 = .ok (.aload_n 0, 1) := by decide +kernel
theorem d_Law_isRight_141 : decode method_6_code 141 = .ok (.iload 5, 2) := by decide +kernel
theorem d_Law_isRight_143 : decode method_6_code 143 = .ok (.iload 8, 2) := by decide +kernel
theorem d_Law_isRight_145 : decode method_6_code 145 = .ok (.iconst 1, 1) := by decide +kernel
theorem d_Law_isRight_146 : decode method_6_code 146 = .ok (.invokevirtual 22, 3) := by decide +kernel
theorem d_Law_isRight_149 : decode method_6_code 149 = .ok (.ifCond .ne 7, 3) := by decide +kernel
theorem d_Law_isRight_152 : decode method_6_code 152 = .ok (.iconst 1, 1) := by decide +kernel
theorem d_Law_isRight_153 : decode method_6_code 153 = .ok (.goto 4, 3) := by decide +kernel
theorem d_Law_isRight_156 : decode method_6_code 156 = .ok (.iconst 0, 1) := by decide +kernel
theorem d_Law_isRight_157 : decode method_6_code 157 = .ok (.iadd, 1) := by decide +kernel
theorem d_Law_isRight_158 : decode method_6_code 158 = .ok (.istore 7, 2) := by decide +kernel
theorem d_Law_isRight_160 : decode method_6_code 160 = .ok (.aload_n 0, 1) := by decide +kernel
theorem d_Law_isRight_161 : decode method_6_code 161 = .ok (.iload 5, 2) := by decide +kernel
theorem d_Law_isRight_163 : decode method_6_code 163 = .ok (.iload 8, 2) := by decide +kernel
theorem d_Law_isRight_165 : decode method_6_code 165 = .ok (.iconst 0, 1) := by decide +kernel
theorem d_Law_isRight_166 : decode method_6_code 166 = .ok (.invokevirtual 22, 3) := by decide +kernel
theorem d_Law_isRight_169 : decode method_6_code 169 = .ok (.aload_n 0, 1) := by decide +kernel
theorem d_Law_isRight_170 : decode method_6_code 170 = .ok (.iload 5, 2) := by decide +kernel
theorem d_Law_isRight_172 : decode method_6_code 172 = .ok (.iload 8, 2) := by decide +kernel
theorem d_Law_isRight_174 : decode method_6_code 174 = .ok (.iconst 2, 1) := by decide +kernel
theorem d_Law_isRight_175 : decode method_6_code 175 = .ok (.invokevirtual 22, 3) := by decide +kernel
theorem d_Law_isRight_178 : decode method_6_code 178 = .ok (.isub, 1) := by decide +kernel
theorem d_Law_isRight_179 : decode method_6_code 179 = .ok (.istore 9, 2) := by decide +kernel
theorem d_Law_isRight_181 : decode method_6_code 181 = .ok (.iload 9, 2) := by decide +kernel
theorem d_Law_isRight_183 : decode method_6_code 183 = .ok (.ifCond .lt 61, 3) := by decide +kernel
theorem d_Law_isRight_186 : decode method_6_code 186 = .ok (.aload_n 0, 1) := by decide +kernel
theorem d_Law_isRight_187 : decode method_6_code 187 = .ok (.iload 5, 2) := by decide +kernel
theorem d_Law_isRight_189 : decode method_6_code 189 = .ok (.iload 8, 2) := by decide +kernel
theorem d_Law_isRight_191 : decode method_6_code 191 = .ok (.iconst 0, 1) := by decide +kernel
theorem d_Law_isRight_192 : decode method_6_code 192 = .ok (.invokevirtual 22, 3) := by decide +kernel
theorem d_Law_isRight_195 : decode method_6_code 195 = .ok (.aload_n 0, 1) := by decide +kernel
theorem d_Law_isRight_196 : decode method_6_code 196 = .ok (.iload 5, 2) := by decide +kernel
theorem d_Law_isRight_198 : decode method_6_code 198 = .ok (.iload 8, 2) := by decide +kernel
theorem d_Law_isRight_200 : decode method_6_code 200 = .ok (.iconst 2, 1) := by decide +kernel
theorem d_Law_isRight_201 : decode method_6_code 201 = .ok (.invokevirtual 22, 3) := by decide +kernel
theorem d_Law_isRight_204 : decode method_6_code 204 = .ok (.iadd, 1) := by decide +kernel
theorem d_Law_isRight_205 : decode method_6_code 205 = .ok (.sipush 1000, 3) := by decide +kernel
theorem d_Law_isRight_208 : decode method_6_code 208 = .ok (.if_icmp .gt 36, 3) := by decide +kernel
theorem d_Law_isRight_211 : decode method_6_code 211 = .ok (.iload 8, 2) := by decide +kernel
theorem d_Law_isRight_213 : decode method_6_code 213 = .ok (.ifCond .le 33, 3) := by decide +kernel
theorem d_Law_isRight_216 : decode method_6_code 216 = .ok (.iload 9, 2) := by decide +kernel
theorem d_Law_isRight_218 : decode method_6_code 218 = .ok (.aload_n 0, 1) := by decide +kernel
theorem d_Law_isRight_219 : decode method_6_code 219 = .ok (.iload 5, 2) := by decide +kernel
theorem d_Law_isRight_221 : decode method_6_code 221 = .ok (.iload 8, 2) := by decide +kernel
theorem d_Law_isRight_223 : decode method_6_code 223 = .ok (.iconst 1, 1) := by decide +kernel
theorem d_Law_isRight_224 : decode method_6_code 224 = .ok (.isub, 1) := by decide +kernel
theorem d_Law_isRight_225 : decode method_6_code 225 = .ok (.iconst 0, 1) := by decide +kernel
theorem d_Law_isRight_226 : decode method_6_code 226 = .ok (.invokevirtual 22, 3) := by decide +kernel
theorem d_Law_isRight_229 : decode method_6_code 229 = .ok (.aload_n 0, 1) := by decide +kernel
theorem d_Law_isRight_230 : decode method_6_code 230 = .ok (.iload 5, 2) := by decide +kernel
theorem d_Law_isRight_232 : decode method_6_code 232 = .ok (.iload 8, 2) := by decide +kernel
theorem d_Law_isRight_234 : decode method_6_code 234 = .ok (.iconst 1, 1) := by decide +kernel
theorem d_Law_isRight_235 : decode method_6_code 235 = .ok (.isub, 1) := by decide +kernel
theorem d_Law_isRight_236 : decode method_6_code 236 = .ok (.iconst 2, 1) := by decide +kernel
theorem d_Law_isRight_237 : decode method_6_code 237 = .ok (.invokevirtual 22, 3) := by decide +kernel
theorem d_Law_isRight_240 : decode method_6_code 240 = .ok (.iadd, 1) := by decide +kernel
theorem d_Law_isRight_241 : decode method_6_code 241 = .ok (.if_icmp .gt 5, 3) := by decide +kernel
theorem d_Law_isRight_244 : decode method_6_code 244 = .ok (.iconst 0, 1) := by decide +kernel
theorem d_Law_isRight_245 : decode method_6_code 245 = .ok (.ireturn, 1) := by decide +kernel
theorem d_Law_isRight_246 : decode method_6_code 246 = .ok (.iinc 8 1, 3) := by decide +kernel
theorem d_Law_isRight_249 : decode method_6_code 249 = .ok (.goto (-118), 3) := by decide +kernel
theorem d_Law_isRight_252 : decode method_6_code 252 = .ok (.aload_n 0, 1) := by decide +kernel
theorem d_Law_isRight_253 : decode method_6_code 253 = .ok (.iload 5, 2) := by decide +kernel
theorem d_Law_isRight_255 : decode method_6_code 255 = .ok (.iconst 2, 1) := by decide +kernel
theorem d_Law_isRight_256 : decode method_6_code 256 = .ok (.invokevirtual 18, 3) := by decide +kernel
theorem d_Law_isRight_259 : decode method_6_code 259 = .ok (.istore 8, 2) := by decide +kernel
theorem d_Law_isRight_261 : decode method_6_code 261 = .ok (.aload_n 0, 1) := by decide +kernel
theorem d_Law_isRight_262 : decode method_6_code 262 = .ok (.iload 5, 2) := by decide +kernel
theorem d_Law_isRight_264 : decode method_6_code 264 = .ok (.iconst 3, 1) := by decide +kernel
theorem d_Law_isRight_265 : decode method_6_code 265 = .ok (.invokevirtual 18, 3) := by decide +kernel
theorem d_Law_isRight_268 : decode method_6_code 268 = .ok (.istore 9, 2) := by decide +kernel
theorem d_Law_isRight_270 : decode method_6_code 270 = .ok (.aload_n 0, 1) := by decide +kernel
theorem d_Law_isRight_271 : decode method_6_code 271 = .ok (.iload 5, 2) := by decide +kernel
theorem d_Law_isRight_273 : decode method_6_code 273 = .ok (.iconst 1, 1) := by decide +kernel
theorem d_Law_isRight_274 : decode method_6_code 274 = .ok (.invokevirtual 18, 3) := by decide +kernel
theorem d_Law_isRight_277 : decode method_6_code 277 = .ok (.iload 7, 2) := by decide +kernel
theorem d_Law_isRight_279 : decode method_6_code 279 = .ok (.iconst 1, 1) := by decide +kernel
theorem d_Law_isRight_280 : decode method_6_code 280 = .ok (.iadd, 1) := by decide +kernel
theorem d_Law_isRight_281 : decode method_6_code 281 = .ok (.if_icmp .ne 113, 3) := by decide +kernel
theorem d_Law_isRight_284 : decode method_6_code 284 = .ok (.aload_n 0, 1) := by decide +kernel
theorem d_Law_isRight_285 : decode method_6_code 285 = .ok (.iconst 4, 1) := by decide +kernel
theorem d_Law_isRight_286 : decode method_6_code 286 = .ok (.iload 5, 2) := by decide +kernel
theorem d_Law_isRight_288 : decode method_6_code 288 = .ok (.iadd, 1) := by decide +kernel
theorem d_Law_isRight_289 : decode method_6_code 289 = .ok (.invokevirtual 12, 3) := by decide +kernel
theorem d_Law_isRight_292 : decode method_6_code 292 = .ok (.ifCond .lt 102, 3) := by decide +kernel
theorem d_Law_isRight_295 : decode method_6_code 295 = .ok (.aload_n 0, 1) := by decide +kernel
theorem d_Law_isRight_296 : decode method_6_code 296 = .ok (.iconst 4, 1) := by decide +kernel
theorem d_Law_isRight_297 : decode method_6_code 297 = .ok (.iload 5, 2) := by decide +kernel
theorem d_Law_isRight_299 : decode method_6_code 299 = .ok (.iadd, 1) := by decide +kernel
theorem d_Law_isRight_300 : decode method_6_code 300 = .ok (.invokevirtual 12, 3) := by decide +kernel
theorem d_Law_isRight_303 : decode method_6_code 303 = .ok (.iload 7, 2) := by decide +kernel
theorem d_Law_isRight_305 : decode method_6_code 305 = .ok (.if_icmp .gt 89, 3) := by decide +kernel
theorem d_Law_isRight_308 : decode method_6_code 308 = .ok (.iload 8, 2) := by decide +kernel
theorem d_Law_isRight_310 : decode method_6_code 310 = .ok (.ifCond .lt 84, 3) := by decide +kernel
theorem d_Law_isRight_313 : decode method_6_code 313 = .ok (.iload 9, 2) := by decide +kernel
theorem d_Law_isRight_315 : decode method_6_code 315 = .ok (.iload 6, 2) := by decide +kernel
theorem d_Law_isRight_317 : decode method_6_code 317 = .ok (.if_icmp .gt 77, 3) := by decide +kernel
theorem d_Law_isRight_320 : decode method_6_code 320 = .ok (.iload 9, 2) := by decide +kernel
theorem d_Law_isRight_322 : decode method_6_code 322 = .ok (.iload 8, 2) := by decide +kernel
theorem d_Law_isRight_324 : decode method_6_code 324 = .ok (.isub, 1) := by decide +kernel
theorem d_Law_isRight_325 : decode method_6_code 325 = .ok (.iconst 1, 1) := by decide +kernel
theorem d_Law_isRight_326 : decode method_6_code 326 = .ok (.if_icmp .gt 68, 3) := by decide +kernel
theorem d_Law_isRight_329 : decode method_6_code 329 = .ok (.iload 9, 2) := by decide +kernel
theorem d_Law_isRight_331 : decode method_6_code 331 = .ok (.iload 8, 2) := by decide +kernel
theorem d_Law_isRight_333 : decode method_6_code 333 = .ok (.if_icmp .lt 61, 3) := by decide +kernel
theorem d_Law_isRight_336 : decode method_6_code 336 = .ok (.iload 9, 2) := by decide +kernel
theorem d_Law_isRight_338 : decode method_6_code 338 = .ok (.iload 8, 2) := by decide +kernel
theorem d_Law_isRight_340 : decode method_6_code 340 = .ok (.if_icmp .ne 7, 3) := by decide +kernel
theorem d_Law_isRight_343 : decode method_6_code 343 = .ok (.iconst 1, 1) := by decide +kernel
theorem d_Law_isRight_344 : decode method_6_code 344 = .ok (.goto 4, 3) := by decide +kernel
theorem d_Law_isRight_347 : decode method_6_code 347 = .ok (.iconst 0, 1) := by decide +kernel
theorem d_Law_isRight_348 : decode method_6_code 348 = .ok (.aload_n 0, 1) := by decide +kernel
theorem d_Law_isRight_349 : decode method_6_code 349 = .ok (.iload 5, 2) := by decide +kernel
theorem d_Law_isRight_351 : decode method_6_code 351 = .ok (.iconst 5, 1) := by decide +kernel
theorem d_Law_isRight_352 : decode method_6_code 352 = .ok (.invokevirtual 18, 3) := by decide +kernel
theorem d_Law_isRight_355 : decode method_6_code 355 = .ok (.iconst 1, 1) := by decide +kernel
theorem d_Law_isRight_356 : decode method_6_code 356 = .ok (.if_icmp .ne 7, 3) := by decide +kernel
theorem d_Law_isRight_359 : decode method_6_code 359 = .ok (.iconst 1, 1) := by decide +kernel
theorem d_Law_isRight_360 : decode method_6_code 360 = .ok (.goto 4, 3) := by decide +kernel
theorem d_Law_isRight_363 : decode method_6_code 363 = .ok (.iconst 0, 1) := by decide +kernel
theorem d_Law_isRight_364 : decode method_6_code 364 = .ok (.if_icmp .ne 30, 3) := by decide +kernel
theorem d_Law_isRight_367 : decode method_6_code 367 = .ok (.aload_n 0, 1) := by decide +kernel
theorem d_Law_isRight_368 : decode method_6_code 368 = .ok (.iload 5, 2) := by decide +kernel
theorem d_Law_isRight_370 : decode method_6_code 370 = .ok (.iconst 4, 1) := by decide +kernel
theorem d_Law_isRight_371 : decode method_6_code 371 = .ok (.invokevirtual 18, 3) := by decide +kernel
theorem d_Law_isRight_374 : decode method_6_code 374 = .ok (.ifCond .lt 20, 3) := by decide +kernel
theorem d_Law_isRight_377 : decode method_6_code 377 = .ok (.aload_n 0, 1) := by decide +kernel
theorem d_Law_isRight_378 : decode method_6_code 378 = .ok (.iload 5, 2) := by decide +kernel
theorem d_Law_isRight_380 : decode method_6_code 380 = .ok (.iconst 4, 1) := by decide +kernel
theorem d_Law_isRight_381 : decode method_6_code 381 = .ok (.invokevirtual 18, 3) := by decide +kernel
theorem d_Law_isRight_384 : decode method_6_code 384 = .ok (.aload_n 0, 1) := by decide +kernel
theorem d_Law_isRight_385 : decode method_6_code 385 = .ok (.iload 5, 2) := by decide +kernel
theorem d_Law_isRight_387 : decode method_6_code 387 = .ok (.iconst 5, 1) := by decide +kernel
theorem d_Law_isRight_388 : decode method_6_code 388 = .ok (.invokevirtual 18, 3) := by decide +kernel
theorem d_Law_isRight_391 : decode method_6_code 391 = .ok (.if_icmp .le 5, 3) := by decide +kernel
theorem d_Law_isRight_394 : decode method_6_code 394 = .ok (.iconst 0, 1) := by decide +kernel
theorem d_Law_isRight_395 : decode method_6_code 395 = .ok (.ireturn, 1) := by decide +kernel
theorem d_Law_isRight_396 : decode method_6_code 396 = .ok (.iinc 5 1, 3) := by decide +kernel
theorem d_Law_isRight_399 : decode method_6_code 399 = .ok (.goto (-289), 3) := by decide +kernel
theorem d_Law_isRight_402 : decode method_6_code 402 = .ok (.iconst 0, 1) := by decide +kernel
theorem d_Law_isRight_403 : decode method_6_code 403 = .ok (.istore 5, 2) := by decide +kernel
theorem d_Law_isRight_405 : decode method_6_code 405 = .ok (.iload 5, 2) := by decide +kernel
theorem d_Law_isRight_407 : decode method_6_code 407 = .ok (.iconst 3, 1) := by decide +kernel
theorem d_Law_isRight_408 : decode method_6_code 408 = .ok (.if_icmp .ge 145, 3) := by decide +kernel
theorem d_Law_isRight_411 : decode method_6_code 411 = .ok (.sipush 10000, 3) := by decide +kernel
theorem d_Law_isRight_414 : decode method_6_code 414 = .ok (.istore 6, 2) := by decide +kernel
theorem d_Law_isRight_416 : decode method_6_code 416 = .ok (.iconst 0, 1) := by decide +kernel
theorem d_Law_isRight_417 : decode method_6_code 417 = .ok (.istore 7, 2) := by decide +kernel
theorem d_Law_isRight_419 : decode method_6_code 419 = .ok (.iconst 0, 1) := by decide +kernel
theorem d_Law_isRight_420 : decode method_6_code 420 = .ok (.istore 8, 2) := by decide +kernel
theorem d_Law_isRight_422 : decode method_6_code 422 = .ok (.iload 8, 2) := by decide +kernel
theorem d_Law_isRight_424 : decode method_6_code 424 = .ok (.iconst 4, 1) := by decide +kernel
theorem d_Law_isRight_425 : decode method_6_code 425 = .ok (.if_icmp .ge 71, 3) := by decide +kernel
theorem d_Law_isRight_428 : decode method_6_code 428 = .ok (.aload_n 0, 1) := by decide +kernel
theorem d_Law_isRight_429 : decode method_6_code 429 = .ok (.aload_n 0, 1) := by decide +kernel
theorem d_Law_isRight_430 : decode method_6_code 430 = .ok (.iconst 0, 1) := by decide +kernel
theorem d_Law_isRight_431 : decode method_6_code 431 = .ok (.iconst 2, 1) := by decide +kernel
theorem d_Law_isRight_432 : decode method_6_code 432 = .ok (.iload 8, 2) := by decide +kernel
theorem d_Law_isRight_434 : decode method_6_code 434 = .ok (.iconst 1, 1) := by decide +kernel
theorem d_Law_isRight_435 : decode method_6_code 435 = .ok (.iand, 1) := by decide +kernel
theorem d_Law_isRight_436 : decode method_6_code 436 = .ok (.iadd, 1) := by decide +kernel
theorem d_Law_isRight_437 : decode method_6_code 437 = .ok (.invokevirtual 18, 3) := by decide +kernel
theorem d_Law_isRight_440 : decode method_6_code 440 = .ok (.aload_n 0, 1) := by decide +kernel
theorem d_Law_isRight_441 : decode method_6_code 441 = .ok (.iconst 1, 1) := by decide +kernel
theorem d_Law_isRight_442 : decode method_6_code 442 = .ok (.iconst 2, 1) := by decide +kernel
theorem d_Law_isRight_443 : decode method_6_code 443 = .ok (.iload 8, 2) := by decide +kernel
theorem d_Law_isRight_445 : decode method_6_code 445 = .ok (.iconst 1, 1) := by decide +kernel
theorem d_Law_isRight_446 : decode method_6_code 446 = .ok (.ishr, 1) := by decide +kernel
theorem d_Law_isRight_447 : decode method_6_code 447 = .ok (.iadd, 1) := by decide +kernel
theorem d_Law_isRight_448 : decode method_6_code 448 = .ok (.invokevirtual 18, 3) := by decide +kernel
theorem d_Law_isRight_451 : decode method_6_code 451 = .ok (.iload 5, 2) := by decide +kernel
theorem d_Law_isRight_453 : decode method_6_code 453 = .ok (.invokevirtual 26, 3) := by decide +kernel
theorem d_Law_isRight_456 : decode method_6_code 456 = .ok (.istore 9, 2) := by decide +kernel
theorem d_Law_isRight_458 : decode method_6_code 458 = .ok (.iload 9, 2) := by decide +kernel
theorem d_Law_isRight_460 : decode method_6_code 460 = .ok (.iload 6, 2) := by decide +kernel
theorem d_Law_isRight_462 : decode method_6_code 462 = .ok (.if_icmp .ge 8, 3) := by decide +kernel
theorem d_Law_isRight_465 : decode method_6_code 465 = .ok (.iload 9, 2) := by decide +kernel
theorem d_Law_isRight_467 : decode method_6_code 467 = .ok (.goto 5, 3) := by decide +kernel
theorem d_Law_isRight_470 : decode method_6_code 470 = .ok (.iload 6, 2) := by decide +kernel
theorem d_Law_isRight_472 : decode method_6_code 472 = .ok (.istore 6, 2) := by decide +kernel
theorem d_Law_isRight_474 : decode method_6_code 474 = .ok (.iload 9, 2) := by decide +kernel
theorem d_Law_isRight_476 : decode method_6_code 476 = .ok (.iload 7, 2) := by decide +kernel
theorem d_Law_isRight_478 : decode method_6_code 478 = .ok (.if_icmp .le 8, 3) := by decide +kernel
theorem d_Law_isRight_481 : decode method_6_code 481 = .ok (.iload 9, 2) := by decide +kernel
theorem d_Law_isRight_483 : decode method_6_code 483 = .ok (.goto 5, 3) := by decide +kernel
theorem d_Law_isRight_486 : decode method_6_code 486 = .ok (.iload 7, 2) := by decide +kernel
theorem d_Law_isRight_488 : decode method_6_code 488 = .ok (.istore 7, 2) := by decide +kernel
theorem d_Law_isRight_490 : decode method_6_code 490 = .ok (.iinc 8 1, 3) := by decide +kernel
theorem d_Law_isRight_493 : decode method_6_code 493 = .ok (.goto (-71), 3) := by decide +kernel
theorem d_Law_isRight_496 : decode method_6_code 496 = .ok (.aload_n 0, 1) := by decide +kernel
theorem d_Law_isRight_497 : decode method_6_code 497 = .ok (.iload 5, 2) := by decide +kernel
theorem d_Law_isRight_499 : decode method_6_code 499 = .ok (.iconst 0, 1) := by decide +kernel
theorem d_Law_isRight_500 : decode method_6_code 500 = .ok (.invokevirtual 35, 3) := by decide +kernel
theorem d_Law_isRight_503 : decode method_6_code 503 = .ok (.iload 6, 2) := by decide +kernel
theorem d_Law_isRight_505 : decode method_6_code 505 = .ok (.if_icmp .lt 40, 3) := by decide +kernel
theorem d_Law_isRight_508 : decode method_6_code 508 = .ok (.aload_n 0, 1) := by decide +kernel
theorem d_Law_isRight_509 : decode method_6_code 509 = .ok (.iload 5, 2) := by decide +kernel
theorem d_Law_isRight_511 : decode method_6_code 511 = .ok (.iconst 0, 1) := by decide +kernel
theorem d_Law_isRight_512 : decode method_6_code 512 = .ok (.invokevirtual 35, 3) := by decide +kernel
theorem d_Law_isRight_515 : decode method_6_code 515 = .ok (.iload 7, 2) := by decide +kernel
theorem d_Law_isRight_517 : decode method_6_code 517 = .ok (.if_icmp .gt 28, 3) := by decide +kernel
theorem d_Law_isRight_520 : decode method_6_code 520 = .ok (.aload_n 0, 1) := by decide +kernel
theorem d_Law_isRight_521 : decode method_6_code 521 = .ok (.iload 5, 2) := by decide +kernel
theorem d_Law_isRight_523 : decode method_6_code 523 = .ok (.iconst 1, 1) := by decide +kernel
theorem d_Law_isRight_524 : decode method_6_code 524 = .ok (.invokevirtual 35, 3) := by decide +kernel
theorem d_Law_isRight_527 : decode method_6_code 527 = .ok (.aload_n 0, 1) := by decide +kernel
theorem d_Law_isRight_528 : decode method_6_code 528 = .ok (.iload 5, 2) := by decide +kernel
theorem d_Law_isRight_530 : decode method_6_code 530 = .ok (.iconst 2, 1) := by decide +kernel
theorem d_Law_isRight_531 : decode method_6_code 531 = .ok (.invokevirtual 35, 3) := by decide +kernel
theorem d_Law_isRight_534 : decode method_6_code 534 = .ok (.idiv, 1) := by decide +kernel
theorem d_Law_isRight_535 : decode method_6_code 535 = .ok (.aload_n 0, 1) := by decide +kernel
theorem d_Law_isRight_536 : decode method_6_code 536 = .ok (.iload 5, 2) := by decide +kernel
theorem d_Law_isRight_538 : decode method_6_code 538 = .ok (.iconst 0, 1) := by decide +kernel
theorem d_Law_isRight_539 : decode method_6_code 539 = .ok (.invokevirtual 35, 3) := by decide +kernel
theorem d_Law_isRight_542 : decode method_6_code 542 = .ok (.if_icmp .eq 5, 3) := by decide +kernel
theorem d_Law_isRight_545 : decode method_6_code 545 = .ok (.iconst 0, 1) := by decide +kernel
theorem d_Law_isRight_546 : decode method_6_code 546 = .ok (.ireturn, 1) := by decide +kernel
theorem d_Law_isRight_547 : decode method_6_code 547 = .ok (.iinc 5 1, 3) := by decide +kernel
theorem d_Law_isRight_550 : decode method_6_code 550 = .ok (.goto (-145), 3) := by decide +kernel
theorem d_Law_isRight_553 : decode method_6_code 553 = .ok (.aload_n 0, 1) := by decide +kernel
theorem d_Law_isRight_554 : decode method_6_code 554 = .ok (.iconst 0, 1) := by decide +kernel
theorem d_Law_isRight_555 : decode method_6_code 555 = .ok (.iconst 2, 1) := by decide +kernel
theorem d_Law_isRight_556 : decode method_6_code 556 = .ok (.invokevirtual 29, 3) := by decide +kernel
theorem d_Law_isRight_559 : decode method_6_code 559 = .ok (.aload_n 0, 1) := by decide +kernel
theorem d_Law_isRight_560 : decode method_6_code 560 = .ok (.iconst 1, 1) := by decide +kernel
theorem d_Law_isRight_561 : decode method_6_code 561 = .ok (.iconst 2, 1) := by decide +kernel
theorem d_Law_isRight_562 : decode method_6_code 562 = .ok (.invokevirtual 29, 3) := by decide +kernel
theorem d_Law_isRight_565 : decode method_6_code 565 = .ok (.iadd, 1) := by decide +kernel
theorem d_Law_isRight_566 : decode method_6_code 566 = .ok (.aload_n 0, 1) := by decide +kernel
theorem d_Law_isRight_567 : decode method_6_code 567 = .ok (.iconst 2, 1) := by decide +kernel
theorem d_Law_isRight_568 : decode method_6_code 568 = .ok (.iconst 2, 1) := by decide +kernel
theorem d_Law_isRight_569 : decode method_6_code 569 = .ok (.invokevirtual 29, 3) := by decide +kernel
theorem d_Law_isRight_572 : decode method_6_code 572 = .ok (.iadd, 1) := by decide +kernel
theorem d_Law_isRight_573 : decode method_6_code 573 = .ok (.istore 5, 2) := by decide +kernel
theorem d_Law_isRight_575 : decode method_6_code 575 = .ok (.aload_n 0, 1) := by decide +kernel
theorem d_Law_isRight_576 : decode method_6_code 576 = .ok (.iconst 0, 1) := by decide +kernel
theorem d_Law_isRight_577 : decode method_6_code 577 = .ok (.invokevirtual 12, 3) := by decide +kernel
theorem d_Law_isRight_580 : decode method_6_code 580 = .ok (.iload_n 2, 1) := by decide +kernel
theorem d_Law_isRight_581 : decode method_6_code 581 = .ok (.iload_n 3, 1) := by decide +kernel
theorem d_Law_isRight_582 : decode method_6_code 582 = .ok (.imul, 1) := by decide +kernel
theorem d_Law_isRight_583 : decode method_6_code 583 = .ok (.if_icmp .ne 84, 3) := by decide +kernel
theorem d_Law_isRight_586 : decode method_6_code 586 = .ok (.iload 4, 2) := by decide +kernel
theorem d_Law_isRight_588 : decode method_6_code 588 = .ok (.iload 5, 2) := by decide +kernel
theorem d_Law_isRight_590 : decode method_6_code 590 = .ok (.if_icmp .ne 77, 3) := by decide +kernel
theorem d_Law_isRight_593 : decode method_6_code 593 = .ok (.aload_n 0, 1) := by decide +kernel
theorem d_Law_isRight_594 : decode method_6_code 594 = .ok (.iconst 4, 1) := by decide +kernel
theorem d_Law_isRight_595 : decode method_6_code 595 = .ok (.invokevirtual 32, 3) := by decide +kernel
theorem d_Law_isRight_598 : decode method_6_code 598 = .ok (.iload_n 1, 1) := by decide +kernel
theorem d_Law_isRight_599 : decode method_6_code 599 = .ok (.if_icmp .ne 68, 3) := by decide +kernel
theorem d_Law_isRight_602 : decode method_6_code 602 = .ok (.aload_n 0, 1) := by decide +kernel
theorem d_Law_isRight_603 : decode method_6_code 603 = .ok (.iconst 4, 1) := by decide +kernel
theorem d_Law_isRight_604 : decode method_6_code 604 = .ok (.invokevirtual 32, 3) := by decide +kernel
theorem d_Law_isRight_607 : decode method_6_code 607 = .ok (.aload_n 0, 1) := by decide +kernel
theorem d_Law_isRight_608 : decode method_6_code 608 = .ok (.iconst 0, 1) := by decide +kernel
theorem d_Law_isRight_609 : decode method_6_code 609 = .ok (.invokevirtual 32, 3) := by decide +kernel
theorem d_Law_isRight_612 : decode method_6_code 612 = .ok (.aload_n 0, 1) := by decide +kernel
theorem d_Law_isRight_613 : decode method_6_code 613 = .ok (.iconst 1, 1) := by decide +kernel
theorem d_Law_isRight_614 : decode method_6_code 614 = .ok (.invokevirtual 32, 3) := by decide +kernel
theorem d_Law_isRight_617 : decode method_6_code 617 = .ok (.iadd, 1) := by decide +kernel
theorem d_Law_isRight_618 : decode method_6_code 618 = .ok (.aload_n 0, 1) := by decide +kernel
theorem d_Law_isRight_619 : decode method_6_code 619 = .ok (.iconst 2, 1) := by decide +kernel
theorem d_Law_isRight_620 : decode method_6_code 620 = .ok (.invokevirtual 32, 3) := by decide +kernel
theorem d_Law_isRight_623 : decode method_6_code 623 = .ok (.iadd, 1) := by decide +kernel
theorem d_Law_isRight_624 : decode method_6_code 624 = .ok (.aload_n 0, 1) := by decide +kernel
theorem d_Law_isRight_625 : decode method_6_code 625 = .ok (.iconst 3, 1) := by decide +kernel
theorem d_Law_isRight_626 : decode method_6_code 626 = .ok (.invokevirtual 32, 3) := by decide +kernel
theorem d_Law_isRight_629 : decode method_6_code 629 = .ok (.iadd, 1) := by decide +kernel
theorem d_Law_isRight_630 : decode method_6_code 630 = .ok (.if_icmp .ne 37, 3) := by decide +kernel
theorem d_Law_isRight_633 : decode method_6_code 633 = .ok (.aload_n 0, 1) := by decide +kernel
theorem d_Law_isRight_634 : decode method_6_code 634 = .ok (.bipush 6, 2) := by decide +kernel
theorem d_Law_isRight_636 : decode method_6_code 636 = .ok (.invokevirtual 12, 3) := by decide +kernel
theorem d_Law_isRight_639 : decode method_6_code 639 = .ok (.bipush 20, 2) := by decide +kernel
theorem d_Law_isRight_641 : decode method_6_code 641 = .ok (.if_icmp .gt 26, 3) := by decide +kernel
theorem d_Law_isRight_644 : decode method_6_code 644 = .ok (.aload_n 0, 1) := by decide +kernel
theorem d_Law_isRight_645 : decode method_6_code 645 = .ok (.bipush 6, 2) := by decide +kernel
theorem d_Law_isRight_647 : decode method_6_code 647 = .ok (.invokevirtual 12, 3) := by decide +kernel
theorem d_Law_isRight_650 : decode method_6_code 650 = .ok (.ifCond .eq 13, 3) := by decide +kernel
theorem d_Law_isRight_653 : decode method_6_code 653 = .ok (.aload_n 0, 1) := by decide +kernel
theorem d_Law_isRight_654 : decode method_6_code 654 = .ok (.iconst 0, 1) := by decide +kernel
theorem d_Law_isRight_655 : decode method_6_code 655 = .ok (.bipush 7, 2) := by decide +kernel
theorem d_Law_isRight_657 : decode method_6_code 657 = .ok (.invokevirtual 38, 3) := by decide +kernel
theorem d_Law_isRight_660 : decode method_6_code 660 = .ok (.ifCond .lt 7, 3) := by decide +kernel
theorem d_Law_isRight_663 : decode method_6_code 663 = .ok (.iconst 1, 1) := by decide +kernel
theorem d_Law_isRight_664 : decode method_6_code 664 = .ok (.goto 4, 3) := by decide +kernel
theorem d_Law_isRight_667 : decode method_6_code 667 = .ok (.iconst 0, 1) := by decide +kernel
theorem d_Law_isRight_668 : decode method_6_code 668 = .ok (.ireturn, 1) := by decide +kernel
theorem d_Law_0 : decode code 0 = .ok (.new 13, 3) := by decide +kernel
theorem d_Law_3 : decode code 3 = .ok (.dup, 1) := by decide +kernel
theorem d_Law_4 : decode code 4 = .ok (.invokespecial 84, 3) := by decide +kernel
theorem d_Law_7 : decode code 7 = .ok (.astore_n 1, 1) := by decide +kernel
theorem d_Law_8 : decode code 8 = .ok (.iconst 0, 1) := by decide +kernel
theorem d_Law_9 : decode code 9 = .ok (.istore_n 2, 1) := by decide +kernel
theorem d_Law_10 : decode code 10 = .ok (.iload_n 2, 1) := by decide +kernel
theorem d_Law_11 : decode code 11 = .ok (.bipush 15, 2) := by decide +kernel
theorem d_Law_13 : decode code 13 = .ok (.if_icmp .ge 327, 3) := by decide +kernel
theorem d_Law_16 : decode code 16 = .ok (.aload_n 0, 1) := by decide +kernel
theorem d_Law_17 : decode code 17 = .ok (.iload_n 2, 1) := by decide +kernel
theorem d_Law_18 : decode code 18 = .ok (.invokestatic 85, 3) := by decide +kernel
theorem d_Law_21 : decode code 21 = .ok (.istore_n 3, 1) := by decide +kernel
theorem d_Law_22 : decode code 22 = .ok (.aload_n 1, 1) := by decide +kernel
theorem d_Law_23 : decode code 23 = .ok (.invokestatic 89, 3) := by decide +kernel
theorem d_Law_26 : decode code 26 = .ok (.lstore 4, 2) := by decide +kernel
theorem d_Law_28 : decode code 28 = .ok (.iload_n 3, 1) := by decide +kernel
theorem d_Law_29 : decode code 29 = .ok (.bipush 15, 2) := by decide +kernel
theorem d_Law_31 : decode code 31 = .ok (.iand, 1) := by decide +kernel
theorem d_Law_32 : decode code 32 = .ok (.bipush 10, 2) := by decide +kernel
theorem d_Law_34 : decode code 34 = .ok (.if_icmp .eq 12, 3) := by decide +kernel
theorem d_Law_37 : decode code 37 = .ok (.iload_n 3, 1) := by decide +kernel
theorem d_Law_38 : decode code 38 = .ok (.bipush 15, 2) := by decide +kernel
theorem d_Law_40 : decode code 40 = .ok (.iand, 1) := by decide +kernel
theorem d_Law_41 : decode code 41 = .ok (.bipush 11, 2) := by decide +kernel
theorem d_Law_43 : decode code 43 = .ok (.if_icmp .ne 31, 3) := by decide +kernel
theorem d_Law_46 : decode code 46 = .ok (.aload_n 1, 1) := by decide +kernel
theorem d_Law_47 : decode code 47 = .ok (.iload_n 3, 1) := by decide +kernel
theorem d_Law_48 : decode code 48 = .ok (.iconst 3, 1) := by decide +kernel
theorem d_Law_49 : decode code 49 = .ok (.ishr, 1) := by decide +kernel
theorem d_Law_50 : decode code 50 = .ok (.sipush 1001, 3) := by decide +kernel
theorem d_Law_53 : decode code 53 = .ok (.invokestatic 41, 3) := by decide +kernel
theorem d_Law_56 : decode code 56 = .ok (.iload_n 3, 1) := by decide +kernel
theorem d_Law_57 : decode code 57 = .ok (.bipush 7, 2) := by decide +kernel
theorem d_Law_59 : decode code 59 = .ok (.imul, 1) := by decide +kernel
theorem d_Law_60 : decode code 60 = .ok (.iconst 4, 1) := by decide +kernel
theorem d_Law_61 : decode code 61 = .ok (.ishr, 1) := by decide +kernel
theorem d_Law_62 : decode code 62 = .ok (.sipush 1001, 3) := by decide +kernel
theorem d_Law_65 : decode code 65 = .ok (.invokestatic 41, 3) := by decide +kernel
theorem d_Law_68 : decode code 68 = .ok (.invokevirtual 93, 3) := by decide +kernel
theorem d_Law_71 : decode code 71 = .ok (.goto 4, 3) := by decide +kernel
theorem d_Law_74 : decode code 74 = .ok (.iconst 0, 1) := by decide +kernel
theorem d_Law_75 : decode code 75 = .ok (.istore 6, 2) := by decide +kernel
theorem d_Law_77 : decode code 77 = .ok (.aload_n 1, 1) := by decide +kernel
theorem d_Law_78 : decode code 78 = .ok (.iconst 4, 1) := by decide +kernel
theorem d_Law_79 : decode code 79 = .ok (.invokevirtual 12, 3) := by decide +kernel
theorem d_Law_82 : decode code 82 = .ok (.istore 7, 2) := by decide +kernel
theorem d_Law_84 : decode code 84 = .ok (.aload_n 1, 1) := by decide +kernel
theorem d_Law_85 : decode code 85 = .ok (.bipush 7, 2) := by decide +kernel
theorem d_Law_87 : decode code 87 = .ok (.invokevirtual 12, 3) := by decide +kernel
theorem d_Law_90 : decode code 90 = .ok (.istore 8, 2) := by decide +kernel
theorem d_Law_92 : decode code 92 = .ok (.aload_n 1, 1) := by decide +kernel
theorem d_Law_93 : decode code 93 = .ok (.iload_n 3, 1) := by decide +kernel
theorem d_Law_94 : decode code 94 = .ok (.invokestatic 96, 3) := by decide +kernel
theorem d_Law_97 : decode code 97 = .ok (.istore 9, 2) := by decide +kernel
theorem d_Law_99 : decode code 99 = .ok (.iload 9, 2) := by decide +kernel
theorem d_Law_101 : decode code 101 = .ok (.ifCond .ge 14, 3) := by decide +kernel
theorem d_Law_104 : decode code 104 = .ok (.iload 9, 2) := by decide +kernel
theorem d_Law_106 : decode code 106 = .ok (.ldc 100, 2) := by decide +kernel
theorem d_Law_108 : decode code 108 = .ok (.if_icmp .eq 7, 3) := by decide +kernel
theorem d_Law_111 : decode code 111 = .ok (.iconst 1, 1) := by decide +kernel
theorem d_Law_112 : decode code 112 = .ok (.goto 4, 3) := by decide +kernel
theorem d_Law_115 : decode code 115 = .ok (.iconst 0, 1) := by decide +kernel
theorem d_Law_116 : decode code 116 = .ok (.istore 10, 2) := by decide +kernel
theorem d_Law_118 : decode code 118 = .ok (.iload 10, 2) := by decide +kernel
theorem d_Law_120 : decode code 120 = .ok (.ifCond .eq 13, 3) := by decide +kernel
theorem d_Law_123 : decode code 123 = .ok (.aload_n 1, 1) := by decide +kernel
theorem d_Law_124 : decode code 124 = .ok (.invokestatic 89, 3) := by decide +kernel
theorem d_Law_127 : decode code 127 = .ok (.lload 4, 2) := by decide +kernel
theorem d_Law_129 : decode code 129 = .ok (.lcmp, 1) := by decide +kernel
theorem d_Law_130 : decode code 130 = .ok (.ifCond .ne 10, 3) := by decide +kernel
theorem d_Law_133 : decode code 133 = .ok (.aload_n 1, 1) := by decide +kernel
theorem d_Law_134 : decode code 134 = .ok (.invokestatic 101, 3) := by decide +kernel
theorem d_Law_137 : decode code 137 = .ok (.ifCond .ne 5, 3) := by decide +kernel
theorem d_Law_140 : decode code 140 = .ok (.iconst 0, 1) := by decide +kernel
theorem d_Law_141 : decode code 141 = .ok (.ireturn, 1) := by decide +kernel
theorem d_Law_142 : decode code 142 = .ok (.iload_n 3, 1) := by decide +kernel
theorem d_Law_143 : decode code 143 = .ok (.bipush 15, 2) := by decide +kernel
theorem d_Law_145 : decode code 145 = .ok (.iand, 1) := by decide +kernel
theorem d_Law_146 : decode code 146 = .ok (.bipush 10, 2) := by decide +kernel
theorem d_Law_148 : decode code 148 = .ok (.if_icmp .eq 12, 3) := by decide +kernel
theorem d_Law_151 : decode code 151 = .ok (.iload_n 3, 1) := by decide +kernel
theorem d_Law_152 : decode code 152 = .ok (.bipush 15, 2) := by decide +kernel
theorem d_Law_154 : decode code 154 = .ok (.iand, 1) := by decide +kernel
theorem d_Law_155 : decode code 155 = .ok (.bipush 11, 2) := by decide +kernel
theorem d_Law_157 : decode code 157 = .ok (.if_icmp .ne 120, 3) := by decide +kernel
theorem d_Law_160 : decode code 160 = .ok (.iload 6, 2) := by decide +kernel
theorem d_Law_162 : decode code 162 = .ok (.ifCond .ne 7, 3) := by decide +kernel
theorem d_Law_165 : decode code 165 = .ok (.iconst 1, 1) := by decide +kernel
theorem d_Law_166 : decode code 166 = .ok (.goto 4, 3) := by decide +kernel
theorem d_Law_169 : decode code 169 = .ok (.iconst 0, 1) := by decide +kernel
theorem d_Law_170 : decode code 170 = .ok (.iload 9, 2) := by decide +kernel
theorem d_Law_172 : decode code 172 = .ok (.ldc 100, 2) := by decide +kernel
theorem d_Law_174 : decode code 174 = .ok (.if_icmp .ne 7, 3) := by decide +kernel
theorem d_Law_177 : decode code 177 = .ok (.iconst 1, 1) := by decide +kernel
theorem d_Law_178 : decode code 178 = .ok (.goto 4, 3) := by decide +kernel
theorem d_Law_181 : decode code 181 = .ok (.iconst 0, 1) := by decide +kernel
theorem d_Law_182 : decode code 182 = .ok (.if_icmp .ne 93, 3) := by decide +kernel
theorem d_Law_185 : decode code 185 = .ok (.iload 6, 2) := by decide +kernel
theorem d_Law_187 : decode code 187 = .ok (.iconst 2, 1) := by decide +kernel
theorem d_Law_188 : decode code 188 = .ok (.iand, 1) := by decide +kernel
theorem d_Law_189 : decode code 189 = .ok (.iconst 2, 1) := by decide +kernel
theorem d_Law_190 : decode code 190 = .ok (.if_icmp .ne 7, 3) := by decide +kernel
theorem d_Law_193 : decode code 193 = .ok (.iconst 1, 1) := by decide +kernel
theorem d_Law_194 : decode code 194 = .ok (.goto 4, 3) := by decide +kernel
theorem d_Law_197 : decode code 197 = .ok (.iconst 0, 1) := by decide +kernel
theorem d_Law_198 : decode code 198 = .ok (.aload_n 1, 1) := by decide +kernel
theorem d_Law_199 : decode code 199 = .ok (.iconst 4, 1) := by decide +kernel
theorem d_Law_200 : decode code 200 = .ok (.invokevirtual 12, 3) := by decide +kernel
theorem d_Law_203 : decode code 203 = .ok (.iload 7, 2) := by decide +kernel
theorem d_Law_205 : decode code 205 = .ok (.if_icmp .eq 7, 3) := by decide +kernel
theorem d_Law_208 : decode code 208 = .ok (.iconst 1, 1) := by decide +kernel
theorem d_Law_209 : decode code 209 = .ok (.goto 4, 3) := by decide +kernel
theorem d_Law_212 : decode code 212 = .ok (.iconst 0, 1) := by decide +kernel
theorem d_Law_213 : decode code 213 = .ok (.if_icmp .ne 62, 3) := by decide +kernel
theorem d_Law_216 : decode code 216 = .ok (.iload 6, 2) := by decide +kernel
theorem d_Law_218 : decode code 218 = .ok (.bipush 8, 2) := by decide +kernel
theorem d_Law_220 : decode code 220 = .ok (.iand, 1) := by decide +kernel
theorem d_Law_221 : decode code 221 = .ok (.bipush 8, 2) := by decide +kernel
theorem d_Law_223 : decode code 223 = .ok (.if_icmp .ne 7, 3) := by decide +kernel
theorem d_Law_226 : decode code 226 = .ok (.iconst 1, 1) := by decide +kernel
theorem d_Law_227 : decode code 227 = .ok (.goto 4, 3) := by decide +kernel
theorem d_Law_230 : decode code 230 = .ok (.iconst 0, 1) := by decide +kernel
theorem d_Law_231 : decode code 231 = .ok (.iload 9, 2) := by decide +kernel
theorem d_Law_233 : decode code 233 = .ok (.ifCond .le 7, 3) := by decide +kernel
theorem d_Law_236 : decode code 236 = .ok (.iconst 1, 1) := by decide +kernel
theorem d_Law_237 : decode code 237 = .ok (.goto 4, 3) := by decide +kernel
theorem d_Law_240 : decode code 240 = .ok (.iconst 0, 1) := by decide +kernel
theorem d_Law_241 : decode code 241 = .ok (.if_icmp .ne 34, 3) := by decide +kernel
theorem d_Law_244 : decode code 244 = .ok (.iload 6, 2) := by decide +kernel
theorem d_Law_246 : decode code 246 = .ok (.ifCond .ne 7, 3) := by decide +kernel
theorem d_Law_249 : decode code 249 = .ok (.iconst 1, 1) := by decide +kernel
theorem d_Law_250 : decode code 250 = .ok (.goto 4, 3) := by decide +kernel
theorem d_Law_253 : decode code 253 = .ok (.iconst 0, 1) := by decide +kernel
theorem d_Law_254 : decode code 254 = .ok (.aload_n 1, 1) := by decide +kernel
theorem d_Law_255 : decode code 255 = .ok (.bipush 7, 2) := by decide +kernel
theorem d_Law_257 : decode code 257 = .ok (.invokevirtual 12, 3) := by decide +kernel
theorem d_Law_260 : decode code 260 = .ok (.iload 8, 2) := by decide +kernel
theorem d_Law_262 : decode code 262 = .ok (.iconst 1, 1) := by decide +kernel
theorem d_Law_263 : decode code 263 = .ok (.iadd, 1) := by decide +kernel
theorem d_Law_264 : decode code 264 = .ok (.if_icmp .ne 7, 3) := by decide +kernel
theorem d_Law_267 : decode code 267 = .ok (.iconst 1, 1) := by decide +kernel
theorem d_Law_268 : decode code 268 = .ok (.goto 4, 3) := by decide +kernel
theorem d_Law_271 : decode code 271 = .ok (.iconst 0, 1) := by decide +kernel
theorem d_Law_272 : decode code 272 = .ok (.if_icmp .eq 5, 3) := by decide +kernel
theorem d_Law_275 : decode code 275 = .ok (.iconst 0, 1) := by decide +kernel
theorem d_Law_276 : decode code 276 = .ok (.ireturn, 1) := by decide +kernel
theorem d_Law_277 : decode code 277 = .ok (.iload 10, 2) := by decide +kernel
theorem d_Law_279 : decode code 279 = .ok (.ifCond .ne 55, 3) := by decide +kernel
theorem d_Law_282 : decode code 282 = .ok (.iload_n 2, 1) := by decide +kernel
theorem d_Law_283 : decode code 283 = .ok (.iconst 3, 1) := by decide +kernel
theorem d_Law_284 : decode code 284 = .ok (.iand, 1) := by decide +kernel
theorem d_Law_285 : decode code 285 = .ok (.iconst 2, 1) := by decide +kernel
theorem d_Law_286 : decode code 286 = .ok (.if_icmp .ne 48, 3) := by decide +kernel
theorem d_Law_289 : decode code 289 = .ok (.aload_n 1, 1) := by decide +kernel
theorem d_Law_290 : decode code 290 = .ok (.invokestatic 89, 3) := by decide +kernel
theorem d_Law_293 : decode code 293 = .ok (.lstore 11, 2) := by decide +kernel
theorem d_Law_295 : decode code 295 = .ok (.aload_n 1, 1) := by decide +kernel
theorem d_Law_296 : decode code 296 = .ok (.invokevirtual 105, 3) := by decide +kernel
theorem d_Law_299 : decode code 299 = .ok (.ifCond .lt 33, 3) := by decide +kernel
theorem d_Law_302 : decode code 302 = .ok (.aload_n 1, 1) := by decide +kernel
theorem d_Law_303 : decode code 303 = .ok (.invokestatic 89, 3) := by decide +kernel
theorem d_Law_306 : decode code 306 = .ok (.lload 4, 2) := by decide +kernel
theorem d_Law_308 : decode code 308 = .ok (.lcmp, 1) := by decide +kernel
theorem d_Law_309 : decode code 309 = .ok (.ifCond .ne 23, 3) := by decide +kernel
theorem d_Law_312 : decode code 312 = .ok (.aload_n 1, 1) := by decide +kernel
theorem d_Law_313 : decode code 313 = .ok (.iload_n 3, 1) := by decide +kernel
theorem d_Law_314 : decode code 314 = .ok (.invokestatic 96, 3) := by decide +kernel
theorem d_Law_317 : decode code 317 = .ok (.iload 9, 2) := by decide +kernel
theorem d_Law_319 : decode code 319 = .ok (.if_icmp .ne 13, 3) := by decide +kernel
theorem d_Law_322 : decode code 322 = .ok (.aload_n 1, 1) := by decide +kernel
theorem d_Law_323 : decode code 323 = .ok (.invokestatic 89, 3) := by decide +kernel
theorem d_Law_326 : decode code 326 = .ok (.lload 11, 2) := by decide +kernel
theorem d_Law_328 : decode code 328 = .ok (.lcmp, 1) := by decide +kernel
theorem d_Law_329 : decode code 329 = .ok (.ifCond .eq 5, 3) := by decide +kernel
theorem d_Law_332 : decode code 332 = .ok (.iconst 0, 1) := by decide +kernel
theorem d_Law_333 : decode code 333 = .ok (.ireturn, 1) := by decide +kernel
theorem d_Law_334 : decode code 334 = .ok (.iinc 2 1, 3) := by decide +kernel
theorem d_Law_337 : decode code 337 = .ok (.goto (-327), 3) := by decide +kernel
theorem d_Law_340 : decode code 340 = .ok (.aload_n 1, 1) := by decide +kernel
theorem d_Law_341 : decode code 341 = .ok (.invokestatic 89, 3) := by decide +kernel
theorem d_Law_344 : decode code 344 = .ok (.lstore_n 2, 1) := by decide +kernel
theorem d_Law_345 : decode code 345 = .ok (.aload_n 1, 1) := by decide +kernel
theorem d_Law_346 : decode code 346 = .ok (.iconst 2, 1) := by decide +kernel
theorem d_Law_347 : decode code 347 = .ok (.invokevirtual 12, 3) := by decide +kernel
theorem d_Law_350 : decode code 350 = .ok (.istore 4, 2) := by decide +kernel
theorem d_Law_352 : decode code 352 = .ok (.aload_n 1, 1) := by decide +kernel
theorem d_Law_353 : decode code 353 = .ok (.iconst 3, 1) := by decide +kernel
theorem d_Law_354 : decode code 354 = .ok (.invokevirtual 12, 3) := by decide +kernel
theorem d_Law_357 : decode code 357 = .ok (.istore 5, 2) := by decide +kernel
theorem d_Law_359 : decode code 359 = .ok (.aload_n 1, 1) := by decide +kernel
theorem d_Law_360 : decode code 360 = .ok (.iconst 0, 1) := by decide +kernel
theorem d_Law_361 : decode code 361 = .ok (.sipush 1000, 3) := by decide +kernel
theorem d_Law_364 : decode code 364 = .ok (.iconst 0, 1) := by decide +kernel
theorem d_Law_365 : decode code 365 = .ok (.iconst 0, 1) := by decide +kernel
theorem d_Law_366 : decode code 366 = .ok (.invokevirtual 46, 3) := by decide +kernel
theorem d_Law_369 : decode code 369 = .ok (.ldc 109, 2) := by decide +kernel
theorem d_Law_371 : decode code 371 = .ok (.if_icmp .ne 92, 3) := by decide +kernel
theorem d_Law_374 : decode code 374 = .ok (.aload_n 1, 1) := by decide +kernel
theorem d_Law_375 : decode code 375 = .ok (.iconst 0, 1) := by decide +kernel
theorem d_Law_376 : decode code 376 = .ok (.sipush 500, 3) := by decide +kernel
theorem d_Law_379 : decode code 379 = .ok (.iconst 1, 1) := by decide +kernel
theorem d_Law_380 : decode code 380 = .ok (.iconst 0, 1) := by decide +kernel
theorem d_Law_381 : decode code 381 = .ok (.invokevirtual 46, 3) := by decide +kernel
theorem d_Law_384 : decode code 384 = .ok (.ldc 109, 2) := by decide +kernel
theorem d_Law_386 : decode code 386 = .ok (.if_icmp .ne 77, 3) := by decide +kernel
theorem d_Law_389 : decode code 389 = .ok (.aload_n 1, 1) := by decide +kernel
theorem d_Law_390 : decode code 390 = .ok (.bipush 51, 2) := by decide +kernel
theorem d_Law_392 : decode code 392 = .ok (.invokevirtual 69, 3) := by decide +kernel
theorem d_Law_395 : decode code 395 = .ok (.ldc 109, 2) := by decide +kernel
theorem d_Law_397 : decode code 397 = .ok (.if_icmp .ne 66, 3) := by decide +kernel
theorem d_Law_400 : decode code 400 = .ok (.aload_n 1, 1) := by decide +kernel
theorem d_Law_401 : decode code 401 = .ok (.sipush 1001, 3) := by decide +kernel
theorem d_Law_404 : decode code 404 = .ok (.iconst 0, 1) := by decide +kernel
theorem d_Law_405 : decode code 405 = .ok (.invokevirtual 72, 3) := by decide +kernel
theorem d_Law_408 : decode code 408 = .ok (.ldc 109, 2) := by decide +kernel
theorem d_Law_410 : decode code 410 = .ok (.if_icmp .ne 53, 3) := by decide +kernel
theorem d_Law_413 : decode code 413 = .ok (.aload_n 1, 1) := by decide +kernel
theorem d_Law_414 : decode code 414 = .ok (.iconst 0, 1) := by decide +kernel
theorem d_Law_415 : decode code 415 = .ok (.iload 4, 2) := by decide +kernel
theorem d_Law_417 : decode code 417 = .ok (.iconst 5, 1) := by decide +kernel
theorem d_Law_418 : decode code 418 = .ok (.invokevirtual 75, 3) := by decide +kernel
theorem d_Law_421 : decode code 421 = .ok (.ldc 110, 2) := by decide +kernel
theorem d_Law_423 : decode code 423 = .ok (.if_icmp .ne 40, 3) := by decide +kernel
theorem d_Law_426 : decode code 426 = .ok (.aload_n 1, 1) := by decide +kernel
theorem d_Law_427 : decode code 427 = .ok (.iconst 1, 1) := by decide +kernel
theorem d_Law_428 : decode code 428 = .ok (.iconst 0, 1) := by decide +kernel
theorem d_Law_429 : decode code 429 = .ok (.iconst 1, 1) := by decide +kernel
theorem d_Law_430 : decode code 430 = .ok (.iconst 1, 1) := by decide +kernel
theorem d_Law_431 : decode code 431 = .ok (.invokevirtual 111, 3) := by decide +kernel
theorem d_Law_434 : decode code 434 = .ok (.ldc 109, 2) := by decide +kernel
theorem d_Law_436 : decode code 436 = .ok (.if_icmp .ne 27, 3) := by decide +kernel
theorem d_Law_439 : decode code 439 = .ok (.aload_n 1, 1) := by decide +kernel
theorem d_Law_440 : decode code 440 = .ok (.iconst 0, 1) := by decide +kernel
theorem d_Law_441 : decode code 441 = .ok (.bipush 7, 2) := by decide +kernel
theorem d_Law_443 : decode code 443 = .ok (.iconst 0, 1) := by decide +kernel
theorem d_Law_444 : decode code 444 = .ok (.iconst 0, 1) := by decide +kernel
theorem d_Law_445 : decode code 445 = .ok (.iconst 0, 1) := by decide +kernel
theorem d_Law_446 : decode code 446 = .ok (.invokevirtual 59, 3) := by decide +kernel
theorem d_Law_449 : decode code 449 = .ok (.ldc 109, 2) := by decide +kernel
theorem d_Law_451 : decode code 451 = .ok (.if_icmp .ne 12, 3) := by decide +kernel
theorem d_Law_454 : decode code 454 = .ok (.aload_n 1, 1) := by decide +kernel
theorem d_Law_455 : decode code 455 = .ok (.invokestatic 89, 3) := by decide +kernel
theorem d_Law_458 : decode code 458 = .ok (.lload_n 2, 1) := by decide +kernel
theorem d_Law_459 : decode code 459 = .ok (.lcmp, 1) := by decide +kernel
theorem d_Law_460 : decode code 460 = .ok (.ifCond .eq 5, 3) := by decide +kernel
theorem d_Law_463 : decode code 463 = .ok (.iconst 0, 1) := by decide +kernel
theorem d_Law_464 : decode code 464 = .ok (.ireturn, 1) := by decide +kernel
theorem d_Law_465 : decode code 465 = .ok (.aload_n 1, 1) := by decide +kernel
theorem d_Law_466 : decode code 466 = .ok (.iload 4, 2) := by decide +kernel
theorem d_Law_468 : decode code 468 = .ok (.iload 5, 2) := by decide +kernel
theorem d_Law_470 : decode code 470 = .ok (.iconst 0, 1) := by decide +kernel
theorem d_Law_471 : decode code 471 = .ok (.invokevirtual 114, 3) := by decide +kernel
theorem d_Law_474 : decode code 474 = .ok (.istore 6, 2) := by decide +kernel
theorem d_Law_476 : decode code 476 = .ok (.iload 6, 2) := by decide +kernel
theorem d_Law_478 : decode code 478 = .ok (.ifCond .lt 72, 3) := by decide +kernel
theorem d_Law_481 : decode code 481 = .ok (.iload 6, 2) := by decide +kernel
theorem d_Law_483 : decode code 483 = .ok (.sipush 9999, 3) := by decide +kernel
theorem d_Law_486 : decode code 486 = .ok (.if_icmp .gt 64, 3) := by decide +kernel
theorem d_Law_489 : decode code 489 = .ok (.aload_n 1, 1) := by decide +kernel
theorem d_Law_490 : decode code 490 = .ok (.iconst 0, 1) := by decide +kernel
theorem d_Law_491 : decode code 491 = .ok (.iconst 0, 1) := by decide +kernel
theorem d_Law_492 : decode code 492 = .ok (.iconst 0, 1) := by decide +kernel
theorem d_Law_493 : decode code 493 = .ok (.invokevirtual 117, 3) := by decide +kernel
theorem d_Law_496 : decode code 496 = .ok (.ifCond .lt 54, 3) := by decide +kernel
theorem d_Law_499 : decode code 499 = .ok (.aload_n 1, 1) := by decide +kernel
theorem d_Law_500 : decode code 500 = .ok (.iconst 0, 1) := by decide +kernel
theorem d_Law_501 : decode code 501 = .ok (.sipush 500, 3) := by decide +kernel
theorem d_Law_504 : decode code 504 = .ok (.iconst 0, 1) := by decide +kernel
theorem d_Law_505 : decode code 505 = .ok (.bipush 100, 2) := by decide +kernel
theorem d_Law_507 : decode code 507 = .ok (.invokevirtual 111, 3) := by decide +kernel
theorem d_Law_510 : decode code 510 = .ok (.iconst 1, 1) := by decide +kernel
theorem d_Law_511 : decode code 511 = .ok (.if_icmp .gt 39, 3) := by decide +kernel
theorem d_Law_514 : decode code 514 = .ok (.aload_n 1, 1) := by decide +kernel
theorem d_Law_515 : decode code 515 = .ok (.invokestatic 89, 3) := by decide +kernel
theorem d_Law_518 : decode code 518 = .ok (.lload_n 2, 1) := by decide +kernel
theorem d_Law_519 : decode code 519 = .ok (.lcmp, 1) := by decide +kernel
theorem d_Law_520 : decode code 520 = .ok (.ifCond .ne 30, 3) := by decide +kernel
theorem d_Law_523 : decode code 523 = .ok (.aload_n 1, 1) := by decide +kernel
theorem d_Law_524 : decode code 524 = .ok (.bipush 12, 2) := by decide +kernel
theorem d_Law_526 : decode code 526 = .ok (.invokevirtual 12, 3) := by decide +kernel
theorem d_Law_529 : decode code 529 = .ok (.ldc 109, 2) := by decide +kernel
theorem d_Law_531 : decode code 531 = .ok (.if_icmp .ne 19, 3) := by decide +kernel
theorem d_Law_534 : decode code 534 = .ok (.aload_n 1, 1) := by decide +kernel
theorem d_Law_535 : decode code 535 = .ok (.sipush 256, 3) := by decide +kernel
theorem d_Law_538 : decode code 538 = .ok (.invokevirtual 120, 3) := by decide +kernel
theorem d_Law_541 : decode code 541 = .ok (.ldc 109, 2) := by decide +kernel
theorem d_Law_543 : decode code 543 = .ok (.if_icmp .ne 7, 3) := by decide +kernel
theorem d_Law_546 : decode code 546 = .ok (.iconst 1, 1) := by decide +kernel
theorem d_Law_547 : decode code 547 = .ok (.goto 4, 3) := by decide +kernel
theorem d_Law_550 : decode code 550 = .ok (.iconst 0, 1) := by decide +kernel
theorem d_Law_551 : decode code 551 = .ok (.ireturn, 1) := by decide +kernel
theorem in_Law_cell : ga_In mt_Law_cell := ⟨ga_mem 574 (by decide +kernel), by decide +kernel, by decide, ga_mem 10 (by decide +kernel), by decide +kernel⟩
theorem in_Law_low : ga_In mt_Law_low := ⟨ga_mem 577 (by decide +kernel), by decide +kernel, by decide, ga_mem 10 (by decide +kernel), by decide +kernel⟩
theorem in_Law_digest : ga_In mt_Law_digest := ⟨ga_mem 581 (by decide +kernel), by decide +kernel, by decide, ga_mem 10 (by decide +kernel), by decide +kernel⟩
theorem in_Law_act : ga_In mt_Law_act := ⟨ga_mem 643 (by decide +kernel), by decide +kernel, by decide, ga_mem 10 (by decide +kernel), by decide +kernel⟩
theorem in_Law_isRight : ga_In mt_Law_isRight := ⟨ga_mem 706 (by decide +kernel), by decide +kernel, by decide, ga_mem 10 (by decide +kernel), by decide +kernel⟩
theorem kw_Law_7 : Cond.constant "GainTablesLaw" 7 (2147483647 : Int32) ∈ ga_T := ga_mem 578 (by decide +kernel)
theorem kl_Law_8 : Cond.constantLong "GainTablesLaw" 8 (7 : Int64) ∈ ga_T := ga_mem 582 (by decide +kernel)
theorem kl_Law_10 : Cond.constantLong "GainTablesLaw" 10 (31 : Int64) ∈ ga_T := ga_mem 583 (by decide +kernel)
theorem lk_Law_12 : ga_LV "GainTablesLaw" 12 mt_GT_count 1 := ⟨in_GT_count, ga_mem 529 (by decide +kernel), ga_mem 530 (by decide +kernel), ga_mem 531 (by decide +kernel), by decide +kernel⟩
theorem lk_Law_18 : ga_LV "GainTablesLaw" 18 mt_GT_axis 2 := ⟨in_GT_axis, ga_mem 584 (by decide +kernel), ga_mem 585 (by decide +kernel), ga_mem 586 (by decide +kernel), by decide +kernel⟩
theorem lk_Law_22 : ga_LV "GainTablesLaw" 22 mt_GT_border 3 := ⟨in_GT_border, ga_mem 593 (by decide +kernel), ga_mem 594 (by decide +kernel), ga_mem 595 (by decide +kernel), by decide +kernel⟩
theorem lk_Law_26 : ga_LV "GainTablesLaw" 26 mt_GT_region 3 := ⟨in_GT_region, ga_mem 604 (by decide +kernel), ga_mem 605 (by decide +kernel), ga_mem 606 (by decide +kernel), by decide +kernel⟩
theorem lk_Law_29 : ga_LV "GainTablesLaw" 29 mt_GT_operator 2 := ⟨in_GT_operator, ga_mem 609 (by decide +kernel), ga_mem 610 (by decide +kernel), ga_mem 611 (by decide +kernel), by decide +kernel⟩
theorem lk_Law_32 : ga_LV "GainTablesLaw" 32 mt_GT_account 1 := ⟨in_GT_account, ga_mem 617 (by decide +kernel), ga_mem 618 (by decide +kernel), ga_mem 619 (by decide +kernel), by decide +kernel⟩
theorem lk_Law_35 : ga_LV "GainTablesLaw" 35 mt_GT_gain 2 := ⟨in_GT_gain, ga_mem 625 (by decide +kernel), ga_mem 626 (by decide +kernel), ga_mem 627 (by decide +kernel), by decide +kernel⟩
theorem lk_Law_38 : ga_LV "GainTablesLaw" 38 mt_GT_trail 2 := ⟨in_GT_trail, ga_mem 629 (by decide +kernel), ga_mem 630 (by decide +kernel), ga_mem 631 (by decide +kernel), by decide +kernel⟩
theorem lk_Law_41 : ga_LS "GainTablesLaw" 41 mt_Law_low 2 := ⟨in_Law_low, ga_mem 575 (by decide +kernel), ga_mem 576 (by decide +kernel), by decide +kernel⟩
theorem lk_Law_46 : ga_LV "GainTablesLaw" 46 mt_GT_addBorder 4 := ⟨in_GT_addBorder, ga_mem 261 (by decide +kernel), ga_mem 262 (by decide +kernel), ga_mem 263 (by decide +kernel), by decide +kernel⟩
theorem lk_Law_50 : ga_LV "GainTablesLaw" 50 mt_GT_removeBorder 2 := ⟨in_GT_removeBorder, ga_mem 644 (by decide +kernel), ga_mem 645 (by decide +kernel), ga_mem 646 (by decide +kernel), by decide +kernel⟩
theorem lk_Law_53 : ga_LV "GainTablesLaw" 53 mt_GT_setReach 3 := ⟨in_GT_setReach, ga_mem 660 (by decide +kernel), ga_mem 661 (by decide +kernel), ga_mem 662 (by decide +kernel), by decide +kernel⟩
theorem lk_Law_56 : ga_LV "GainTablesLaw" 56 mt_GT_setOperator 3 := ⟨in_GT_setOperator, ga_mem 669 (by decide +kernel), ga_mem 670 (by decide +kernel), ga_mem 671 (by decide +kernel), by decide +kernel⟩
theorem lk_Law_59 : ga_LV "GainTablesLaw" 59 mt_GT_edit 5 := ⟨in_GT_edit, ga_mem 376 (by decide +kernel), ga_mem 377 (by decide +kernel), ga_mem 378 (by decide +kernel), by decide +kernel⟩
theorem lk_Law_63 : ga_LV "GainTablesLaw" 63 mt_GT_scale 3 := ⟨in_GT_scale, ga_mem 674 (by decide +kernel), ga_mem 675 (by decide +kernel), ga_mem 676 (by decide +kernel), by decide +kernel⟩
theorem lk_Law_66 : ga_LV "GainTablesLaw" 66 mt_GT_lock 4 := ⟨in_GT_lock, ga_mem 678 (by decide +kernel), ga_mem 679 (by decide +kernel), ga_mem 680 (by decide +kernel), by decide +kernel⟩
theorem lk_Law_69 : ga_LV "GainTablesLaw" 69 mt_GT_setMargin 1 := ⟨in_GT_setMargin, ga_mem 411 (by decide +kernel), ga_mem 412 (by decide +kernel), ga_mem 413 (by decide +kernel), by decide +kernel⟩
theorem lk_Law_72 : ga_LV "GainTablesLaw" 72 mt_GT_move 2 := ⟨in_GT_move, ga_mem 415 (by decide +kernel), ga_mem 416 (by decide +kernel), ga_mem 417 (by decide +kernel), by decide +kernel⟩
theorem lk_Law_75 : ga_LV "GainTablesLaw" 75 mt_GT_sweep 3 := ⟨in_GT_sweep, ga_mem 505 (by decide +kernel), ga_mem 506 (by decide +kernel), ga_mem 507 (by decide +kernel), by decide +kernel⟩
theorem lk_Law_78 : ga_LV "GainTablesLaw" 78 mt_GT_take 1 := ⟨in_GT_take, ga_mem 683 (by decide +kernel), ga_mem 684 (by decide +kernel), ga_mem 685 (by decide +kernel), by decide +kernel⟩
theorem lk_Law_81 : ga_LV "GainTablesLaw" 81 mt_GT_restore 1 := ⟨in_GT_restore, ga_mem 695 (by decide +kernel), ga_mem 696 (by decide +kernel), ga_mem 697 (by decide +kernel), by decide +kernel⟩
theorem lc_Law_13 : Cond.classLink "GainTablesLaw" 13 "GainTables" ∈ ga_T := ga_mem 22 (by decide +kernel)
theorem ic_GT : Cond.instantiable "GainTables" 9 ∈ ga_T ∧ Cond.initialized "GainTables" ∈ ga_T := ⟨ga_mem 23 (by decide +kernel), ga_mem 11 (by decide +kernel)⟩
theorem li_Law_84 : gc_LI "GainTablesLaw" 84 mt_GT_init := ⟨in_GT_init, rfl, ga_mem 25 (by decide +kernel), rfl, by decide +kernel, Or.inl (ga_mem 24 (by decide +kernel))⟩
theorem lk_Law_85 : ga_LS "GainTablesLaw" 85 mt_Law_cell 2 := ⟨in_Law_cell, ga_mem 572 (by decide +kernel), ga_mem 573 (by decide +kernel), by decide +kernel⟩
theorem lk_Law_89 : ga_LS "GainTablesLaw" 89 mt_Law_digest 1 := ⟨in_Law_digest, ga_mem 579 (by decide +kernel), ga_mem 580 (by decide +kernel), by decide +kernel⟩
theorem lk_Law_93 : ga_LV "GainTablesLaw" 93 mt_GT_effect 2 := ⟨in_GT_effect, ga_mem 541 (by decide +kernel), ga_mem 542 (by decide +kernel), ga_mem 543 (by decide +kernel), by decide +kernel⟩
theorem lk_Law_96 : ga_LS "GainTablesLaw" 96 mt_Law_act 2 := ⟨in_Law_act, ga_mem 641 (by decide +kernel), ga_mem 642 (by decide +kernel), by decide +kernel⟩
theorem kw_Law_100 : Cond.constant "GainTablesLaw" 100 (-2000000009 : Int32) ∈ ga_T := ga_mem 707 (by decide +kernel)
theorem lk_Law_101 : ga_LS "GainTablesLaw" 101 mt_Law_isRight 1 := ⟨in_Law_isRight, ga_mem 704 (by decide +kernel), ga_mem 705 (by decide +kernel), by decide +kernel⟩
theorem lk_Law_105 : ga_LV "GainTablesLaw" 105 mt_GT_undo 0 := ⟨in_GT_undo, ga_mem 513 (by decide +kernel), ga_mem 514 (by decide +kernel), ga_mem 515 (by decide +kernel), by decide +kernel⟩
theorem kw_Law_109 : Cond.constant "GainTablesLaw" 109 (-2000000001 : Int32) ∈ ga_T := ga_mem 708 (by decide +kernel)
theorem kw_Law_110 : Cond.constant "GainTablesLaw" 110 (-2000000002 : Int32) ∈ ga_T := ga_mem 709 (by decide +kernel)
theorem lk_Law_111 : ga_LV "GainTablesLaw" 111 mt_GT_chatter 4 := ⟨in_GT_chatter, ga_mem 556 (by decide +kernel), ga_mem 557 (by decide +kernel), ga_mem 558 (by decide +kernel), by decide +kernel⟩
theorem lk_Law_114 : ga_LV "GainTablesLaw" 114 mt_GT_valueAt 3 := ⟨in_GT_valueAt, ga_mem 546 (by decide +kernel), ga_mem 547 (by decide +kernel), ga_mem 548 (by decide +kernel), by decide +kernel⟩
theorem lk_Law_117 : ga_LV "GainTablesLaw" 117 mt_GT_steepest 3 := ⟨in_GT_steepest, ga_mem 568 (by decide +kernel), ga_mem 569 (by decide +kernel), ga_mem 570 (by decide +kernel), by decide +kernel⟩
theorem lk_Law_120 : ga_LV "GainTablesLaw" 120 mt_GT_append 1 := ⟨in_GT_append, ga_mem 521 (by decide +kernel), ga_mem 522 (by decide +kernel), ga_mem 523 (by decide +kernel), by decide +kernel⟩
