/-! the law: its instructions -/
theorem dL_refuses_547 : decode cL_refuses 547 = .ok (.iconst 1, 1) := by decide +kernel
theorem dL_refuses_548 : decode cL_refuses 548 = .ok (.ldc2_w 144, 3) := by decide +kernel
theorem dL_refuses_551 : decode cL_refuses 551 = .ok (.iload_n 1, 1) := by decide +kernel
theorem dL_refuses_552 : decode cL_refuses 552 = .ok (.i2l, 1) := by decide +kernel
theorem dL_refuses_553 : decode cL_refuses 553 = .ok (.ladd, 1) := by decide +kernel
theorem dL_refuses_554 : decode cL_refuses 554 = .ok (.invokestatic 140, 3) := by decide +kernel
theorem dL_refuses_557 : decode cL_refuses 557 = .ok (.ldc 15, 2) := by decide +kernel
theorem dL_refuses_559 : decode cL_refuses 559 = .ok (.if_icmp .ne 25, 3) := by decide +kernel
theorem dL_refuses_562 : decode cL_refuses 562 = .ok (.aload_n 0, 1) := by decide +kernel
theorem dL_refuses_563 : decode cL_refuses 563 = .ok (.iload_n 1, 1) := by decide +kernel
theorem dL_refuses_564 : decode cL_refuses 564 = .ok (.i2l, 1) := by decide +kernel
theorem dL_refuses_565 : decode cL_refuses 565 = .ok (.bipush 61, 2) := by decide +kernel
theorem dL_refuses_567 : decode cL_refuses 567 = .ok (.iload_n 1, 1) := by decide +kernel
theorem dL_refuses_568 : decode cL_refuses 568 = .ok (.bipush 9, 2) := by decide +kernel
theorem dL_refuses_570 : decode cL_refuses 570 = .ok (.irem, 1) := by decide +kernel
theorem dL_refuses_571 : decode cL_refuses 571 = .ok (.iadd, 1) := by decide +kernel
theorem dL_refuses_572 : decode cL_refuses 572 = .ok (.invokestatic 146, 3) := by decide +kernel
theorem dL_refuses_575 : decode cL_refuses 575 = .ok (.ldc 15, 2) := by decide +kernel
theorem dL_refuses_577 : decode cL_refuses 577 = .ok (.if_icmp .ne 7, 3) := by decide +kernel
theorem dL_refuses_580 : decode cL_refuses 580 = .ok (.iconst 1, 1) := by decide +kernel
theorem dL_refuses_581 : decode cL_refuses 581 = .ok (.goto 4, 3) := by decide +kernel
theorem dL_refuses_584 : decode cL_refuses 584 = .ok (.iconst 0, 1) := by decide +kernel
theorem dL_refuses_585 : decode cL_refuses 585 = .ok (.ireturn, 1) := by decide +kernel
theorem dL_bits_0 : decode cL_bits 0 = .ok (.iconst 0, 1) := by decide +kernel
theorem dL_bits_1 : decode cL_bits 1 = .ok (.istore_n 1, 1) := by decide +kernel
theorem dL_bits_2 : decode cL_bits 2 = .ok (.iconst 0, 1) := by decide +kernel
theorem dL_bits_3 : decode cL_bits 3 = .ok (.istore_n 2, 1) := by decide +kernel
theorem dL_bits_4 : decode cL_bits 4 = .ok (.iload_n 2, 1) := by decide +kernel
theorem dL_bits_5 : decode cL_bits 5 = .ok (.bipush 10, 2) := by decide +kernel
theorem dL_bits_7 : decode cL_bits 7 = .ok (.if_icmp .ge 17, 3) := by decide +kernel
theorem dL_bits_10 : decode cL_bits 10 = .ok (.iload_n 1, 1) := by decide +kernel
theorem dL_bits_11 : decode cL_bits 11 = .ok (.iload_n 0, 1) := by decide +kernel
theorem dL_bits_12 : decode cL_bits 12 = .ok (.iload_n 2, 1) := by decide +kernel
theorem dL_bits_13 : decode cL_bits 13 = .ok (.ishr, 1) := by decide +kernel
theorem dL_bits_14 : decode cL_bits 14 = .ok (.iconst 1, 1) := by decide +kernel
theorem dL_bits_15 : decode cL_bits 15 = .ok (.iand, 1) := by decide +kernel
theorem dL_bits_16 : decode cL_bits 16 = .ok (.iadd, 1) := by decide +kernel
theorem dL_bits_17 : decode cL_bits 17 = .ok (.istore_n 1, 1) := by decide +kernel
theorem dL_bits_18 : decode cL_bits 18 = .ok (.iinc 2 1, 3) := by decide +kernel
theorem dL_bits_21 : decode cL_bits 21 = .ok (.goto (-17), 3) := by decide +kernel
theorem dL_bits_24 : decode cL_bits 24 = .ok (.iload_n 1, 1) := by decide +kernel
theorem dL_bits_25 : decode cL_bits 25 = .ok (.ireturn, 1) := by decide +kernel
theorem dL_holds_0 : decode cL_holds 0 = .ok (.iconst 0, 1) := by decide +kernel
theorem dL_holds_1 : decode cL_holds 1 = .ok (.istore_n 2, 1) := by decide +kernel
theorem dL_holds_2 : decode cL_holds 2 = .ok (.iconst 0, 1) := by decide +kernel
theorem dL_holds_3 : decode cL_holds 3 = .ok (.istore_n 3, 1) := by decide +kernel
theorem dL_holds_4 : decode cL_holds 4 = .ok (.iconst 0, 1) := by decide +kernel
theorem dL_holds_5 : decode cL_holds 5 = .ok (.istore 4, 2) := by decide +kernel
theorem dL_holds_7 : decode cL_holds 7 = .ok (.iconst 1, 1) := by decide +kernel
theorem dL_holds_8 : decode cL_holds 8 = .ok (.istore 5, 2) := by decide +kernel
theorem dL_holds_10 : decode cL_holds 10 = .ok (.iconst 0, 1) := by decide +kernel
theorem dL_holds_11 : decode cL_holds 11 = .ok (.istore 6, 2) := by decide +kernel
theorem dL_holds_13 : decode cL_holds 13 = .ok (.iload 6, 2) := by decide +kernel
theorem dL_holds_15 : decode cL_holds 15 = .ok (.bipush 10, 2) := by decide +kernel
theorem dL_holds_17 : decode cL_holds 17 = .ok (.if_icmp .ge 217, 3) := by decide +kernel
theorem dL_holds_20 : decode cL_holds 20 = .ok (.iload 5, 2) := by decide +kernel
theorem dL_holds_22 : decode cL_holds 22 = .ok (.ifCond .eq 212, 3) := by decide +kernel
theorem dL_holds_25 : decode cL_holds 25 = .ok (.aload_n 0, 1) := by decide +kernel
theorem dL_holds_26 : decode cL_holds 26 = .ok (.iconst 3, 1) := by decide +kernel
theorem dL_holds_27 : decode cL_holds 27 = .ok (.iload 6, 2) := by decide +kernel
theorem dL_holds_29 : decode cL_holds 29 = .ok (.iconst 0, 1) := by decide +kernel
theorem dL_holds_30 : decode cL_holds 30 = .ok (.iconst 0, 1) := by decide +kernel
theorem dL_holds_31 : decode cL_holds 31 = .ok (.invokestatic 132, 3) := by decide +kernel
theorem dL_holds_34 : decode cL_holds 34 = .ok (.istore 7, 2) := by decide +kernel
theorem dL_holds_36 : decode cL_holds 36 = .ok (.aload_n 0, 1) := by decide +kernel
theorem dL_holds_37 : decode cL_holds 37 = .ok (.iconst 3, 1) := by decide +kernel
theorem dL_holds_38 : decode cL_holds 38 = .ok (.iload 6, 2) := by decide +kernel
theorem dL_holds_40 : decode cL_holds 40 = .ok (.iconst 3, 1) := by decide +kernel
theorem dL_holds_41 : decode cL_holds 41 = .ok (.iconst 0, 1) := by decide +kernel
theorem dL_holds_42 : decode cL_holds 42 = .ok (.invokestatic 132, 3) := by decide +kernel
theorem dL_holds_45 : decode cL_holds 45 = .ok (.istore 8, 2) := by decide +kernel
theorem dL_holds_47 : decode cL_holds 47 = .ok (.aload_n 0, 1) := by decide +kernel
theorem dL_holds_48 : decode cL_holds 48 = .ok (.iconst 3, 1) := by decide +kernel
theorem dL_holds_49 : decode cL_holds 49 = .ok (.iload 6, 2) := by decide +kernel
theorem dL_holds_51 : decode cL_holds 51 = .ok (.iconst 1, 1) := by decide +kernel
theorem dL_holds_52 : decode cL_holds 52 = .ok (.iconst 0, 1) := by decide +kernel
theorem dL_holds_53 : decode cL_holds 53 = .ok (.invokestatic 132, 3) := by decide +kernel
theorem dL_holds_56 : decode cL_holds 56 = .ok (.istore 9, 2) := by decide +kernel
theorem dL_holds_58 : decode cL_holds 58 = .ok (.iload 6, 2) := by decide +kernel
theorem dL_holds_60 : decode cL_holds 60 = .ok (.iconst 5, 1) := by decide +kernel
theorem dL_holds_61 : decode cL_holds 61 = .ok (.if_icmp .le 7, 3) := by decide +kernel
theorem dL_holds_64 : decode cL_holds 64 = .ok (.iconst 3, 1) := by decide +kernel
theorem dL_holds_65 : decode cL_holds 65 = .ok (.goto 23, 3) := by decide +kernel
theorem dL_holds_68 : decode cL_holds 68 = .ok (.iload 6, 2) := by decide +kernel
theorem dL_holds_70 : decode cL_holds 70 = .ok (.iconst 2, 1) := by decide +kernel
theorem dL_holds_71 : decode cL_holds 71 = .ok (.if_icmp .le 7, 3) := by decide +kernel
theorem dL_holds_74 : decode cL_holds 74 = .ok (.iconst 2, 1) := by decide +kernel
theorem dL_holds_75 : decode cL_holds 75 = .ok (.goto 13, 3) := by decide +kernel
theorem dL_holds_78 : decode cL_holds 78 = .ok (.iload 6, 2) := by decide +kernel
theorem dL_holds_80 : decode cL_holds 80 = .ok (.ifCond .le 7, 3) := by decide +kernel
theorem dL_holds_83 : decode cL_holds 83 = .ok (.iconst 1, 1) := by decide +kernel
theorem dL_holds_84 : decode cL_holds 84 = .ok (.goto 4, 3) := by decide +kernel
theorem dL_holds_87 : decode cL_holds 87 = .ok (.iconst 0, 1) := by decide +kernel
theorem dL_holds_88 : decode cL_holds 88 = .ok (.istore 10, 2) := by decide +kernel
theorem dL_holds_90 : decode cL_holds 90 = .ok (.iload_n 2, 1) := by decide +kernel
theorem dL_holds_91 : decode cL_holds 91 = .ok (.iload 8, 2) := by decide +kernel
theorem dL_holds_93 : decode cL_holds 93 = .ok (.iadd, 1) := by decide +kernel
theorem dL_holds_94 : decode cL_holds 94 = .ok (.istore_n 2, 1) := by decide +kernel
theorem dL_holds_95 : decode cL_holds 95 = .ok (.iload_n 3, 1) := by decide +kernel
theorem dL_holds_96 : decode cL_holds 96 = .ok (.iload 7, 2) := by decide +kernel
theorem dL_holds_98 : decode cL_holds 98 = .ok (.iconst 4, 1) := by decide +kernel
theorem dL_holds_99 : decode cL_holds 99 = .ok (.if_icmp .ge 7, 3) := by decide +kernel
theorem dL_holds_102 : decode cL_holds 102 = .ok (.iconst 1, 1) := by decide +kernel
theorem dL_holds_103 : decode cL_holds 103 = .ok (.goto 4, 3) := by decide +kernel
theorem dL_holds_106 : decode cL_holds 106 = .ok (.iconst 0, 1) := by decide +kernel
theorem dL_holds_107 : decode cL_holds 107 = .ok (.iadd, 1) := by decide +kernel
theorem dL_holds_108 : decode cL_holds 108 = .ok (.istore_n 3, 1) := by decide +kernel
theorem dL_holds_109 : decode cL_holds 109 = .ok (.iload 4, 2) := by decide +kernel
theorem dL_holds_111 : decode cL_holds 111 = .ok (.iload 8, 2) := by decide +kernel
theorem dL_holds_113 : decode cL_holds 113 = .ok (.iconst 1, 1) := by decide +kernel
theorem dL_holds_114 : decode cL_holds 114 = .ok (.if_icmp .ne 30, 3) := by decide +kernel
theorem dL_holds_117 : decode cL_holds 117 = .ok (.iload 7, 2) := by decide +kernel
theorem dL_holds_119 : decode cL_holds 119 = .ok (.iconst 4, 1) := by decide +kernel
theorem dL_holds_120 : decode cL_holds 120 = .ok (.if_icmp .ge 24, 3) := by decide +kernel
theorem dL_holds_123 : decode cL_holds 123 = .ok (.iload 7, 2) := by decide +kernel
theorem dL_holds_125 : decode cL_holds 125 = .ok (.aload_n 0, 1) := by decide +kernel
theorem dL_holds_126 : decode cL_holds 126 = .ok (.bipush 6, 2) := by decide +kernel
theorem dL_holds_128 : decode cL_holds 128 = .ok (.iconst 2, 1) := by decide +kernel
theorem dL_holds_129 : decode cL_holds 129 = .ok (.iconst 0, 1) := by decide +kernel
theorem dL_holds_130 : decode cL_holds 130 = .ok (.iconst 0, 1) := by decide +kernel
theorem dL_holds_131 : decode cL_holds 131 = .ok (.invokestatic 132, 3) := by decide +kernel
theorem dL_holds_134 : decode cL_holds 134 = .ok (.if_icmp .le 10, 3) := by decide +kernel
theorem dL_holds_137 : decode cL_holds 137 = .ok (.iconst 1, 1) := by decide +kernel
theorem dL_holds_138 : decode cL_holds 138 = .ok (.iload 6, 2) := by decide +kernel
theorem dL_holds_140 : decode cL_holds 140 = .ok (.ishl, 1) := by decide +kernel
theorem dL_holds_141 : decode cL_holds 141 = .ok (.goto 4, 3) := by decide +kernel
theorem dL_holds_144 : decode cL_holds 144 = .ok (.iconst 0, 1) := by decide +kernel
theorem dL_holds_145 : decode cL_holds 145 = .ok (.iadd, 1) := by decide +kernel
theorem dL_holds_146 : decode cL_holds 146 = .ok (.istore 4, 2) := by decide +kernel
theorem dL_holds_148 : decode cL_holds 148 = .ok (.iload 7, 2) := by decide +kernel
theorem dL_holds_150 : decode cL_holds 150 = .ok (.ifCond .lt 75, 3) := by decide +kernel
theorem dL_holds_153 : decode cL_holds 153 = .ok (.iload 7, 2) := by decide +kernel
theorem dL_holds_155 : decode cL_holds 155 = .ok (.iconst 4, 1) := by decide +kernel
theorem dL_holds_156 : decode cL_holds 156 = .ok (.if_icmp .gt 69, 3) := by decide +kernel
theorem dL_holds_159 : decode cL_holds 159 = .ok (.iload 9, 2) := by decide +kernel
theorem dL_holds_161 : decode cL_holds 161 = .ok (.bipush (-2), 2) := by decide +kernel
theorem dL_holds_163 : decode cL_holds 163 = .ok (.if_icmp .lt 62, 3) := by decide +kernel
theorem dL_holds_166 : decode cL_holds 166 = .ok (.iload 9, 2) := by decide +kernel
theorem dL_holds_168 : decode cL_holds 168 = .ok (.iconst 2, 1) := by decide +kernel
theorem dL_holds_169 : decode cL_holds 169 = .ok (.if_icmp .gt 56, 3) := by decide +kernel
theorem dL_holds_172 : decode cL_holds 172 = .ok (.iload 8, 2) := by decide +kernel
theorem dL_holds_174 : decode cL_holds 174 = .ok (.ifCond .eq 9, 3) := by decide +kernel
theorem dL_holds_177 : decode cL_holds 177 = .ok (.iload 7, 2) := by decide +kernel
theorem dL_holds_179 : decode cL_holds 179 = .ok (.iconst 4, 1) := by decide +kernel
theorem dL_holds_180 : decode cL_holds 180 = .ok (.if_icmp .ge 45, 3) := by decide +kernel
theorem dL_holds_183 : decode cL_holds 183 = .ok (.aload_n 0, 1) := by decide +kernel
theorem dL_holds_184 : decode cL_holds 184 = .ok (.iconst 3, 1) := by decide +kernel
theorem dL_holds_185 : decode cL_holds 185 = .ok (.iload 6, 2) := by decide +kernel
theorem dL_holds_187 : decode cL_holds 187 = .ok (.iconst 2, 1) := by decide +kernel
theorem dL_holds_188 : decode cL_holds 188 = .ok (.iconst 0, 1) := by decide +kernel
theorem dL_holds_189 : decode cL_holds 189 = .ok (.invokestatic 132, 3) := by decide +kernel
theorem dL_holds_192 : decode cL_holds 192 = .ok (.iload 9, 2) := by decide +kernel
theorem dL_holds_194 : decode cL_holds 194 = .ok (.bipush 20, 2) := by decide +kernel
theorem dL_holds_196 : decode cL_holds 196 = .ok (.iadd, 1) := by decide +kernel
theorem dL_holds_197 : decode cL_holds 197 = .ok (.iconst 3, 1) := by decide +kernel
theorem dL_holds_198 : decode cL_holds 198 = .ok (.iload 10, 2) := by decide +kernel
theorem dL_holds_200 : decode cL_holds 200 = .ok (.imul, 1) := by decide +kernel
theorem dL_holds_201 : decode cL_holds 201 = .ok (.isub, 1) := by decide +kernel
theorem dL_holds_202 : decode cL_holds 202 = .ok (.bipush 6, 2) := by decide +kernel
theorem dL_holds_204 : decode cL_holds 204 = .ok (.iload 6, 2) := by decide +kernel
theorem dL_holds_206 : decode cL_holds 206 = .ok (.iload 10, 2) := by decide +kernel
theorem dL_holds_208 : decode cL_holds 208 = .ok (.iload 10, 2) := by decide +kernel
theorem dL_holds_210 : decode cL_holds 210 = .ok (.iconst 1, 1) := by decide +kernel
theorem dL_holds_211 : decode cL_holds 211 = .ok (.iadd, 1) := by decide +kernel
theorem dL_holds_212 : decode cL_holds 212 = .ok (.imul, 1) := by decide +kernel
theorem dL_holds_213 : decode cL_holds 213 = .ok (.iconst 2, 1) := by decide +kernel
theorem dL_holds_214 : decode cL_holds 214 = .ok (.idiv, 1) := by decide +kernel
theorem dL_holds_215 : decode cL_holds 215 = .ok (.isub, 1) := by decide +kernel
theorem dL_holds_216 : decode cL_holds 216 = .ok (.imul, 1) := by decide +kernel
theorem dL_holds_217 : decode cL_holds 217 = .ok (.iadd, 1) := by decide +kernel
theorem dL_holds_218 : decode cL_holds 218 = .ok (.if_icmp .ne 7, 3) := by decide +kernel
theorem dL_holds_221 : decode cL_holds 221 = .ok (.iconst 1, 1) := by decide +kernel
theorem dL_holds_222 : decode cL_holds 222 = .ok (.goto 4, 3) := by decide +kernel
theorem dL_holds_225 : decode cL_holds 225 = .ok (.iconst 0, 1) := by decide +kernel
theorem dL_holds_226 : decode cL_holds 226 = .ok (.istore 5, 2) := by decide +kernel
theorem dL_holds_228 : decode cL_holds 228 = .ok (.iinc 6 1, 3) := by decide +kernel
theorem dL_holds_231 : decode cL_holds 231 = .ok (.goto (-218), 3) := by decide +kernel
theorem dL_holds_234 : decode cL_holds 234 = .ok (.aload_n 0, 1) := by decide +kernel
theorem dL_holds_235 : decode cL_holds 235 = .ok (.iconst 2, 1) := by decide +kernel
theorem dL_holds_236 : decode cL_holds 236 = .ok (.iconst 2, 1) := by decide +kernel
theorem dL_holds_237 : decode cL_holds 237 = .ok (.iconst 0, 1) := by decide +kernel
theorem dL_holds_238 : decode cL_holds 238 = .ok (.iconst 0, 1) := by decide +kernel
theorem dL_holds_239 : decode cL_holds 239 = .ok (.invokestatic 132, 3) := by decide +kernel
theorem dL_holds_242 : decode cL_holds 242 = .ok (.istore 6, 2) := by decide +kernel
theorem dL_holds_244 : decode cL_holds 244 = .ok (.aload_n 0, 1) := by decide +kernel
theorem dL_holds_245 : decode cL_holds 245 = .ok (.iconst 2, 1) := by decide +kernel
theorem dL_holds_246 : decode cL_holds 246 = .ok (.iconst 0, 1) := by decide +kernel
theorem dL_holds_247 : decode cL_holds 247 = .ok (.iconst 0, 1) := by decide +kernel
theorem dL_holds_248 : decode cL_holds 248 = .ok (.iconst 0, 1) := by decide +kernel
theorem dL_holds_249 : decode cL_holds 249 = .ok (.invokestatic 132, 3) := by decide +kernel
theorem dL_holds_252 : decode cL_holds 252 = .ok (.istore 7, 2) := by decide +kernel
theorem dL_holds_254 : decode cL_holds 254 = .ok (.iconst 0, 1) := by decide +kernel
theorem dL_holds_255 : decode cL_holds 255 = .ok (.istore 8, 2) := by decide +kernel
theorem dL_holds_257 : decode cL_holds 257 = .ok (.iconst 0, 1) := by decide +kernel
theorem dL_holds_258 : decode cL_holds 258 = .ok (.istore 9, 2) := by decide +kernel
theorem dL_holds_260 : decode cL_holds 260 = .ok (.iconst 0, 1) := by decide +kernel
theorem dL_holds_261 : decode cL_holds 261 = .ok (.istore 10, 2) := by decide +kernel
theorem dL_holds_263 : decode cL_holds 263 = .ok (.aload_n 0, 1) := by decide +kernel
theorem dL_holds_264 : decode cL_holds 264 = .ok (.iconst 2, 1) := by decide +kernel
theorem dL_holds_265 : decode cL_holds 265 = .ok (.bipush 9, 2) := by decide +kernel
theorem dL_holds_267 : decode cL_holds 267 = .ok (.iconst 0, 1) := by decide +kernel
theorem dL_holds_268 : decode cL_holds 268 = .ok (.iconst 0, 1) := by decide +kernel
theorem dL_holds_269 : decode cL_holds 269 = .ok (.invokestatic 132, 3) := by decide +kernel
theorem dL_holds_272 : decode cL_holds 272 = .ok (.istore 11, 2) := by decide +kernel
theorem dL_holds_274 : decode cL_holds 274 = .ok (.iconst 0, 1) := by decide +kernel
theorem dL_holds_275 : decode cL_holds 275 = .ok (.istore 12, 2) := by decide +kernel
theorem dL_holds_277 : decode cL_holds 277 = .ok (.iload 12, 2) := by decide +kernel
theorem dL_holds_279 : decode cL_holds 279 = .ok (.iload 6, 2) := by decide +kernel
theorem dL_holds_281 : decode cL_holds 281 = .ok (.if_icmp .ge 61, 3) := by decide +kernel
theorem dL_holds_284 : decode cL_holds 284 = .ok (.iload 5, 2) := by decide +kernel
theorem dL_holds_286 : decode cL_holds 286 = .ok (.ifCond .eq 56, 3) := by decide +kernel
theorem dL_holds_289 : decode cL_holds 289 = .ok (.iload 8, 2) := by decide +kernel
theorem dL_holds_291 : decode cL_holds 291 = .ok (.aload_n 0, 1) := by decide +kernel
theorem dL_holds_292 : decode cL_holds 292 = .ok (.iconst 5, 1) := by decide +kernel
theorem dL_holds_293 : decode cL_holds 293 = .ok (.iload 12, 2) := by decide +kernel
theorem dL_holds_295 : decode cL_holds 295 = .ok (.iconst 0, 1) := by decide +kernel
theorem dL_holds_296 : decode cL_holds 296 = .ok (.iconst 0, 1) := by decide +kernel
theorem dL_holds_297 : decode cL_holds 297 = .ok (.invokestatic 132, 3) := by decide +kernel
theorem dL_holds_300 : decode cL_holds 300 = .ok (.iadd, 1) := by decide +kernel
theorem dL_holds_301 : decode cL_holds 301 = .ok (.istore 8, 2) := by decide +kernel
theorem dL_holds_303 : decode cL_holds 303 = .ok (.aload_n 0, 1) := by decide +kernel
theorem dL_holds_304 : decode cL_holds 304 = .ok (.iconst 5, 1) := by decide +kernel
theorem dL_holds_305 : decode cL_holds 305 = .ok (.iload 12, 2) := by decide +kernel
theorem dL_holds_307 : decode cL_holds 307 = .ok (.iconst 0, 1) := by decide +kernel
theorem dL_holds_308 : decode cL_holds 308 = .ok (.iconst 0, 1) := by decide +kernel
theorem dL_holds_309 : decode cL_holds 309 = .ok (.invokestatic 132, 3) := by decide +kernel
theorem dL_holds_312 : decode cL_holds 312 = .ok (.ifCond .lt 21, 3) := by decide +kernel
theorem dL_holds_315 : decode cL_holds 315 = .ok (.aload_n 0, 1) := by decide +kernel
theorem dL_holds_316 : decode cL_holds 316 = .ok (.iconst 5, 1) := by decide +kernel
theorem dL_holds_317 : decode cL_holds 317 = .ok (.iload 12, 2) := by decide +kernel
theorem dL_holds_319 : decode cL_holds 319 = .ok (.iconst 0, 1) := by decide +kernel
theorem dL_holds_320 : decode cL_holds 320 = .ok (.iconst 0, 1) := by decide +kernel
theorem dL_holds_321 : decode cL_holds 321 = .ok (.invokestatic 132, 3) := by decide +kernel
theorem dL_holds_324 : decode cL_holds 324 = .ok (.bipush 10, 2) := by decide +kernel
theorem dL_holds_326 : decode cL_holds 326 = .ok (.if_icmp .gt 7, 3) := by decide +kernel
theorem dL_holds_329 : decode cL_holds 329 = .ok (.iconst 1, 1) := by decide +kernel
theorem dL_holds_330 : decode cL_holds 330 = .ok (.goto 4, 3) := by decide +kernel
theorem dL_holds_333 : decode cL_holds 333 = .ok (.iconst 0, 1) := by decide +kernel
theorem dL_holds_334 : decode cL_holds 334 = .ok (.istore 5, 2) := by decide +kernel
theorem dL_holds_336 : decode cL_holds 336 = .ok (.iinc 12 1, 3) := by decide +kernel
theorem dL_holds_339 : decode cL_holds 339 = .ok (.goto (-62), 3) := by decide +kernel
theorem dL_holds_342 : decode cL_holds 342 = .ok (.iconst 0, 1) := by decide +kernel
theorem dL_holds_343 : decode cL_holds 343 = .ok (.istore 12, 2) := by decide +kernel
theorem dL_holds_345 : decode cL_holds 345 = .ok (.iload 12, 2) := by decide +kernel
theorem dL_holds_347 : decode cL_holds 347 = .ok (.bipush 10, 2) := by decide +kernel
theorem dL_holds_349 : decode cL_holds 349 = .ok (.if_icmp .ge 175, 3) := by decide +kernel
theorem dL_holds_352 : decode cL_holds 352 = .ok (.iload 5, 2) := by decide +kernel
theorem dL_holds_354 : decode cL_holds 354 = .ok (.ifCond .eq 170, 3) := by decide +kernel
theorem dL_holds_357 : decode cL_holds 357 = .ok (.aload_n 0, 1) := by decide +kernel
theorem dL_holds_358 : decode cL_holds 358 = .ok (.iconst 4, 1) := by decide +kernel
theorem dL_holds_359 : decode cL_holds 359 = .ok (.iload 12, 2) := by decide +kernel
theorem dL_holds_361 : decode cL_holds 361 = .ok (.iconst 0, 1) := by decide +kernel
theorem dL_holds_362 : decode cL_holds 362 = .ok (.iconst 0, 1) := by decide +kernel
theorem dL_holds_363 : decode cL_holds 363 = .ok (.invokestatic 132, 3) := by decide +kernel
theorem dL_holds_366 : decode cL_holds 366 = .ok (.istore 13, 2) := by decide +kernel
theorem dL_holds_368 : decode cL_holds 368 = .ok (.aload_n 0, 1) := by decide +kernel
theorem dL_holds_369 : decode cL_holds 369 = .ok (.iconst 4, 1) := by decide +kernel
theorem dL_holds_370 : decode cL_holds 370 = .ok (.iload 12, 2) := by decide +kernel
theorem dL_holds_372 : decode cL_holds 372 = .ok (.iconst 1, 1) := by decide +kernel
theorem dL_holds_373 : decode cL_holds 373 = .ok (.iconst 0, 1) := by decide +kernel
theorem dL_holds_374 : decode cL_holds 374 = .ok (.invokestatic 132, 3) := by decide +kernel
theorem dL_holds_377 : decode cL_holds 377 = .ok (.istore 14, 2) := by decide +kernel
theorem dL_holds_379 : decode cL_holds 379 = .ok (.aload_n 0, 1) := by decide +kernel
theorem dL_holds_380 : decode cL_holds 380 = .ok (.iconst 4, 1) := by decide +kernel
theorem dL_holds_381 : decode cL_holds 381 = .ok (.iload 12, 2) := by decide +kernel
theorem dL_holds_383 : decode cL_holds 383 = .ok (.iconst 2, 1) := by decide +kernel
theorem dL_holds_384 : decode cL_holds 384 = .ok (.iconst 0, 1) := by decide +kernel
theorem dL_holds_385 : decode cL_holds 385 = .ok (.invokestatic 132, 3) := by decide +kernel
theorem dL_holds_388 : decode cL_holds 388 = .ok (.istore 15, 2) := by decide +kernel
theorem dL_holds_390 : decode cL_holds 390 = .ok (.iload 9, 2) := by decide +kernel
theorem dL_holds_392 : decode cL_holds 392 = .ok (.iload 13, 2) := by decide +kernel
theorem dL_holds_394 : decode cL_holds 394 = .ok (.iadd, 1) := by decide +kernel
theorem dL_holds_395 : decode cL_holds 395 = .ok (.istore 9, 2) := by decide +kernel
theorem dL_holds_397 : decode cL_holds 397 = .ok (.iload 10, 2) := by decide +kernel
theorem dL_holds_399 : decode cL_holds 399 = .ok (.iload 14, 2) := by decide +kernel
theorem dL_holds_401 : decode cL_holds 401 = .ok (.iadd, 1) := by decide +kernel
theorem dL_holds_402 : decode cL_holds 402 = .ok (.istore 10, 2) := by decide +kernel
theorem dL_holds_404 : decode cL_holds 404 = .ok (.iload 13, 2) := by decide +kernel
theorem dL_holds_406 : decode cL_holds 406 = .ok (.iload 12, 2) := by decide +kernel
theorem dL_holds_408 : decode cL_holds 408 = .ok (.bipush 9, 2) := by decide +kernel
theorem dL_holds_410 : decode cL_holds 410 = .ok (.if_icmp .ne 7, 3) := by decide +kernel
theorem dL_holds_413 : decode cL_holds 413 = .ok (.iconst 3, 1) := by decide +kernel
theorem dL_holds_414 : decode cL_holds 414 = .ok (.goto 4, 3) := by decide +kernel
theorem dL_holds_417 : decode cL_holds 417 = .ok (.iconst 2, 1) := by decide +kernel
theorem dL_holds_418 : decode cL_holds 418 = .ok (.if_icmp .gt 97, 3) := by decide +kernel
theorem dL_holds_421 : decode cL_holds 421 = .ok (.iload 12, 2) := by decide +kernel
theorem dL_holds_423 : decode cL_holds 423 = .ok (.iload 7, 2) := by decide +kernel
theorem dL_holds_425 : decode cL_holds 425 = .ok (.if_icmp .le 8, 3) := by decide +kernel
theorem dL_holds_428 : decode cL_holds 428 = .ok (.iload 13, 2) := by decide +kernel
theorem dL_holds_430 : decode cL_holds 430 = .ok (.ifCond .ne 85, 3) := by decide +kernel
theorem dL_holds_433 : decode cL_holds 433 = .ok (.iload 14, 2) := by decide +kernel
theorem dL_holds_435 : decode cL_holds 435 = .ok (.bipush 30, 2) := by decide +kernel
theorem dL_holds_437 : decode cL_holds 437 = .ok (.if_icmp .gt 78, 3) := by decide +kernel
theorem dL_holds_440 : decode cL_holds 440 = .ok (.iload 14, 2) := by decide +kernel
theorem dL_holds_442 : decode cL_holds 442 = .ok (.iload 15, 2) := by decide +kernel
theorem dL_holds_444 : decode cL_holds 444 = .ok (.ifCond .le 8, 3) := by decide +kernel
theorem dL_holds_447 : decode cL_holds 447 = .ok (.bipush 10, 2) := by decide +kernel
theorem dL_holds_449 : decode cL_holds 449 = .ok (.goto 4, 3) := by decide +kernel
theorem dL_holds_452 : decode cL_holds 452 = .ok (.iconst 0, 1) := by decide +kernel
theorem dL_holds_453 : decode cL_holds 453 = .ok (.if_icmp .lt 62, 3) := by decide +kernel
theorem dL_holds_456 : decode cL_holds 456 = .ok (.iload 12, 2) := by decide +kernel
theorem dL_holds_458 : decode cL_holds 458 = .ok (.iload 7, 2) := by decide +kernel
theorem dL_holds_460 : decode cL_holds 460 = .ok (.if_icmp .ge 8, 3) := by decide +kernel
theorem dL_holds_463 : decode cL_holds 463 = .ok (.iload 13, 2) := by decide +kernel
theorem dL_holds_465 : decode cL_holds 465 = .ok (.ifCond .le 50, 3) := by decide +kernel
theorem dL_holds_468 : decode cL_holds 468 = .ok (.iload 15, 2) := by decide +kernel
theorem dL_holds_470 : decode cL_holds 470 = .ok (.ifCond .gt 10, 3) := by decide +kernel
theorem dL_holds_473 : decode cL_holds 473 = .ok (.iload 14, 2) := by decide +kernel
theorem dL_holds_475 : decode cL_holds 475 = .ok (.bipush 10, 2) := by decide +kernel
theorem dL_holds_477 : decode cL_holds 477 = .ok (.if_icmp .gt 38, 3) := by decide +kernel
theorem dL_holds_480 : decode cL_holds 480 = .ok (.iload 12, 2) := by decide +kernel
theorem dL_holds_482 : decode cL_holds 482 = .ok (.bipush 9, 2) := by decide +kernel
theorem dL_holds_484 : decode cL_holds 484 = .ok (.if_icmp .eq 15, 3) := by decide +kernel
theorem dL_holds_487 : decode cL_holds 487 = .ok (.iload 15, 2) := by decide +kernel
theorem dL_holds_489 : decode cL_holds 489 = .ok (.iconst 1, 1) := by decide +kernel
theorem dL_holds_490 : decode cL_holds 490 = .ok (.if_icmp .ne 9, 3) := by decide +kernel
theorem dL_holds_493 : decode cL_holds 493 = .ok (.iload 13, 2) := by decide +kernel
theorem dL_holds_495 : decode cL_holds 495 = .ok (.iconst 1, 1) := by decide +kernel
theorem dL_holds_496 : decode cL_holds 496 = .ok (.if_icmp .ne 19, 3) := by decide +kernel
theorem dL_holds_499 : decode cL_holds 499 = .ok (.iload 15, 2) := by decide +kernel
theorem dL_holds_501 : decode cL_holds 501 = .ok (.iconst 2, 1) := by decide +kernel
theorem dL_holds_502 : decode cL_holds 502 = .ok (.if_icmp .ne 9, 3) := by decide +kernel
theorem dL_holds_505 : decode cL_holds 505 = .ok (.iload 13, 2) := by decide +kernel
theorem dL_holds_507 : decode cL_holds 507 = .ok (.iconst 2, 1) := by decide +kernel
theorem dL_holds_508 : decode cL_holds 508 = .ok (.if_icmp .lt 7, 3) := by decide +kernel
theorem dL_holds_511 : decode cL_holds 511 = .ok (.iconst 1, 1) := by decide +kernel
theorem dL_holds_512 : decode cL_holds 512 = .ok (.goto 4, 3) := by decide +kernel
theorem dL_holds_515 : decode cL_holds 515 = .ok (.iconst 0, 1) := by decide +kernel
theorem dL_holds_516 : decode cL_holds 516 = .ok (.istore 5, 2) := by decide +kernel
theorem dL_holds_518 : decode cL_holds 518 = .ok (.iinc 12 1, 3) := by decide +kernel
theorem dL_holds_521 : decode cL_holds 521 = .ok (.goto (-176), 3) := by decide +kernel
theorem dL_holds_524 : decode cL_holds 524 = .ok (.iload 5, 2) := by decide +kernel
theorem dL_holds_526 : decode cL_holds 526 = .ok (.ifCond .eq 133, 3) := by decide +kernel
theorem dL_holds_529 : decode cL_holds 529 = .ok (.aload_n 0, 1) := by decide +kernel
theorem dL_holds_530 : decode cL_holds 530 = .ok (.iconst 2, 1) := by decide +kernel
theorem dL_holds_531 : decode cL_holds 531 = .ok (.bipush 7, 2) := by decide +kernel
theorem dL_holds_533 : decode cL_holds 533 = .ok (.iconst 0, 1) := by decide +kernel
theorem dL_holds_534 : decode cL_holds 534 = .ok (.iconst 0, 1) := by decide +kernel
theorem dL_holds_535 : decode cL_holds 535 = .ok (.invokestatic 132, 3) := by decide +kernel
theorem dL_holds_538 : decode cL_holds 538 = .ok (.iload_n 2, 1) := by decide +kernel
theorem dL_holds_539 : decode cL_holds 539 = .ok (.if_icmp .ne 120, 3) := by decide +kernel
theorem dL_holds_542 : decode cL_holds 542 = .ok (.aload_n 0, 1) := by decide +kernel
theorem dL_holds_543 : decode cL_holds 543 = .ok (.iconst 2, 1) := by decide +kernel
theorem dL_holds_544 : decode cL_holds 544 = .ok (.bipush 8, 2) := by decide +kernel
theorem dL_holds_546 : decode cL_holds 546 = .ok (.iconst 0, 1) := by decide +kernel
theorem dL_holds_547 : decode cL_holds 547 = .ok (.iconst 0, 1) := by decide +kernel
theorem dL_holds_548 : decode cL_holds 548 = .ok (.invokestatic 132, 3) := by decide +kernel
theorem dL_holds_551 : decode cL_holds 551 = .ok (.iload_n 3, 1) := by decide +kernel
theorem dL_holds_552 : decode cL_holds 552 = .ok (.if_icmp .ne 107, 3) := by decide +kernel
theorem dL_holds_555 : decode cL_holds 555 = .ok (.aload_n 0, 1) := by decide +kernel
theorem dL_holds_556 : decode cL_holds 556 = .ok (.invokevirtual 150, 3) := by decide +kernel
theorem dL_holds_559 : decode cL_holds 559 = .ok (.iload 4, 2) := by decide +kernel
theorem dL_holds_561 : decode cL_holds 561 = .ok (.if_icmp .ne 98, 3) := by decide +kernel
theorem dL_holds_564 : decode cL_holds 564 = .ok (.iload 9, 2) := by decide +kernel
theorem dL_holds_566 : decode cL_holds 566 = .ok (.iload 6, 2) := by decide +kernel
theorem dL_holds_568 : decode cL_holds 568 = .ok (.if_icmp .ne 91, 3) := by decide +kernel
theorem dL_holds_571 : decode cL_holds 571 = .ok (.aload_n 0, 1) := by decide +kernel
theorem dL_holds_572 : decode cL_holds 572 = .ok (.iconst 2, 1) := by decide +kernel
theorem dL_holds_573 : decode cL_holds 573 = .ok (.iconst 3, 1) := by decide +kernel
theorem dL_holds_574 : decode cL_holds 574 = .ok (.iconst 0, 1) := by decide +kernel
theorem dL_holds_575 : decode cL_holds 575 = .ok (.iconst 0, 1) := by decide +kernel
theorem dL_holds_576 : decode cL_holds 576 = .ok (.invokestatic 132, 3) := by decide +kernel
theorem dL_holds_579 : decode cL_holds 579 = .ok (.iload 10, 2) := by decide +kernel
theorem dL_holds_581 : decode cL_holds 581 = .ok (.if_icmp .ne 78, 3) := by decide +kernel
theorem dL_holds_584 : decode cL_holds 584 = .ok (.iload 10, 2) := by decide +kernel
theorem dL_holds_586 : decode cL_holds 586 = .ok (.iload 8, 2) := by decide +kernel
theorem dL_holds_588 : decode cL_holds 588 = .ok (.if_icmp .lt 71, 3) := by decide +kernel
theorem dL_holds_591 : decode cL_holds 591 = .ok (.iload 11, 2) := by decide +kernel
theorem dL_holds_593 : decode cL_holds 593 = .ok (.iconst 1, 1) := by decide +kernel
theorem dL_holds_594 : decode cL_holds 594 = .ok (.if_icmp .ne 7, 3) := by decide +kernel
theorem dL_holds_597 : decode cL_holds 597 = .ok (.iconst 1, 1) := by decide +kernel
theorem dL_holds_598 : decode cL_holds 598 = .ok (.goto 4, 3) := by decide +kernel
theorem dL_holds_601 : decode cL_holds 601 = .ok (.iconst 0, 1) := by decide +kernel
theorem dL_holds_602 : decode cL_holds 602 = .ok (.iload 7, 2) := by decide +kernel
theorem dL_holds_604 : decode cL_holds 604 = .ok (.bipush 10, 2) := by decide +kernel
theorem dL_holds_606 : decode cL_holds 606 = .ok (.if_icmp .ne 7, 3) := by decide +kernel
theorem dL_holds_609 : decode cL_holds 609 = .ok (.iconst 1, 1) := by decide +kernel
theorem dL_holds_610 : decode cL_holds 610 = .ok (.goto 4, 3) := by decide +kernel
theorem dL_holds_613 : decode cL_holds 613 = .ok (.iconst 0, 1) := by decide +kernel
theorem dL_holds_614 : decode cL_holds 614 = .ok (.if_icmp .ne 45, 3) := by decide +kernel
theorem dL_holds_617 : decode cL_holds 617 = .ok (.aload_n 0, 1) := by decide +kernel
theorem dL_holds_618 : decode cL_holds 618 = .ok (.iconst 2, 1) := by decide +kernel
theorem dL_holds_619 : decode cL_holds 619 = .ok (.iconst 1, 1) := by decide +kernel
theorem dL_holds_620 : decode cL_holds 620 = .ok (.iconst 0, 1) := by decide +kernel
theorem dL_holds_621 : decode cL_holds 621 = .ok (.iconst 0, 1) := by decide +kernel
theorem dL_holds_622 : decode cL_holds 622 = .ok (.invokestatic 132, 3) := by decide +kernel
theorem dL_holds_625 : decode cL_holds 625 = .ok (.iload 11, 2) := by decide +kernel
theorem dL_holds_627 : decode cL_holds 627 = .ok (.iconst 1, 1) := by decide +kernel
theorem dL_holds_628 : decode cL_holds 628 = .ok (.if_icmp .ne 7, 3) := by decide +kernel
theorem dL_holds_631 : decode cL_holds 631 = .ok (.iconst 0, 1) := by decide +kernel
theorem dL_holds_632 : decode cL_holds 632 = .ok (.goto 12, 3) := by decide +kernel
theorem dL_holds_635 : decode cL_holds 635 = .ok (.aload_n 0, 1) := by decide +kernel
theorem dL_holds_636 : decode cL_holds 636 = .ok (.iconst 4, 1) := by decide +kernel
theorem dL_holds_637 : decode cL_holds 637 = .ok (.iload 7, 2) := by decide +kernel
theorem dL_holds_639 : decode cL_holds 639 = .ok (.iconst 0, 1) := by decide +kernel
theorem dL_holds_640 : decode cL_holds 640 = .ok (.iconst 0, 1) := by decide +kernel
theorem dL_holds_641 : decode cL_holds 641 = .ok (.invokestatic 132, 3) := by decide +kernel
theorem dL_holds_644 : decode cL_holds 644 = .ok (.if_icmp .ne 15, 3) := by decide +kernel
theorem dL_holds_647 : decode cL_holds 647 = .ok (.aload_n 0, 1) := by decide +kernel
theorem dL_holds_648 : decode cL_holds 648 = .ok (.iload_n 1, 1) := by decide +kernel
theorem dL_holds_649 : decode cL_holds 649 = .ok (.invokestatic 153, 3) := by decide +kernel
theorem dL_holds_652 : decode cL_holds 652 = .ok (.ifCond .eq 7, 3) := by decide +kernel
theorem dL_holds_655 : decode cL_holds 655 = .ok (.iconst 1, 1) := by decide +kernel
theorem dL_holds_656 : decode cL_holds 656 = .ok (.goto 4, 3) := by decide +kernel
theorem dL_holds_659 : decode cL_holds 659 = .ok (.iconst 0, 1) := by decide +kernel
theorem dL_holds_660 : decode cL_holds 660 = .ok (.ireturn, 1) := by decide +kernel
theorem dL_balls_0 : decode cL_balls 0 = .ok (.iload_n 1, 1) := by decide +kernel
theorem dL_balls_1 : decode cL_balls 1 = .ok (.iconst 5, 1) := by decide +kernel
theorem dL_balls_2 : decode cL_balls 2 = .ok (.irem, 1) := by decide +kernel
theorem dL_balls_3 : decode cL_balls 3 = .ok (.iconst 2, 1) := by decide +kernel
theorem dL_balls_4 : decode cL_balls 4 = .ok (.isub, 1) := by decide +kernel
theorem dL_balls_5 : decode cL_balls 5 = .ok (.istore_n 2, 1) := by decide +kernel
theorem dL_balls_6 : decode cL_balls 6 = .ok (.iload_n 1, 1) := by decide +kernel
theorem dL_balls_7 : decode cL_balls 7 = .ok (.iconst 5, 1) := by decide +kernel
theorem dL_balls_8 : decode cL_balls 8 = .ok (.idiv, 1) := by decide +kernel
theorem dL_balls_9 : decode cL_balls 9 = .ok (.bipush 41, 2) := by decide +kernel
theorem dL_balls_11 : decode cL_balls 11 = .ok (.irem, 1) := by decide +kernel
theorem dL_balls_12 : decode cL_balls 12 = .ok (.istore_n 3, 1) := by decide +kernel
theorem dL_balls_13 : decode cL_balls 13 = .ok (.aload_n 0, 1) := by decide +kernel
theorem dL_balls_14 : decode cL_balls 14 = .ok (.bipush 11, 2) := by decide +kernel
theorem dL_balls_16 : decode cL_balls 16 = .ok (.iload_n 2, 1) := by decide +kernel
theorem dL_balls_17 : decode cL_balls 17 = .ok (.iconst 0, 1) := by decide +kernel
theorem dL_balls_18 : decode cL_balls 18 = .ok (.iconst 0, 1) := by decide +kernel
theorem dL_balls_19 : decode cL_balls 19 = .ok (.invokestatic 132, 3) := by decide +kernel
theorem dL_balls_22 : decode cL_balls 22 = .ok (.istore 4, 2) := by decide +kernel
theorem dL_balls_24 : decode cL_balls 24 = .ok (.aload_n 0, 1) := by decide +kernel
theorem dL_balls_25 : decode cL_balls 25 = .ok (.bipush 10, 2) := by decide +kernel
theorem dL_balls_27 : decode cL_balls 27 = .ok (.iload_n 3, 1) := by decide +kernel
theorem dL_balls_28 : decode cL_balls 28 = .ok (.iload_n 2, 1) := by decide +kernel
theorem dL_balls_29 : decode cL_balls 29 = .ok (.iconst 0, 1) := by decide +kernel
theorem dL_balls_30 : decode cL_balls 30 = .ok (.invokestatic 132, 3) := by decide +kernel
theorem dL_balls_33 : decode cL_balls 33 = .ok (.istore 5, 2) := by decide +kernel
theorem dL_balls_35 : decode cL_balls 35 = .ok (.aload_n 0, 1) := by decide +kernel
theorem dL_balls_36 : decode cL_balls 36 = .ok (.bipush 10, 2) := by decide +kernel
theorem dL_balls_38 : decode cL_balls 38 = .ok (.iload_n 3, 1) := by decide +kernel
theorem dL_balls_39 : decode cL_balls 39 = .ok (.iload_n 2, 1) := by decide +kernel
theorem dL_balls_40 : decode cL_balls 40 = .ok (.iconst 1, 1) := by decide +kernel
theorem dL_balls_41 : decode cL_balls 41 = .ok (.invokestatic 132, 3) := by decide +kernel
theorem dL_balls_44 : decode cL_balls 44 = .ok (.istore 6, 2) := by decide +kernel
theorem dL_balls_46 : decode cL_balls 46 = .ok (.aload_n 0, 1) := by decide +kernel
theorem dL_balls_47 : decode cL_balls 47 = .ok (.bipush 10, 2) := by decide +kernel
theorem dL_balls_49 : decode cL_balls 49 = .ok (.iload_n 3, 1) := by decide +kernel
theorem dL_balls_50 : decode cL_balls 50 = .ok (.iload_n 2, 1) := by decide +kernel
theorem dL_balls_51 : decode cL_balls 51 = .ok (.iconst 2, 1) := by decide +kernel
theorem dL_balls_52 : decode cL_balls 52 = .ok (.invokestatic 132, 3) := by decide +kernel
theorem dL_balls_55 : decode cL_balls 55 = .ok (.istore 7, 2) := by decide +kernel
theorem dL_balls_57 : decode cL_balls 57 = .ok (.aload_n 0, 1) := by decide +kernel
theorem dL_balls_58 : decode cL_balls 58 = .ok (.bipush 10, 2) := by decide +kernel
theorem dL_balls_60 : decode cL_balls 60 = .ok (.iload 4, 2) := by decide +kernel
theorem dL_balls_62 : decode cL_balls 62 = .ok (.iload_n 2, 1) := by decide +kernel
theorem dL_balls_63 : decode cL_balls 63 = .ok (.iconst 2, 1) := by decide +kernel
theorem dL_balls_64 : decode cL_balls 64 = .ok (.invokestatic 132, 3) := by decide +kernel
theorem dL_balls_67 : decode cL_balls 67 = .ok (.istore 8, 2) := by decide +kernel
theorem dL_balls_69 : decode cL_balls 69 = .ok (.iload 5, 2) := by decide +kernel
theorem dL_balls_71 : decode cL_balls 71 = .ok (.iload 6, 2) := by decide +kernel
theorem dL_balls_73 : decode cL_balls 73 = .ok (.iand, 1) := by decide +kernel
theorem dL_balls_74 : decode cL_balls 74 = .ok (.ifCond .ne 134, 3) := by decide +kernel
theorem dL_balls_77 : decode cL_balls 77 = .ok (.iload 7, 2) := by decide +kernel
theorem dL_balls_79 : decode cL_balls 79 = .ok (.ifCond .lt 129, 3) := by decide +kernel
theorem dL_balls_82 : decode cL_balls 82 = .ok (.iload 7, 2) := by decide +kernel
theorem dL_balls_84 : decode cL_balls 84 = .ok (.aload_n 0, 1) := by decide +kernel
theorem dL_balls_85 : decode cL_balls 85 = .ok (.iconst 2, 1) := by decide +kernel
theorem dL_balls_86 : decode cL_balls 86 = .ok (.bipush 7, 2) := by decide +kernel
theorem dL_balls_88 : decode cL_balls 88 = .ok (.iconst 0, 1) := by decide +kernel
theorem dL_balls_89 : decode cL_balls 89 = .ok (.iconst 0, 1) := by decide +kernel
theorem dL_balls_90 : decode cL_balls 90 = .ok (.invokestatic 132, 3) := by decide +kernel
theorem dL_balls_93 : decode cL_balls 93 = .ok (.if_icmp .gt 115, 3) := by decide +kernel
theorem dL_balls_96 : decode cL_balls 96 = .ok (.aload_n 0, 1) := by decide +kernel
theorem dL_balls_97 : decode cL_balls 97 = .ok (.bipush 10, 2) := by decide +kernel
theorem dL_balls_99 : decode cL_balls 99 = .ok (.iload_n 3, 1) := by decide +kernel
theorem dL_balls_100 : decode cL_balls 100 = .ok (.iload_n 2, 1) := by decide +kernel
theorem dL_balls_101 : decode cL_balls 101 = .ok (.iconst 3, 1) := by decide +kernel
theorem dL_balls_102 : decode cL_balls 102 = .ok (.invokestatic 132, 3) := by decide +kernel
theorem dL_balls_105 : decode cL_balls 105 = .ok (.iload 7, 2) := by decide +kernel
theorem dL_balls_107 : decode cL_balls 107 = .ok (.if_icmp .gt 101, 3) := by decide +kernel
theorem dL_balls_110 : decode cL_balls 110 = .ok (.iload 7, 2) := by decide +kernel
theorem dL_balls_112 : decode cL_balls 112 = .ok (.aload_n 0, 1) := by decide +kernel
theorem dL_balls_113 : decode cL_balls 113 = .ok (.bipush 10, 2) := by decide +kernel
theorem dL_balls_115 : decode cL_balls 115 = .ok (.iload_n 3, 1) := by decide +kernel
theorem dL_balls_116 : decode cL_balls 116 = .ok (.iload_n 2, 1) := by decide +kernel
theorem dL_balls_117 : decode cL_balls 117 = .ok (.iconst 3, 1) := by decide +kernel
theorem dL_balls_118 : decode cL_balls 118 = .ok (.invokestatic 132, 3) := by decide +kernel
theorem dL_balls_121 : decode cL_balls 121 = .ok (.isub, 1) := by decide +kernel
theorem dL_balls_122 : decode cL_balls 122 = .ok (.iload 5, 2) := by decide +kernel
theorem dL_balls_124 : decode cL_balls 124 = .ok (.invokestatic 157, 3) := by decide +kernel
theorem dL_balls_127 : decode cL_balls 127 = .ok (.if_icmp .gt 81, 3) := by decide +kernel
theorem dL_balls_130 : decode cL_balls 130 = .ok (.iload 7, 2) := by decide +kernel
theorem dL_balls_132 : decode cL_balls 132 = .ok (.iload 8, 2) := by decide +kernel
theorem dL_balls_134 : decode cL_balls 134 = .ok (.if_icmp .gt 74, 3) := by decide +kernel
theorem dL_balls_137 : decode cL_balls 137 = .ok (.iload 7, 2) := by decide +kernel
theorem dL_balls_139 : decode cL_balls 139 = .ok (.iload 8, 2) := by decide +kernel
theorem dL_balls_141 : decode cL_balls 141 = .ok (.if_icmp .lt 9, 3) := by decide +kernel
theorem dL_balls_144 : decode cL_balls 144 = .ok (.iload_n 3, 1) := by decide +kernel
theorem dL_balls_145 : decode cL_balls 145 = .ok (.iload 4, 2) := by decide +kernel
theorem dL_balls_147 : decode cL_balls 147 = .ok (.if_icmp .lt 61, 3) := by decide +kernel
theorem dL_balls_150 : decode cL_balls 150 = .ok (.aload_n 0, 1) := by decide +kernel
theorem dL_balls_151 : decode cL_balls 151 = .ok (.bipush 12, 2) := by decide +kernel
theorem dL_balls_153 : decode cL_balls 153 = .ok (.iload_n 3, 1) := by decide +kernel
theorem dL_balls_154 : decode cL_balls 154 = .ok (.iload_n 2, 1) := by decide +kernel
theorem dL_balls_155 : decode cL_balls 155 = .ok (.iconst 0, 1) := by decide +kernel
theorem dL_balls_156 : decode cL_balls 156 = .ok (.invokestatic 132, 3) := by decide +kernel
theorem dL_balls_159 : decode cL_balls 159 = .ok (.aload_n 0, 1) := by decide +kernel
theorem dL_balls_160 : decode cL_balls 160 = .ok (.iconst 2, 1) := by decide +kernel
theorem dL_balls_161 : decode cL_balls 161 = .ok (.iconst 3, 1) := by decide +kernel
theorem dL_balls_162 : decode cL_balls 162 = .ok (.iconst 0, 1) := by decide +kernel
theorem dL_balls_163 : decode cL_balls 163 = .ok (.iconst 0, 1) := by decide +kernel
theorem dL_balls_164 : decode cL_balls 164 = .ok (.invokestatic 132, 3) := by decide +kernel
theorem dL_balls_167 : decode cL_balls 167 = .ok (.if_icmp .lt 41, 3) := by decide +kernel
theorem dL_balls_170 : decode cL_balls 170 = .ok (.aload_n 0, 1) := by decide +kernel
theorem dL_balls_171 : decode cL_balls 171 = .ok (.bipush 12, 2) := by decide +kernel
theorem dL_balls_173 : decode cL_balls 173 = .ok (.iload_n 3, 1) := by decide +kernel
theorem dL_balls_174 : decode cL_balls 174 = .ok (.iload_n 2, 1) := by decide +kernel
theorem dL_balls_175 : decode cL_balls 175 = .ok (.iconst 0, 1) := by decide +kernel
theorem dL_balls_176 : decode cL_balls 176 = .ok (.invokestatic 132, 3) := by decide +kernel
theorem dL_balls_179 : decode cL_balls 179 = .ok (.sipush 300, 3) := by decide +kernel
theorem dL_balls_182 : decode cL_balls 182 = .ok (.if_icmp .gt 26, 3) := by decide +kernel
theorem dL_balls_185 : decode cL_balls 185 = .ok (.bipush 90, 2) := by decide +kernel
theorem dL_balls_187 : decode cL_balls 187 = .ok (.aload_n 0, 1) := by decide +kernel
theorem dL_balls_188 : decode cL_balls 188 = .ok (.invokevirtual 160, 3) := by decide +kernel
theorem dL_balls_191 : decode cL_balls 191 = .ok (.idiv, 1) := by decide +kernel
theorem dL_balls_192 : decode cL_balls 192 = .ok (.aload_n 0, 1) := by decide +kernel
theorem dL_balls_193 : decode cL_balls 193 = .ok (.bipush 6, 2) := by decide +kernel
theorem dL_balls_195 : decode cL_balls 195 = .ok (.iconst 0, 1) := by decide +kernel
theorem dL_balls_196 : decode cL_balls 196 = .ok (.iconst 0, 1) := by decide +kernel
theorem dL_balls_197 : decode cL_balls 197 = .ok (.iconst 0, 1) := by decide +kernel
theorem dL_balls_198 : decode cL_balls 198 = .ok (.invokestatic 132, 3) := by decide +kernel
theorem dL_balls_201 : decode cL_balls 201 = .ok (.if_icmp .gt 7, 3) := by decide +kernel
theorem dL_balls_204 : decode cL_balls 204 = .ok (.iconst 1, 1) := by decide +kernel
theorem dL_balls_205 : decode cL_balls 205 = .ok (.goto 4, 3) := by decide +kernel
theorem dL_balls_208 : decode cL_balls 208 = .ok (.iconst 0, 1) := by decide +kernel
theorem dL_balls_209 : decode cL_balls 209 = .ok (.ireturn, 1) := by decide +kernel
theorem dL_act_0 : decode cL_act 0 = .ok (.iload_n 1, 1) := by decide +kernel
theorem dL_act_1 : decode cL_act 1 = .ok (.bipush 16, 2) := by decide +kernel
theorem dL_act_3 : decode cL_act 3 = .ok (.irem, 1) := by decide +kernel
theorem dL_act_4 : decode cL_act 4 = .ok (.tableswitch 165 0 6 #[44, 44, 66, 87, 113, 128, 143], 44) := by decide +kernel
theorem dL_act_48 : decode cL_act 48 = .ok (.aload_n 0, 1) := by decide +kernel
theorem dL_act_49 : decode cL_act 49 = .ok (.bipush 7, 2) := by decide +kernel
theorem dL_act_51 : decode cL_act 51 = .ok (.iload_n 1, 1) := by decide +kernel
theorem dL_act_52 : decode cL_act 52 = .ok (.bipush 16, 2) := by decide +kernel
theorem dL_act_54 : decode cL_act 54 = .ok (.idiv, 1) := by decide +kernel
theorem dL_act_55 : decode cL_act 55 = .ok (.bipush 10, 2) := by decide +kernel
theorem dL_act_57 : decode cL_act 57 = .ok (.irem, 1) := by decide +kernel
theorem dL_act_58 : decode cL_act 58 = .ok (.iload_n 1, 1) := by decide +kernel
theorem dL_act_59 : decode cL_act 59 = .ok (.sipush 160, 3) := by decide +kernel
theorem dL_act_62 : decode cL_act 62 = .ok (.idiv, 1) := by decide +kernel
theorem dL_act_63 : decode cL_act 63 = .ok (.iconst 4, 1) := by decide +kernel
theorem dL_act_64 : decode cL_act 64 = .ok (.irem, 1) := by decide +kernel
theorem dL_act_65 : decode cL_act 65 = .ok (.iconst 0, 1) := by decide +kernel
theorem dL_act_66 : decode cL_act 66 = .ok (.invokestatic 132, 3) := by decide +kernel
theorem dL_act_69 : decode cL_act 69 = .ok (.ireturn, 1) := by decide +kernel
theorem dL_act_70 : decode cL_act 70 = .ok (.aload_n 0, 1) := by decide +kernel
theorem dL_act_71 : decode cL_act 71 = .ok (.bipush 8, 2) := by decide +kernel
theorem dL_act_73 : decode cL_act 73 = .ok (.iload_n 1, 1) := by decide +kernel
theorem dL_act_74 : decode cL_act 74 = .ok (.bipush 16, 2) := by decide +kernel
theorem dL_act_76 : decode cL_act 76 = .ok (.idiv, 1) := by decide +kernel
theorem dL_act_77 : decode cL_act 77 = .ok (.iconst 3, 1) := by decide +kernel
theorem dL_act_78 : decode cL_act 78 = .ok (.irem, 1) := by decide +kernel
theorem dL_act_79 : decode cL_act 79 = .ok (.iload_n 1, 1) := by decide +kernel
theorem dL_act_80 : decode cL_act 80 = .ok (.bipush 48, 2) := by decide +kernel
theorem dL_act_82 : decode cL_act 82 = .ok (.idiv, 1) := by decide +kernel
theorem dL_act_83 : decode cL_act 83 = .ok (.bipush 25, 2) := by decide +kernel
theorem dL_act_85 : decode cL_act 85 = .ok (.irem, 1) := by decide +kernel
theorem dL_act_86 : decode cL_act 86 = .ok (.iconst 0, 1) := by decide +kernel
theorem dL_act_87 : decode cL_act 87 = .ok (.invokestatic 132, 3) := by decide +kernel
theorem dL_act_90 : decode cL_act 90 = .ok (.ireturn, 1) := by decide +kernel
theorem dL_act_91 : decode cL_act 91 = .ok (.aload_n 0, 1) := by decide +kernel
theorem dL_act_92 : decode cL_act 92 = .ok (.iconst 2, 1) := by decide +kernel
theorem dL_act_93 : decode cL_act 93 = .ok (.iconst 2, 1) := by decide +kernel
theorem dL_act_94 : decode cL_act 94 = .ok (.iconst 0, 1) := by decide +kernel
theorem dL_act_95 : decode cL_act 95 = .ok (.iconst 0, 1) := by decide +kernel
theorem dL_act_96 : decode cL_act 96 = .ok (.invokestatic 132, 3) := by decide +kernel
theorem dL_act_99 : decode cL_act 99 = .ok (.iconst 2, 1) := by decide +kernel
theorem dL_act_100 : decode cL_act 100 = .ok (.if_icmp .ge 7, 3) := by decide +kernel
theorem dL_act_103 : decode cL_act 103 = .ok (.iconst (-1), 1) := by decide +kernel
theorem dL_act_104 : decode cL_act 104 = .ok (.goto 12, 3) := by decide +kernel
theorem dL_act_107 : decode cL_act 107 = .ok (.aload_n 0, 1) := by decide +kernel
theorem dL_act_108 : decode cL_act 108 = .ok (.bipush 9, 2) := by decide +kernel
theorem dL_act_110 : decode cL_act 110 = .ok (.iconst 0, 1) := by decide +kernel
theorem dL_act_111 : decode cL_act 111 = .ok (.iconst 0, 1) := by decide +kernel
theorem dL_act_112 : decode cL_act 112 = .ok (.iconst 0, 1) := by decide +kernel
theorem dL_act_113 : decode cL_act 113 = .ok (.invokestatic 132, 3) := by decide +kernel
theorem dL_act_116 : decode cL_act 116 = .ok (.ireturn, 1) := by decide +kernel
theorem dL_act_117 : decode cL_act 117 = .ok (.aload_n 0, 1) := by decide +kernel
theorem dL_act_118 : decode cL_act 118 = .ok (.bipush 13, 2) := by decide +kernel
theorem dL_act_120 : decode cL_act 120 = .ok (.iload_n 1, 1) := by decide +kernel
theorem dL_act_121 : decode cL_act 121 = .ok (.bipush 16, 2) := by decide +kernel
theorem dL_act_123 : decode cL_act 123 = .ok (.idiv, 1) := by decide +kernel
theorem dL_act_124 : decode cL_act 124 = .ok (.iconst 2, 1) := by decide +kernel
theorem dL_act_125 : decode cL_act 125 = .ok (.irem, 1) := by decide +kernel
theorem dL_act_126 : decode cL_act 126 = .ok (.iconst 0, 1) := by decide +kernel
theorem dL_act_127 : decode cL_act 127 = .ok (.iconst 0, 1) := by decide +kernel
theorem dL_act_128 : decode cL_act 128 = .ok (.invokestatic 132, 3) := by decide +kernel
theorem dL_act_131 : decode cL_act 131 = .ok (.ireturn, 1) := by decide +kernel
theorem dL_act_132 : decode cL_act 132 = .ok (.aload_n 0, 1) := by decide +kernel
theorem dL_act_133 : decode cL_act 133 = .ok (.bipush 14, 2) := by decide +kernel
theorem dL_act_135 : decode cL_act 135 = .ok (.iload_n 1, 1) := by decide +kernel
theorem dL_act_136 : decode cL_act 136 = .ok (.bipush 16, 2) := by decide +kernel
theorem dL_act_138 : decode cL_act 138 = .ok (.idiv, 1) := by decide +kernel
theorem dL_act_139 : decode cL_act 139 = .ok (.iconst 2, 1) := by decide +kernel
theorem dL_act_140 : decode cL_act 140 = .ok (.irem, 1) := by decide +kernel
