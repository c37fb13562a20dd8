theorem dX11_bestShip_105 : decode cX11_bestShip 105 = .ok (.istore 6, 2) := by decide +kernel
theorem dX11_bestShip_107 : decode cX11_bestShip 107 = .ok (.iload 6, 2) := by decide +kernel
theorem dX11_bestShip_109 : decode cX11_bestShip 109 = .ok (.ifCond .eq 8, 3) := by decide +kernel
theorem dX11_bestShip_112 : decode cX11_bestShip 112 = .ok (.iload 4, 2) := by decide +kernel
theorem dX11_bestShip_114 : decode cX11_bestShip 114 = .ok (.goto 4, 3) := by decide +kernel
theorem dX11_bestShip_117 : decode cX11_bestShip 117 = .ok (.iload_n 1, 1) := by decide +kernel
theorem dX11_bestShip_118 : decode cX11_bestShip 118 = .ok (.istore_n 1, 1) := by decide +kernel
theorem dX11_bestShip_119 : decode cX11_bestShip 119 = .ok (.iload 6, 2) := by decide +kernel
theorem dX11_bestShip_121 : decode cX11_bestShip 121 = .ok (.ifCond .eq 8, 3) := by decide +kernel
theorem dX11_bestShip_124 : decode cX11_bestShip 124 = .ok (.iload 5, 2) := by decide +kernel
theorem dX11_bestShip_126 : decode cX11_bestShip 126 = .ok (.goto 4, 3) := by decide +kernel
theorem dX11_bestShip_129 : decode cX11_bestShip 129 = .ok (.iload_n 2, 1) := by decide +kernel
theorem dX11_bestShip_130 : decode cX11_bestShip 130 = .ok (.istore_n 2, 1) := by decide +kernel
theorem dX11_bestShip_131 : decode cX11_bestShip 131 = .ok (.iload 6, 2) := by decide +kernel
theorem dX11_bestShip_133 : decode cX11_bestShip 133 = .ok (.ifCond .eq 13, 3) := by decide +kernel
theorem dX11_bestShip_136 : decode cX11_bestShip 136 = .ok (.aload_n 0, 1) := by decide +kernel
theorem dX11_bestShip_137 : decode cX11_bestShip 137 = .ok (.getfield 19, 3) := by decide +kernel
theorem dX11_bestShip_140 : decode cX11_bestShip 140 = .ok (.bipush 19, 2) := by decide +kernel
theorem dX11_bestShip_142 : decode cX11_bestShip 142 = .ok (.iaload, 1) := by decide +kernel
theorem dX11_bestShip_143 : decode cX11_bestShip 143 = .ok (.goto 4, 3) := by decide +kernel
theorem dX11_bestShip_146 : decode cX11_bestShip 146 = .ok (.iload_n 3, 1) := by decide +kernel
theorem dX11_bestShip_147 : decode cX11_bestShip 147 = .ok (.istore_n 3, 1) := by decide +kernel
theorem dX11_bestShip_148 : decode cX11_bestShip 148 = .ok (.iinc 4 1, 3) := by decide +kernel
theorem dX11_bestShip_151 : decode cX11_bestShip 151 = .ok (.goto (-136), 3) := by decide +kernel
theorem dX11_bestShip_154 : decode cX11_bestShip 154 = .ok (.iload_n 1, 1) := by decide +kernel
theorem dX11_bestShip_155 : decode cX11_bestShip 155 = .ok (.ireturn, 1) := by decide +kernel
theorem dX11_extension_0 : decode cX11_extension 0 = .ok (.aload_n 0, 1) := by decide +kernel
theorem dX11_extension_1 : decode cX11_extension 1 = .ok (.aload_n 0, 1) := by decide +kernel
theorem dX11_extension_2 : decode cX11_extension 2 = .ok (.getfield 16, 3) := by decide +kernel
theorem dX11_extension_5 : decode cX11_extension 5 = .ok (.iload_n 1, 1) := by decide +kernel
theorem dX11_extension_6 : decode cX11_extension 6 = .ok (.invokestatic 146, 3) := by decide +kernel
theorem dX11_extension_9 : decode cX11_extension 9 = .ok (.ifCond .eq 7, 3) := by decide +kernel
theorem dX11_extension_12 : decode cX11_extension 12 = .ok (.iconst 0, 1) := by decide +kernel
theorem dX11_extension_13 : decode cX11_extension 13 = .ok (.goto 4, 3) := by decide +kernel
theorem dX11_extension_16 : decode cX11_extension 16 = .ok (.iconst 1, 1) := by decide +kernel
theorem dX11_extension_17 : decode cX11_extension 17 = .ok (.invokevirtual 111, 3) := by decide +kernel
theorem dX11_extension_20 : decode cX11_extension 20 = .ok (.ifCond .eq 5, 3) := by decide +kernel
theorem dX11_extension_23 : decode cX11_extension 23 = .ok (.iconst 0, 1) := by decide +kernel
theorem dX11_extension_24 : decode cX11_extension 24 = .ok (.ireturn, 1) := by decide +kernel
theorem dX11_extension_25 : decode cX11_extension 25 = .ok (.iconst 0, 1) := by decide +kernel
theorem dX11_extension_26 : decode cX11_extension 26 = .ok (.istore_n 2, 1) := by decide +kernel
theorem dX11_extension_27 : decode cX11_extension 27 = .ok (.iload_n 2, 1) := by decide +kernel
theorem dX11_extension_28 : decode cX11_extension 28 = .ok (.bipush 99, 2) := by decide +kernel
theorem dX11_extension_30 : decode cX11_extension 30 = .ok (.if_icmp .gt 55, 3) := by decide +kernel
theorem dX11_extension_33 : decode cX11_extension 33 = .ok (.aload_n 0, 1) := by decide +kernel
theorem dX11_extension_34 : decode cX11_extension 34 = .ok (.getfield 16, 3) := by decide +kernel
theorem dX11_extension_37 : decode cX11_extension 37 = .ok (.iload_n 1, 1) := by decide +kernel
theorem dX11_extension_38 : decode cX11_extension 38 = .ok (.iload_n 2, 1) := by decide +kernel
theorem dX11_extension_39 : decode cX11_extension 39 = .ok (.invokestatic 179, 3) := by decide +kernel
theorem dX11_extension_42 : decode cX11_extension 42 = .ok (.ifCond .eq 43, 3) := by decide +kernel
theorem dX11_extension_45 : decode cX11_extension 45 = .ok (.aload_n 0, 1) := by decide +kernel
theorem dX11_extension_46 : decode cX11_extension 46 = .ok (.getfield 16, 3) := by decide +kernel
theorem dX11_extension_49 : decode cX11_extension 49 = .ok (.iconst 0, 1) := by decide +kernel
theorem dX11_extension_50 : decode cX11_extension 50 = .ok (.aload_n 0, 1) := by decide +kernel
theorem dX11_extension_51 : decode cX11_extension 51 = .ok (.getfield 19, 3) := by decide +kernel
theorem dX11_extension_54 : decode cX11_extension 54 = .ok (.iconst 0, 1) := by decide +kernel
theorem dX11_extension_55 : decode cX11_extension 55 = .ok (.invokestatic 137, 3) := by decide +kernel
theorem dX11_extension_58 : decode cX11_extension 58 = .ok (.aload_n 0, 1) := by decide +kernel
theorem dX11_extension_59 : decode cX11_extension 59 = .ok (.getfield 19, 3) := by decide +kernel
theorem dX11_extension_62 : decode cX11_extension 62 = .ok (.iload_n 1, 1) := by decide +kernel
theorem dX11_extension_63 : decode cX11_extension 63 = .ok (.iload_n 2, 1) := by decide +kernel
theorem dX11_extension_64 : decode cX11_extension 64 = .ok (.invokestatic 182, 3) := by decide +kernel
theorem dX11_extension_67 : decode cX11_extension 67 = .ok (.aload_n 0, 1) := by decide +kernel
theorem dX11_extension_68 : decode cX11_extension 68 = .ok (.iload_n 1, 1) := by decide +kernel
theorem dX11_extension_69 : decode cX11_extension 69 = .ok (.invokevirtual 192, 3) := by decide +kernel
theorem dX11_extension_72 : decode cX11_extension 72 = .ok (.bipush (-9), 2) := by decide +kernel
theorem dX11_extension_74 : decode cX11_extension 74 = .ok (.if_icmp .eq 5, 3) := by decide +kernel
theorem dX11_extension_77 : decode cX11_extension 77 = .ok (.iload_n 2, 1) := by decide +kernel
theorem dX11_extension_78 : decode cX11_extension 78 = .ok (.ireturn, 1) := by decide +kernel
theorem dX11_extension_79 : decode cX11_extension 79 = .ok (.iinc 2 1, 3) := by decide +kernel
theorem dX11_extension_82 : decode cX11_extension 82 = .ok (.goto (-55), 3) := by decide +kernel
theorem dX11_extension_85 : decode cX11_extension 85 = .ok (.bipush (-9), 2) := by decide +kernel
theorem dX11_extension_87 : decode cX11_extension 87 = .ok (.ireturn, 1) := by decide +kernel
theorem dX11_does_0 : decode cX11_does 0 = .ok (.bipush 100, 2) := by decide +kernel
theorem dX11_does_2 : decode cX11_does 2 = .ok (.iload_n 3, 1) := by decide +kernel
theorem dX11_does_3 : decode cX11_does 3 = .ok (.imul, 1) := by decide +kernel
theorem dX11_does_4 : decode cX11_does 4 = .ok (.iload 4, 2) := by decide +kernel
theorem dX11_does_6 : decode cX11_does 6 = .ok (.iadd, 1) := by decide +kernel
theorem dX11_does_7 : decode cX11_does 7 = .ok (.istore 5, 2) := by decide +kernel
theorem dX11_does_9 : decode cX11_does 9 = .ok (.aload_n 0, 1) := by decide +kernel
theorem dX11_does_10 : decode cX11_does 10 = .ok (.getfield 19, 3) := by decide +kernel
theorem dX11_does_13 : decode cX11_does 13 = .ok (.iload_n 2, 1) := by decide +kernel
theorem dX11_does_14 : decode cX11_does 14 = .ok (.invokestatic 152, 3) := by decide +kernel
theorem dX11_does_17 : decode cX11_does 17 = .ok (.istore 6, 2) := by decide +kernel
theorem dX11_does_19 : decode cX11_does 19 = .ok (.iload_n 1, 1) := by decide +kernel
theorem dX11_does_20 : decode cX11_does 20 = .ok (.tableswitch 383 1 9 #[52, 89, 127, 165, 212, 243, 280, 313, 350], 52) := by decide +kernel
theorem dX11_does_72 : decode cX11_does 72 = .ok (.iload 6, 2) := by decide +kernel
theorem dX11_does_74 : decode cX11_does 74 = .ok (.ifCond .eq 21, 3) := by decide +kernel
theorem dX11_does_77 : decode cX11_does 77 = .ok (.iload 5, 2) := by decide +kernel
theorem dX11_does_79 : decode cX11_does 79 = .ok (.ifCond .eq 16, 3) := by decide +kernel
theorem dX11_does_82 : decode cX11_does 82 = .ok (.aload_n 0, 1) := by decide +kernel
theorem dX11_does_83 : decode cX11_does 83 = .ok (.getfield 19, 3) := by decide +kernel
theorem dX11_does_86 : decode cX11_does 86 = .ok (.iload_n 2, 1) := by decide +kernel
theorem dX11_does_87 : decode cX11_does 87 = .ok (.iload 5, 2) := by decide +kernel
theorem dX11_does_89 : decode cX11_does 89 = .ok (.invokestatic 161, 3) := by decide +kernel
theorem dX11_does_92 : decode cX11_does 92 = .ok (.ifCond .ne 5, 3) := by decide +kernel
theorem dX11_does_95 : decode cX11_does 95 = .ok (.iconst 0, 1) := by decide +kernel
theorem dX11_does_96 : decode cX11_does 96 = .ok (.ireturn, 1) := by decide +kernel
theorem dX11_does_97 : decode cX11_does 97 = .ok (.aload_n 0, 1) := by decide +kernel
theorem dX11_does_98 : decode cX11_does 98 = .ok (.getfield 19, 3) := by decide +kernel
theorem dX11_does_101 : decode cX11_does 101 = .ok (.iload_n 2, 1) := by decide +kernel
theorem dX11_does_102 : decode cX11_does 102 = .ok (.iload 5, 2) := by decide +kernel
theorem dX11_does_104 : decode cX11_does 104 = .ok (.invokestatic 100, 3) := by decide +kernel
theorem dX11_does_107 : decode cX11_does 107 = .ok (.iconst 1, 1) := by decide +kernel
theorem dX11_does_108 : decode cX11_does 108 = .ok (.ireturn, 1) := by decide +kernel
theorem dX11_does_109 : decode cX11_does 109 = .ok (.iload 5, 2) := by decide +kernel
theorem dX11_does_111 : decode cX11_does 111 = .ok (.ifCond .ne 34, 3) := by decide +kernel
theorem dX11_does_114 : decode cX11_does 114 = .ok (.iload 6, 2) := by decide +kernel
theorem dX11_does_116 : decode cX11_does 116 = .ok (.ifCond .eq 29, 3) := by decide +kernel
theorem dX11_does_119 : decode cX11_does 119 = .ok (.aload_n 0, 1) := by decide +kernel
theorem dX11_does_120 : decode cX11_does 120 = .ok (.getfield 19, 3) := by decide +kernel
theorem dX11_does_123 : decode cX11_does 123 = .ok (.iload_n 2, 1) := by decide +kernel
theorem dX11_does_124 : decode cX11_does 124 = .ok (.invokestatic 168, 3) := by decide +kernel
theorem dX11_does_127 : decode cX11_does 127 = .ok (.ifCond .eq 18, 3) := by decide +kernel
theorem dX11_does_130 : decode cX11_does 130 = .ok (.aload_n 0, 1) := by decide +kernel
theorem dX11_does_131 : decode cX11_does 131 = .ok (.getfield 19, 3) := by decide +kernel
theorem dX11_does_134 : decode cX11_does 134 = .ok (.iload_n 2, 1) := by decide +kernel
theorem dX11_does_135 : decode cX11_does 135 = .ok (.invokestatic 103, 3) := by decide +kernel
theorem dX11_does_138 : decode cX11_does 138 = .ok (.ifCond .le 7, 3) := by decide +kernel
theorem dX11_does_141 : decode cX11_does 141 = .ok (.iconst 1, 1) := by decide +kernel
theorem dX11_does_142 : decode cX11_does 142 = .ok (.goto 4, 3) := by decide +kernel
theorem dX11_does_145 : decode cX11_does 145 = .ok (.iconst 0, 1) := by decide +kernel
theorem dX11_does_146 : decode cX11_does 146 = .ok (.ireturn, 1) := by decide +kernel
theorem dX11_does_147 : decode cX11_does 147 = .ok (.iload 5, 2) := by decide +kernel
theorem dX11_does_149 : decode cX11_does 149 = .ok (.ifCond .ne 34, 3) := by decide +kernel
theorem dX11_does_152 : decode cX11_does 152 = .ok (.iload 6, 2) := by decide +kernel
theorem dX11_does_154 : decode cX11_does 154 = .ok (.ifCond .eq 29, 3) := by decide +kernel
theorem dX11_does_157 : decode cX11_does 157 = .ok (.aload_n 0, 1) := by decide +kernel
theorem dX11_does_158 : decode cX11_does 158 = .ok (.getfield 19, 3) := by decide +kernel
theorem dX11_does_161 : decode cX11_does 161 = .ok (.iload_n 2, 1) := by decide +kernel
theorem dX11_does_162 : decode cX11_does 162 = .ok (.invokestatic 171, 3) := by decide +kernel
theorem dX11_does_165 : decode cX11_does 165 = .ok (.ifCond .eq 18, 3) := by decide +kernel
theorem dX11_does_168 : decode cX11_does 168 = .ok (.aload_n 0, 1) := by decide +kernel
theorem dX11_does_169 : decode cX11_does 169 = .ok (.getfield 19, 3) := by decide +kernel
theorem dX11_does_172 : decode cX11_does 172 = .ok (.iload_n 2, 1) := by decide +kernel
theorem dX11_does_173 : decode cX11_does 173 = .ok (.invokestatic 174, 3) := by decide +kernel
theorem dX11_does_176 : decode cX11_does 176 = .ok (.ifCond .le 7, 3) := by decide +kernel
theorem dX11_does_179 : decode cX11_does 179 = .ok (.iconst 1, 1) := by decide +kernel
theorem dX11_does_180 : decode cX11_does 180 = .ok (.goto 4, 3) := by decide +kernel
theorem dX11_does_183 : decode cX11_does 183 = .ok (.iconst 0, 1) := by decide +kernel
theorem dX11_does_184 : decode cX11_does 184 = .ok (.ireturn, 1) := by decide +kernel
theorem dX11_does_185 : decode cX11_does 185 = .ok (.iload_n 3, 1) := by decide +kernel
theorem dX11_does_186 : decode cX11_does 186 = .ok (.ifCond .ne 32, 3) := by decide +kernel
theorem dX11_does_189 : decode cX11_does 189 = .ok (.iload 4, 2) := by decide +kernel
theorem dX11_does_191 : decode cX11_does 191 = .ok (.ifCond .eq 27, 3) := by decide +kernel
theorem dX11_does_194 : decode cX11_does 194 = .ok (.aload_n 0, 1) := by decide +kernel
theorem dX11_does_195 : decode cX11_does 195 = .ok (.getfield 19, 3) := by decide +kernel
theorem dX11_does_198 : decode cX11_does 198 = .ok (.iload_n 2, 1) := by decide +kernel
theorem dX11_does_199 : decode cX11_does 199 = .ok (.invokestatic 146, 3) := by decide +kernel
theorem dX11_does_202 : decode cX11_does 202 = .ok (.ifCond .eq 16, 3) := by decide +kernel
theorem dX11_does_205 : decode cX11_does 205 = .ok (.aload_n 0, 1) := by decide +kernel
theorem dX11_does_206 : decode cX11_does 206 = .ok (.getfield 19, 3) := by decide +kernel
theorem dX11_does_209 : decode cX11_does 209 = .ok (.iload_n 2, 1) := by decide +kernel
theorem dX11_does_210 : decode cX11_does 210 = .ok (.iload 4, 2) := by decide +kernel
theorem dX11_does_212 : decode cX11_does 212 = .ok (.invokestatic 179, 3) := by decide +kernel
theorem dX11_does_215 : decode cX11_does 215 = .ok (.ifCond .ne 5, 3) := by decide +kernel
theorem dX11_does_218 : decode cX11_does 218 = .ok (.iconst 0, 1) := by decide +kernel
theorem dX11_does_219 : decode cX11_does 219 = .ok (.ireturn, 1) := by decide +kernel
theorem dX11_does_220 : decode cX11_does 220 = .ok (.aload_n 0, 1) := by decide +kernel
theorem dX11_does_221 : decode cX11_does 221 = .ok (.getfield 19, 3) := by decide +kernel
theorem dX11_does_224 : decode cX11_does 224 = .ok (.iload_n 2, 1) := by decide +kernel
theorem dX11_does_225 : decode cX11_does 225 = .ok (.iload 4, 2) := by decide +kernel
theorem dX11_does_227 : decode cX11_does 227 = .ok (.invokestatic 182, 3) := by decide +kernel
theorem dX11_does_230 : decode cX11_does 230 = .ok (.iconst 1, 1) := by decide +kernel
theorem dX11_does_231 : decode cX11_does 231 = .ok (.ireturn, 1) := by decide +kernel
theorem dX11_does_232 : decode cX11_does 232 = .ok (.iload_n 2, 1) := by decide +kernel
theorem dX11_does_233 : decode cX11_does 233 = .ok (.ifCond .ne 28, 3) := by decide +kernel
theorem dX11_does_236 : decode cX11_does 236 = .ok (.iload_n 3, 1) := by decide +kernel
theorem dX11_does_237 : decode cX11_does 237 = .ok (.ifCond .ne 24, 3) := by decide +kernel
theorem dX11_does_240 : decode cX11_does 240 = .ok (.iload 4, 2) := by decide +kernel
theorem dX11_does_242 : decode cX11_does 242 = .ok (.ifCond .le 19, 3) := by decide +kernel
theorem dX11_does_245 : decode cX11_does 245 = .ok (.aload_n 0, 1) := by decide +kernel
theorem dX11_does_246 : decode cX11_does 246 = .ok (.getfield 19, 3) := by decide +kernel
theorem dX11_does_249 : decode cX11_does 249 = .ok (.iload 4, 2) := by decide +kernel
theorem dX11_does_251 : decode cX11_does 251 = .ok (.invokestatic 189, 3) := by decide +kernel
theorem dX11_does_254 : decode cX11_does 254 = .ok (.ifCond .lt 7, 3) := by decide +kernel
theorem dX11_does_257 : decode cX11_does 257 = .ok (.iconst 1, 1) := by decide +kernel
theorem dX11_does_258 : decode cX11_does 258 = .ok (.goto 4, 3) := by decide +kernel
theorem dX11_does_261 : decode cX11_does 261 = .ok (.iconst 0, 1) := by decide +kernel
theorem dX11_does_262 : decode cX11_does 262 = .ok (.ireturn, 1) := by decide +kernel
theorem dX11_does_263 : decode cX11_does 263 = .ok (.iload_n 2, 1) := by decide +kernel
theorem dX11_does_264 : decode cX11_does 264 = .ok (.ifCond .ne 23, 3) := by decide +kernel
theorem dX11_does_267 : decode cX11_does 267 = .ok (.iload 5, 2) := by decide +kernel
theorem dX11_does_269 : decode cX11_does 269 = .ok (.ifCond .eq 18, 3) := by decide +kernel
theorem dX11_does_272 : decode cX11_does 272 = .ok (.aload_n 0, 1) := by decide +kernel
theorem dX11_does_273 : decode cX11_does 273 = .ok (.getfield 19, 3) := by decide +kernel
theorem dX11_does_276 : decode cX11_does 276 = .ok (.iconst 2, 1) := by decide +kernel
theorem dX11_does_277 : decode cX11_does 277 = .ok (.iaload, 1) := by decide +kernel
theorem dX11_does_278 : decode cX11_does 278 = .ok (.iload 5, 2) := by decide +kernel
theorem dX11_does_280 : decode cX11_does 280 = .ok (.iadd, 1) := by decide +kernel
theorem dX11_does_281 : decode cX11_does 281 = .ok (.sipush 9999, 3) := by decide +kernel
theorem dX11_does_284 : decode cX11_does 284 = .ok (.if_icmp .le 5, 3) := by decide +kernel
theorem dX11_does_287 : decode cX11_does 287 = .ok (.iconst 0, 1) := by decide +kernel
theorem dX11_does_288 : decode cX11_does 288 = .ok (.ireturn, 1) := by decide +kernel
theorem dX11_does_289 : decode cX11_does 289 = .ok (.aload_n 0, 1) := by decide +kernel
theorem dX11_does_290 : decode cX11_does 290 = .ok (.getfield 19, 3) := by decide +kernel
theorem dX11_does_293 : decode cX11_does 293 = .ok (.iload 5, 2) := by decide +kernel
theorem dX11_does_295 : decode cX11_does 295 = .ok (.invokestatic 185, 3) := by decide +kernel
theorem dX11_does_298 : decode cX11_does 298 = .ok (.iconst 1, 1) := by decide +kernel
theorem dX11_does_299 : decode cX11_does 299 = .ok (.ireturn, 1) := by decide +kernel
theorem dX11_does_300 : decode cX11_does 300 = .ok (.iload_n 3, 1) := by decide +kernel
theorem dX11_does_301 : decode cX11_does 301 = .ok (.ifCond .ne 30, 3) := by decide +kernel
theorem dX11_does_304 : decode cX11_does 304 = .ok (.aload_n 0, 1) := by decide +kernel
theorem dX11_does_305 : decode cX11_does 305 = .ok (.getfield 19, 3) := by decide +kernel
theorem dX11_does_308 : decode cX11_does 308 = .ok (.bipush 7, 2) := by decide +kernel
theorem dX11_does_310 : decode cX11_does 310 = .ok (.iaload, 1) := by decide +kernel
theorem dX11_does_311 : decode cX11_does 311 = .ok (.iload_n 2, 1) := by decide +kernel
theorem dX11_does_312 : decode cX11_does 312 = .ok (.if_icmp .ne 19, 3) := by decide +kernel
theorem dX11_does_315 : decode cX11_does 315 = .ok (.aload_n 0, 1) := by decide +kernel
theorem dX11_does_316 : decode cX11_does 316 = .ok (.getfield 19, 3) := by decide +kernel
theorem dX11_does_319 : decode cX11_does 319 = .ok (.bipush 8, 2) := by decide +kernel
theorem dX11_does_321 : decode cX11_does 321 = .ok (.iaload, 1) := by decide +kernel
theorem dX11_does_322 : decode cX11_does 322 = .ok (.iload 4, 2) := by decide +kernel
theorem dX11_does_324 : decode cX11_does 324 = .ok (.if_icmp .ne 7, 3) := by decide +kernel
theorem dX11_does_327 : decode cX11_does 327 = .ok (.iconst 1, 1) := by decide +kernel
theorem dX11_does_328 : decode cX11_does 328 = .ok (.goto 4, 3) := by decide +kernel
theorem dX11_does_331 : decode cX11_does 331 = .ok (.iconst 0, 1) := by decide +kernel
theorem dX11_does_332 : decode cX11_does 332 = .ok (.ireturn, 1) := by decide +kernel
theorem dX11_does_333 : decode cX11_does 333 = .ok (.iload_n 3, 1) := by decide +kernel
theorem dX11_does_334 : decode cX11_does 334 = .ok (.ifCond .ne 34, 3) := by decide +kernel
theorem dX11_does_337 : decode cX11_does 337 = .ok (.iload 4, 2) := by decide +kernel
theorem dX11_does_339 : decode cX11_does 339 = .ok (.iconst 5, 1) := by decide +kernel
theorem dX11_does_340 : decode cX11_does 340 = .ok (.if_icmp .ge 28, 3) := by decide +kernel
theorem dX11_does_343 : decode cX11_does 343 = .ok (.iload 6, 2) := by decide +kernel
theorem dX11_does_345 : decode cX11_does 345 = .ok (.ifCond .eq 23, 3) := by decide +kernel
theorem dX11_does_348 : decode cX11_does 348 = .ok (.aload_n 0, 1) := by decide +kernel
theorem dX11_does_349 : decode cX11_does 349 = .ok (.getfield 19, 3) := by decide +kernel
theorem dX11_does_352 : decode cX11_does 352 = .ok (.iload_n 2, 1) := by decide +kernel
theorem dX11_does_353 : decode cX11_does 353 = .ok (.invokestatic 48, 3) := by decide +kernel
theorem dX11_does_356 : decode cX11_does 356 = .ok (.iconst 5, 1) := by decide +kernel
theorem dX11_does_357 : decode cX11_does 357 = .ok (.iadd, 1) := by decide +kernel
theorem dX11_does_358 : decode cX11_does 358 = .ok (.iaload, 1) := by decide +kernel
theorem dX11_does_359 : decode cX11_does 359 = .ok (.iload 4, 2) := by decide +kernel
theorem dX11_does_361 : decode cX11_does 361 = .ok (.if_icmp .ne 7, 3) := by decide +kernel
theorem dX11_does_364 : decode cX11_does 364 = .ok (.iconst 1, 1) := by decide +kernel
theorem dX11_does_365 : decode cX11_does 365 = .ok (.goto 4, 3) := by decide +kernel
theorem dX11_does_368 : decode cX11_does 368 = .ok (.iconst 0, 1) := by decide +kernel
theorem dX11_does_369 : decode cX11_does 369 = .ok (.ireturn, 1) := by decide +kernel
theorem dX11_does_370 : decode cX11_does 370 = .ok (.iload_n 2, 1) := by decide +kernel
theorem dX11_does_371 : decode cX11_does 371 = .ok (.ifCond .ne 30, 3) := by decide +kernel
theorem dX11_does_374 : decode cX11_does 374 = .ok (.iload_n 3, 1) := by decide +kernel
theorem dX11_does_375 : decode cX11_does 375 = .ok (.ifCond .ne 26, 3) := by decide +kernel
theorem dX11_does_378 : decode cX11_does 378 = .ok (.iload 4, 2) := by decide +kernel
theorem dX11_does_380 : decode cX11_does 380 = .ok (.bipush 10, 2) := by decide +kernel
theorem dX11_does_382 : decode cX11_does 382 = .ok (.if_icmp .ge 19, 3) := by decide +kernel
theorem dX11_does_385 : decode cX11_does 385 = .ok (.aload_n 0, 1) := by decide +kernel
theorem dX11_does_386 : decode cX11_does 386 = .ok (.getfield 19, 3) := by decide +kernel
theorem dX11_does_389 : decode cX11_does 389 = .ok (.bipush 9, 2) := by decide +kernel
theorem dX11_does_391 : decode cX11_does 391 = .ok (.iaload, 1) := by decide +kernel
theorem dX11_does_392 : decode cX11_does 392 = .ok (.iload 4, 2) := by decide +kernel
theorem dX11_does_394 : decode cX11_does 394 = .ok (.if_icmp .ne 7, 3) := by decide +kernel
theorem dX11_does_397 : decode cX11_does 397 = .ok (.iconst 1, 1) := by decide +kernel
theorem dX11_does_398 : decode cX11_does 398 = .ok (.goto 4, 3) := by decide +kernel
theorem dX11_does_401 : decode cX11_does 401 = .ok (.iconst 0, 1) := by decide +kernel
theorem dX11_does_402 : decode cX11_does 402 = .ok (.ireturn, 1) := by decide +kernel
theorem dX11_does_403 : decode cX11_does 403 = .ok (.iconst 0, 1) := by decide +kernel
theorem dX11_does_404 : decode cX11_does 404 = .ok (.ireturn, 1) := by decide +kernel
theorem dX11_runScript_0 : decode cX11_runScript 0 = .ok (.iload_n 1, 1) := by decide +kernel
theorem dX11_runScript_1 : decode cX11_runScript 1 = .ok (.iconst 1, 1) := by decide +kernel
theorem dX11_runScript_2 : decode cX11_runScript 2 = .ok (.if_icmp .ne 9, 3) := by decide +kernel
theorem dX11_runScript_5 : decode cX11_runScript 5 = .ok (.ldc2_w 198, 3) := by decide +kernel
theorem dX11_runScript_8 : decode cX11_runScript 8 = .ok (.goto 17, 3) := by decide +kernel
theorem dX11_runScript_11 : decode cX11_runScript 11 = .ok (.iload_n 1, 1) := by decide +kernel
theorem dX11_runScript_12 : decode cX11_runScript 12 = .ok (.iconst 2, 1) := by decide +kernel
theorem dX11_runScript_13 : decode cX11_runScript 13 = .ok (.if_icmp .ne 9, 3) := by decide +kernel
theorem dX11_runScript_16 : decode cX11_runScript 16 = .ok (.ldc2_w 200, 3) := by decide +kernel
theorem dX11_runScript_19 : decode cX11_runScript 19 = .ok (.goto 6, 3) := by decide +kernel
theorem dX11_runScript_22 : decode cX11_runScript 22 = .ok (.ldc2_w 202, 3) := by decide +kernel
theorem dX11_runScript_25 : decode cX11_runScript 25 = .ok (.lstore 4, 2) := by decide +kernel
theorem dX11_runScript_27 : decode cX11_runScript 27 = .ok (.aload_n 0, 1) := by decide +kernel
theorem dX11_runScript_28 : decode cX11_runScript 28 = .ok (.iload_n 1, 1) := by decide +kernel
theorem dX11_runScript_29 : decode cX11_runScript 29 = .ok (.i2l, 1) := by decide +kernel
theorem dX11_runScript_30 : decode cX11_runScript 30 = .ok (.lconst 1, 1) := by decide +kernel
theorem dX11_runScript_31 : decode cX11_runScript 31 = .ok (.ldc2_w 90, 3) := by decide +kernel
theorem dX11_runScript_34 : decode cX11_runScript 34 = .ok (.invokestatic 36, 3) := by decide +kernel
theorem dX11_runScript_37 : decode cX11_runScript 37 = .ok (.ifCond .eq 19, 3) := by decide +kernel
theorem dX11_runScript_40 : decode cX11_runScript 40 = .ok (.lload_n 2, 1) := by decide +kernel
theorem dX11_runScript_41 : decode cX11_runScript 41 = .ok (.lconst 0, 1) := by decide +kernel
theorem dX11_runScript_42 : decode cX11_runScript 42 = .ok (.lload 4, 2) := by decide +kernel
theorem dX11_runScript_44 : decode cX11_runScript 44 = .ok (.lconst 1, 1) := by decide +kernel
theorem dX11_runScript_45 : decode cX11_runScript 45 = .ok (.lsub, 1) := by decide +kernel
theorem dX11_runScript_46 : decode cX11_runScript 46 = .ok (.invokestatic 36, 3) := by decide +kernel
theorem dX11_runScript_49 : decode cX11_runScript 49 = .ok (.ifCond .eq 7, 3) := by decide +kernel
theorem dX11_runScript_52 : decode cX11_runScript 52 = .ok (.iconst 0, 1) := by decide +kernel
theorem dX11_runScript_53 : decode cX11_runScript 53 = .ok (.goto 4, 3) := by decide +kernel
theorem dX11_runScript_56 : decode cX11_runScript 56 = .ok (.iconst 1, 1) := by decide +kernel
theorem dX11_runScript_57 : decode cX11_runScript 57 = .ok (.invokevirtual 111, 3) := by decide +kernel
theorem dX11_runScript_60 : decode cX11_runScript 60 = .ok (.ifCond .eq 5, 3) := by decide +kernel
theorem dX11_runScript_63 : decode cX11_runScript 63 = .ok (.iconst 0, 1) := by decide +kernel
theorem dX11_runScript_64 : decode cX11_runScript 64 = .ok (.ireturn, 1) := by decide +kernel
theorem dX11_runScript_65 : decode cX11_runScript 65 = .ok (.aload_n 0, 1) := by decide +kernel
theorem dX11_runScript_66 : decode cX11_runScript 66 = .ok (.getfield 16, 3) := by decide +kernel
theorem dX11_runScript_69 : decode cX11_runScript 69 = .ok (.iconst 0, 1) := by decide +kernel
theorem dX11_runScript_70 : decode cX11_runScript 70 = .ok (.aload_n 0, 1) := by decide +kernel
theorem dX11_runScript_71 : decode cX11_runScript 71 = .ok (.getfield 19, 3) := by decide +kernel
theorem dX11_runScript_74 : decode cX11_runScript 74 = .ok (.iconst 0, 1) := by decide +kernel
theorem dX11_runScript_75 : decode cX11_runScript 75 = .ok (.invokestatic 137, 3) := by decide +kernel
theorem dX11_runScript_78 : decode cX11_runScript 78 = .ok (.lload_n 2, 1) := by decide +kernel
theorem dX11_runScript_79 : decode cX11_runScript 79 = .ok (.lstore 6, 2) := by decide +kernel
theorem dX11_runScript_81 : decode cX11_runScript 81 = .ok (.iconst 0, 1) := by decide +kernel
theorem dX11_runScript_82 : decode cX11_runScript 82 = .ok (.istore 8, 2) := by decide +kernel
theorem dX11_runScript_84 : decode cX11_runScript 84 = .ok (.iload 8, 2) := by decide +kernel
theorem dX11_runScript_86 : decode cX11_runScript 86 = .ok (.iload_n 1, 1) := by decide +kernel
theorem dX11_runScript_87 : decode cX11_runScript 87 = .ok (.if_icmp .ge 70, 3) := by decide +kernel
theorem dX11_runScript_90 : decode cX11_runScript 90 = .ok (.lload 4, 2) := by decide +kernel
theorem dX11_runScript_92 : decode cX11_runScript 92 = .ok (.ldc2_w 198, 3) := by decide +kernel
theorem dX11_runScript_95 : decode cX11_runScript 95 = .ok (.ldiv, 1) := by decide +kernel
theorem dX11_runScript_96 : decode cX11_runScript 96 = .ok (.lstore 4, 2) := by decide +kernel
theorem dX11_runScript_98 : decode cX11_runScript 98 = .ok (.lload 6, 2) := by decide +kernel
theorem dX11_runScript_100 : decode cX11_runScript 100 = .ok (.lload 4, 2) := by decide +kernel
theorem dX11_runScript_102 : decode cX11_runScript 102 = .ok (.ldiv, 1) := by decide +kernel
theorem dX11_runScript_103 : decode cX11_runScript 103 = .ok (.l2i, 1) := by decide +kernel
theorem dX11_runScript_104 : decode cX11_runScript 104 = .ok (.istore 9, 2) := by decide +kernel
theorem dX11_runScript_106 : decode cX11_runScript 106 = .ok (.lload 6, 2) := by decide +kernel
theorem dX11_runScript_108 : decode cX11_runScript 108 = .ok (.lload 4, 2) := by decide +kernel
theorem dX11_runScript_110 : decode cX11_runScript 110 = .ok (.lrem, 1) := by decide +kernel
theorem dX11_runScript_111 : decode cX11_runScript 111 = .ok (.lstore 6, 2) := by decide +kernel
theorem dX11_runScript_113 : decode cX11_runScript 113 = .ok (.aload_n 0, 1) := by decide +kernel
theorem dX11_runScript_114 : decode cX11_runScript 114 = .ok (.iload 9, 2) := by decide +kernel
theorem dX11_runScript_116 : decode cX11_runScript 116 = .ok (.sipush 10000, 3) := by decide +kernel
theorem dX11_runScript_119 : decode cX11_runScript 119 = .ok (.idiv, 1) := by decide +kernel
theorem dX11_runScript_120 : decode cX11_runScript 120 = .ok (.iload 9, 2) := by decide +kernel
theorem dX11_runScript_122 : decode cX11_runScript 122 = .ok (.sipush 1000, 3) := by decide +kernel
theorem dX11_runScript_125 : decode cX11_runScript 125 = .ok (.idiv, 1) := by decide +kernel
theorem dX11_runScript_126 : decode cX11_runScript 126 = .ok (.bipush 10, 2) := by decide +kernel
theorem dX11_runScript_128 : decode cX11_runScript 128 = .ok (.irem, 1) := by decide +kernel
theorem dX11_runScript_129 : decode cX11_runScript 129 = .ok (.iload 9, 2) := by decide +kernel
theorem dX11_runScript_131 : decode cX11_runScript 131 = .ok (.bipush 100, 2) := by decide +kernel
theorem dX11_runScript_133 : decode cX11_runScript 133 = .ok (.idiv, 1) := by decide +kernel
theorem dX11_runScript_134 : decode cX11_runScript 134 = .ok (.bipush 10, 2) := by decide +kernel
theorem dX11_runScript_136 : decode cX11_runScript 136 = .ok (.irem, 1) := by decide +kernel
theorem dX11_runScript_137 : decode cX11_runScript 137 = .ok (.iload 9, 2) := by decide +kernel
theorem dX11_runScript_139 : decode cX11_runScript 139 = .ok (.bipush 100, 2) := by decide +kernel
theorem dX11_runScript_141 : decode cX11_runScript 141 = .ok (.irem, 1) := by decide +kernel
theorem dX11_runScript_142 : decode cX11_runScript 142 = .ok (.invokevirtual 204, 3) := by decide +kernel
theorem dX11_runScript_145 : decode cX11_runScript 145 = .ok (.ifCond .ne 6, 3) := by decide +kernel
theorem dX11_runScript_148 : decode cX11_runScript 148 = .ok (.iload 8, 2) := by decide +kernel
theorem dX11_runScript_150 : decode cX11_runScript 150 = .ok (.ireturn, 1) := by decide +kernel
theorem dX11_runScript_151 : decode cX11_runScript 151 = .ok (.iinc 8 1, 3) := by decide +kernel
theorem dX11_runScript_154 : decode cX11_runScript 154 = .ok (.goto (-70), 3) := by decide +kernel
theorem dX11_runScript_157 : decode cX11_runScript 157 = .ok (.bipush (-9), 2) := by decide +kernel
theorem dX11_runScript_159 : decode cX11_runScript 159 = .ok (.ireturn, 1) := by decide +kernel
theorem dX11_simulate_0 : decode cX11_simulate 0 = .ok (.aload_n 0, 1) := by decide +kernel
theorem dX11_simulate_1 : decode cX11_simulate 1 = .ok (.iload_n 3, 1) := by decide +kernel
theorem dX11_simulate_2 : decode cX11_simulate 2 = .ok (.i2l, 1) := by decide +kernel
theorem dX11_simulate_3 : decode cX11_simulate 3 = .ok (.lconst 1, 1) := by decide +kernel
theorem dX11_simulate_4 : decode cX11_simulate 4 = .ok (.ldc2_w 177, 3) := by decide +kernel
theorem dX11_simulate_7 : decode cX11_simulate 7 = .ok (.invokestatic 36, 3) := by decide +kernel
theorem dX11_simulate_10 : decode cX11_simulate 10 = .ok (.ifCond .eq 7, 3) := by decide +kernel
theorem dX11_simulate_13 : decode cX11_simulate 13 = .ok (.iconst 0, 1) := by decide +kernel
theorem dX11_simulate_14 : decode cX11_simulate 14 = .ok (.goto 4, 3) := by decide +kernel
theorem dX11_simulate_17 : decode cX11_simulate 17 = .ok (.iconst 1, 1) := by decide +kernel
theorem dX11_simulate_18 : decode cX11_simulate 18 = .ok (.invokevirtual 111, 3) := by decide +kernel
theorem dX11_simulate_21 : decode cX11_simulate 21 = .ok (.ifCond .eq 5, 3) := by decide +kernel
theorem dX11_simulate_24 : decode cX11_simulate 24 = .ok (.iconst 0, 1) := by decide +kernel
theorem dX11_simulate_25 : decode cX11_simulate 25 = .ok (.ireturn, 1) := by decide +kernel
theorem dX11_simulate_26 : decode cX11_simulate 26 = .ok (.aload_n 0, 1) := by decide +kernel
theorem dX11_simulate_27 : decode cX11_simulate 27 = .ok (.getfield 16, 3) := by decide +kernel
theorem dX11_simulate_30 : decode cX11_simulate 30 = .ok (.iconst 0, 1) := by decide +kernel
theorem dX11_simulate_31 : decode cX11_simulate 31 = .ok (.aload_n 0, 1) := by decide +kernel
theorem dX11_simulate_32 : decode cX11_simulate 32 = .ok (.getfield 19, 3) := by decide +kernel
theorem dX11_simulate_35 : decode cX11_simulate 35 = .ok (.iconst 0, 1) := by decide +kernel
theorem dX11_simulate_36 : decode cX11_simulate 36 = .ok (.invokestatic 137, 3) := by decide +kernel
theorem dX11_simulate_39 : decode cX11_simulate 39 = .ok (.lload_n 1, 1) := by decide +kernel
theorem dX11_simulate_40 : decode cX11_simulate 40 = .ok (.lstore 4, 2) := by decide +kernel
theorem dX11_simulate_42 : decode cX11_simulate 42 = .ok (.iconst 0, 1) := by decide +kernel
theorem dX11_simulate_43 : decode cX11_simulate 43 = .ok (.istore 6, 2) := by decide +kernel
theorem dX11_simulate_45 : decode cX11_simulate 45 = .ok (.iload 6, 2) := by decide +kernel
theorem dX11_simulate_47 : decode cX11_simulate 47 = .ok (.iload_n 3, 1) := by decide +kernel
theorem dX11_simulate_48 : decode cX11_simulate 48 = .ok (.if_icmp .ge 121, 3) := by decide +kernel
theorem dX11_simulate_51 : decode cX11_simulate 51 = .ok (.lload 4, 2) := by decide +kernel
theorem dX11_simulate_53 : decode cX11_simulate 53 = .ok (.ldc2_w 207, 3) := by decide +kernel
theorem dX11_simulate_56 : decode cX11_simulate 56 = .ok (.lmul, 1) := by decide +kernel
theorem dX11_simulate_57 : decode cX11_simulate 57 = .ok (.ldc2_w 209, 3) := by decide +kernel
theorem dX11_simulate_60 : decode cX11_simulate 60 = .ok (.ladd, 1) := by decide +kernel
theorem dX11_simulate_61 : decode cX11_simulate 61 = .ok (.lstore 4, 2) := by decide +kernel
theorem dX11_simulate_63 : decode cX11_simulate 63 = .ok (.lload 4, 2) := by decide +kernel
theorem dX11_simulate_65 : decode cX11_simulate 65 = .ok (.bipush 33, 2) := by decide +kernel
theorem dX11_simulate_67 : decode cX11_simulate 67 = .ok (.lushr, 1) := by decide +kernel
theorem dX11_simulate_68 : decode cX11_simulate 68 = .ok (.l2i, 1) := by decide +kernel
theorem dX11_simulate_69 : decode cX11_simulate 69 = .ok (.istore 7, 2) := by decide +kernel
theorem dX11_simulate_71 : decode cX11_simulate 71 = .ok (.iload 7, 2) := by decide +kernel
theorem dX11_simulate_73 : decode cX11_simulate 73 = .ok (.bipush 8, 2) := by decide +kernel
theorem dX11_simulate_75 : decode cX11_simulate 75 = .ok (.idiv, 1) := by decide +kernel
theorem dX11_simulate_76 : decode cX11_simulate 76 = .ok (.aload_n 0, 1) := by decide +kernel
theorem dX11_simulate_77 : decode cX11_simulate 77 = .ok (.getfield 19, 3) := by decide +kernel
theorem dX11_simulate_80 : decode cX11_simulate 80 = .ok (.iconst 5, 1) := by decide +kernel
theorem dX11_simulate_81 : decode cX11_simulate 81 = .ok (.iaload, 1) := by decide +kernel
theorem dX11_simulate_82 : decode cX11_simulate 82 = .ok (.irem, 1) := by decide +kernel
theorem dX11_simulate_83 : decode cX11_simulate 83 = .ok (.istore 8, 2) := by decide +kernel
theorem dX11_simulate_85 : decode cX11_simulate 85 = .ok (.iload 7, 2) := by decide +kernel
theorem dX11_simulate_87 : decode cX11_simulate 87 = .ok (.bipush 8, 2) := by decide +kernel
theorem dX11_simulate_89 : decode cX11_simulate 89 = .ok (.irem, 1) := by decide +kernel
theorem dX11_simulate_90 : decode cX11_simulate 90 = .ok (.ifCond .ne 36, 3) := by decide +kernel
theorem dX11_simulate_93 : decode cX11_simulate 93 = .ok (.aload_n 0, 1) := by decide +kernel
theorem dX11_simulate_94 : decode cX11_simulate 94 = .ok (.getfield 19, 3) := by decide +kernel
theorem dX11_simulate_97 : decode cX11_simulate 97 = .ok (.bipush 91, 2) := by decide +kernel
theorem dX11_simulate_99 : decode cX11_simulate 99 = .ok (.iload 7, 2) := by decide +kernel
theorem dX11_simulate_101 : decode cX11_simulate 101 = .ok (.bipush 64, 2) := by decide +kernel
theorem dX11_simulate_103 : decode cX11_simulate 103 = .ok (.idiv, 1) := by decide +kernel
theorem dX11_simulate_104 : decode cX11_simulate 104 = .ok (.aload_n 0, 1) := by decide +kernel
theorem dX11_simulate_105 : decode cX11_simulate 105 = .ok (.getfield 19, 3) := by decide +kernel
theorem dX11_simulate_108 : decode cX11_simulate 108 = .ok (.bipush 6, 2) := by decide +kernel
theorem dX11_simulate_110 : decode cX11_simulate 110 = .ok (.iaload, 1) := by decide +kernel
theorem dX11_simulate_111 : decode cX11_simulate 111 = .ok (.irem, 1) := by decide +kernel
theorem dX11_simulate_112 : decode cX11_simulate 112 = .ok (.iadd, 1) := by decide +kernel
theorem dX11_simulate_113 : decode cX11_simulate 113 = .ok (.iload 7, 2) := by decide +kernel
theorem dX11_simulate_115 : decode cX11_simulate 115 = .ok (.sipush 2048, 3) := by decide +kernel
theorem dX11_simulate_118 : decode cX11_simulate 118 = .ok (.idiv, 1) := by decide +kernel
theorem dX11_simulate_119 : decode cX11_simulate 119 = .ok (.bipush 10, 2) := by decide +kernel
theorem dX11_simulate_121 : decode cX11_simulate 121 = .ok (.irem, 1) := by decide +kernel
theorem dX11_simulate_122 : decode cX11_simulate 122 = .ok (.iastore, 1) := by decide +kernel
theorem dX11_simulate_123 : decode cX11_simulate 123 = .ok (.goto 33, 3) := by decide +kernel
theorem dX11_simulate_126 : decode cX11_simulate 126 = .ok (.iload 7, 2) := by decide +kernel
theorem dX11_simulate_128 : decode cX11_simulate 128 = .ok (.bipush 8, 2) := by decide +kernel
theorem dX11_simulate_130 : decode cX11_simulate 130 = .ok (.irem, 1) := by decide +kernel
theorem dX11_simulate_131 : decode cX11_simulate 131 = .ok (.iconst 3, 1) := by decide +kernel
theorem dX11_simulate_132 : decode cX11_simulate 132 = .ok (.if_icmp .ge 24, 3) := by decide +kernel
theorem dX11_simulate_135 : decode cX11_simulate 135 = .ok (.aload_n 0, 1) := by decide +kernel
theorem dX11_simulate_136 : decode cX11_simulate 136 = .ok (.getfield 19, 3) := by decide +kernel
theorem dX11_simulate_139 : decode cX11_simulate 139 = .ok (.iload 8, 2) := by decide +kernel
theorem dX11_simulate_141 : decode cX11_simulate 141 = .ok (.invokestatic 168, 3) := by decide +kernel
theorem dX11_simulate_144 : decode cX11_simulate 144 = .ok (.ifCond .eq 12, 3) := by decide +kernel
theorem dX11_simulate_147 : decode cX11_simulate 147 = .ok (.aload_n 0, 1) := by decide +kernel
theorem dX11_simulate_148 : decode cX11_simulate 148 = .ok (.getfield 19, 3) := by decide +kernel
theorem dX11_simulate_151 : decode cX11_simulate 151 = .ok (.iload 8, 2) := by decide +kernel
theorem dX11_simulate_153 : decode cX11_simulate 153 = .ok (.invokestatic 195, 3) := by decide +kernel
theorem dX11_simulate_156 : decode cX11_simulate 156 = .ok (.aload_n 0, 1) := by decide +kernel
theorem dX11_simulate_157 : decode cX11_simulate 157 = .ok (.getfield 19, 3) := by decide +kernel
theorem dX11_simulate_160 : decode cX11_simulate 160 = .ok (.invokestatic 95, 3) := by decide +kernel
theorem dX11_simulate_163 : decode cX11_simulate 163 = .ok (.iinc 6 1, 3) := by decide +kernel
theorem dX11_simulate_166 : decode cX11_simulate 166 = .ok (.goto (-121), 3) := by decide +kernel
theorem dX11_simulate_169 : decode cX11_simulate 169 = .ok (.sipush 1000, 3) := by decide +kernel
theorem dX11_simulate_172 : decode cX11_simulate 172 = .ok (.aload_n 0, 1) := by decide +kernel
theorem dX11_simulate_173 : decode cX11_simulate 173 = .ok (.getfield 19, 3) := by decide +kernel
theorem dX11_simulate_176 : decode cX11_simulate 176 = .ok (.bipush 17, 2) := by decide +kernel
theorem dX11_simulate_178 : decode cX11_simulate 178 = .ok (.iaload, 1) := by decide +kernel
theorem dX11_simulate_179 : decode cX11_simulate 179 = .ok (.aload_n 0, 1) := by decide +kernel
theorem dX11_simulate_180 : decode cX11_simulate 180 = .ok (.getfield 16, 3) := by decide +kernel
theorem dX11_simulate_183 : decode cX11_simulate 183 = .ok (.bipush 17, 2) := by decide +kernel
theorem dX11_simulate_185 : decode cX11_simulate 185 = .ok (.iaload, 1) := by decide +kernel
theorem dX11_simulate_186 : decode cX11_simulate 186 = .ok (.isub, 1) := by decide +kernel
theorem dX11_simulate_187 : decode cX11_simulate 187 = .ok (.imul, 1) := by decide +kernel
theorem dX11_simulate_188 : decode cX11_simulate 188 = .ok (.aload_n 0, 1) := by decide +kernel
theorem dX11_simulate_189 : decode cX11_simulate 189 = .ok (.getfield 19, 3) := by decide +kernel
theorem dX11_simulate_192 : decode cX11_simulate 192 = .ok (.iconst 3, 1) := by decide +kernel
theorem dX11_simulate_193 : decode cX11_simulate 193 = .ok (.iaload, 1) := by decide +kernel
theorem dX11_simulate_194 : decode cX11_simulate 194 = .ok (.iadd, 1) := by decide +kernel
theorem dX11_simulate_195 : decode cX11_simulate 195 = .ok (.ireturn, 1) := by decide +kernel
theorem dX11_save_0 : decode cX11_save 0 = .ok (.aload_n 0, 1) := by decide +kernel
theorem dX11_save_1 : decode cX11_save 1 = .ok (.iload_n 1, 1) := by decide +kernel
theorem dX11_save_2 : decode cX11_save 2 = .ok (.i2l, 1) := by decide +kernel
theorem dX11_save_3 : decode cX11_save 3 = .ok (.lconst 0, 1) := by decide +kernel
theorem dX11_save_4 : decode cX11_save 4 = .ok (.lconst 1, 1) := by decide +kernel
theorem dX11_save_5 : decode cX11_save 5 = .ok (.invokestatic 36, 3) := by decide +kernel
theorem dX11_save_8 : decode cX11_save 8 = .ok (.ifCond .eq 7, 3) := by decide +kernel
theorem dX11_save_11 : decode cX11_save 11 = .ok (.iconst 0, 1) := by decide +kernel
theorem dX11_save_12 : decode cX11_save 12 = .ok (.goto 4, 3) := by decide +kernel
theorem dX11_save_15 : decode cX11_save 15 = .ok (.iconst 1, 1) := by decide +kernel
theorem dX11_save_16 : decode cX11_save 16 = .ok (.invokevirtual 111, 3) := by decide +kernel
theorem dX11_save_19 : decode cX11_save 19 = .ok (.ifCond .eq 5, 3) := by decide +kernel
theorem dX11_save_22 : decode cX11_save 22 = .ok (.iconst 0, 1) := by decide +kernel
theorem dX11_save_23 : decode cX11_save 23 = .ok (.ireturn, 1) := by decide +kernel
theorem dX11_save_24 : decode cX11_save 24 = .ok (.aload_n 0, 1) := by decide +kernel
theorem dX11_save_25 : decode cX11_save 25 = .ok (.getfield 28, 3) := by decide +kernel
theorem dX11_save_28 : decode cX11_save 28 = .ok (.iload_n 1, 1) := by decide +kernel
theorem dX11_save_29 : decode cX11_save 29 = .ok (.iconst 1, 1) := by decide +kernel
theorem dX11_save_30 : decode cX11_save 30 = .ok (.bastore, 1) := by decide +kernel
theorem dX11_save_31 : decode cX11_save 31 = .ok (.aload_n 0, 1) := by decide +kernel
theorem dX11_save_32 : decode cX11_save 32 = .ok (.getfield 16, 3) := by decide +kernel
theorem dX11_save_35 : decode cX11_save 35 = .ok (.iconst 0, 1) := by decide +kernel
theorem dX11_save_36 : decode cX11_save 36 = .ok (.aload_n 0, 1) := by decide +kernel
theorem dX11_save_37 : decode cX11_save 37 = .ok (.getfield 25, 3) := by decide +kernel
theorem dX11_save_40 : decode cX11_save 40 = .ok (.bipush 121, 2) := by decide +kernel
theorem dX11_save_42 : decode cX11_save 42 = .ok (.iload_n 1, 1) := by decide +kernel
theorem dX11_save_43 : decode cX11_save 43 = .ok (.imul, 1) := by decide +kernel
theorem dX11_save_44 : decode cX11_save 44 = .ok (.invokestatic 137, 3) := by decide +kernel
theorem dX11_save_47 : decode cX11_save 47 = .ok (.aload_n 0, 1) := by decide +kernel
theorem dX11_save_48 : decode cX11_save 48 = .ok (.getfield 16, 3) := by decide +kernel
theorem dX11_save_51 : decode cX11_save 51 = .ok (.iconst 3, 1) := by decide +kernel
theorem dX11_save_52 : decode cX11_save 52 = .ok (.iaload, 1) := by decide +kernel
theorem dX11_save_53 : decode cX11_save 53 = .ok (.ireturn, 1) := by decide +kernel
theorem dX11_restore_0 : decode cX11_restore 0 = .ok (.aload_n 0, 1) := by decide +kernel
theorem dX11_restore_1 : decode cX11_restore 1 = .ok (.iload_n 1, 1) := by decide +kernel
theorem dX11_restore_2 : decode cX11_restore 2 = .ok (.i2l, 1) := by decide +kernel
theorem dX11_restore_3 : decode cX11_restore 3 = .ok (.lconst 0, 1) := by decide +kernel
theorem dX11_restore_4 : decode cX11_restore 4 = .ok (.lconst 1, 1) := by decide +kernel
theorem dX11_restore_5 : decode cX11_restore 5 = .ok (.invokestatic 36, 3) := by decide +kernel
theorem dX11_restore_8 : decode cX11_restore 8 = .ok (.ifCond .ne 7, 3) := by decide +kernel
theorem dX11_restore_11 : decode cX11_restore 11 = .ok (.iconst 1, 1) := by decide +kernel
theorem dX11_restore_12 : decode cX11_restore 12 = .ok (.goto 17, 3) := by decide +kernel
theorem dX11_restore_15 : decode cX11_restore 15 = .ok (.aload_n 0, 1) := by decide +kernel
theorem dX11_restore_16 : decode cX11_restore 16 = .ok (.getfield 28, 3) := by decide +kernel
theorem dX11_restore_19 : decode cX11_restore 19 = .ok (.iload_n 1, 1) := by decide +kernel
theorem dX11_restore_20 : decode cX11_restore 20 = .ok (.baload, 1) := by decide +kernel
theorem dX11_restore_21 : decode cX11_restore 21 = .ok (.ifCond .ne 7, 3) := by decide +kernel
theorem dX11_restore_24 : decode cX11_restore 24 = .ok (.iconst 2, 1) := by decide +kernel
theorem dX11_restore_25 : decode cX11_restore 25 = .ok (.goto 4, 3) := by decide +kernel
theorem dX11_restore_28 : decode cX11_restore 28 = .ok (.iconst 0, 1) := by decide +kernel
theorem dX11_restore_29 : decode cX11_restore 29 = .ok (.invokevirtual 111, 3) := by decide +kernel
theorem dX11_restore_32 : decode cX11_restore 32 = .ok (.ifCond .eq 5, 3) := by decide +kernel
theorem dX11_restore_35 : decode cX11_restore 35 = .ok (.iconst 0, 1) := by decide +kernel
theorem dX11_restore_36 : decode cX11_restore 36 = .ok (.ireturn, 1) := by decide +kernel
theorem dX11_restore_37 : decode cX11_restore 37 = .ok (.aload_n 0, 1) := by decide +kernel
theorem dX11_restore_38 : decode cX11_restore 38 = .ok (.getfield 25, 3) := by decide +kernel
theorem dX11_restore_41 : decode cX11_restore 41 = .ok (.bipush 121, 2) := by decide +kernel
theorem dX11_restore_43 : decode cX11_restore 43 = .ok (.iload_n 1, 1) := by decide +kernel
theorem dX11_restore_44 : decode cX11_restore 44 = .ok (.imul, 1) := by decide +kernel
theorem dX11_restore_45 : decode cX11_restore 45 = .ok (.aload_n 0, 1) := by decide +kernel
theorem dX11_restore_46 : decode cX11_restore 46 = .ok (.getfield 16, 3) := by decide +kernel
theorem dX11_restore_49 : decode cX11_restore 49 = .ok (.iconst 0, 1) := by decide +kernel
theorem dX11_restore_50 : decode cX11_restore 50 = .ok (.invokestatic 137, 3) := by decide +kernel
theorem dX11_restore_53 : decode cX11_restore 53 = .ok (.aload_n 0, 1) := by decide +kernel
theorem dX11_restore_54 : decode cX11_restore 54 = .ok (.iconst 0, 1) := by decide +kernel
theorem dX11_restore_55 : decode cX11_restore 55 = .ok (.putfield 141, 3) := by decide +kernel
theorem dX11_restore_58 : decode cX11_restore 58 = .ok (.aload_n 0, 1) := by decide +kernel
theorem dX11_restore_59 : decode cX11_restore 59 = .ok (.getfield 16, 3) := by decide +kernel
theorem dX11_restore_62 : decode cX11_restore 62 = .ok (.iconst 3, 1) := by decide +kernel
theorem dX11_restore_63 : decode cX11_restore 63 = .ok (.iaload, 1) := by decide +kernel
theorem dX11_restore_64 : decode cX11_restore 64 = .ok (.ireturn, 1) := by decide +kernel
