theorem d_N_domain_0 : decode b_N_domain 0 = .ok (.iload_n 1, 1) := by decide +kernel
theorem d_N_domain_1 : decode b_N_domain 1 = .ok (.iconst 0, 1) := by decide +kernel
theorem d_N_domain_2 : decode b_N_domain 2 = .ok (.bipush 9, 2) := by decide +kernel
theorem d_N_domain_4 : decode b_N_domain 4 = .ok (.invokestatic 116, 3) := by decide +kernel
theorem d_N_domain_7 : decode b_N_domain 7 = .ok (.ifCond .eq 13, 3) := by decide +kernel
theorem d_N_domain_10 : decode b_N_domain 10 = .ok (.iload_n 2, 1) := by decide +kernel
theorem d_N_domain_11 : decode b_N_domain 11 = .ok (.iconst 0, 1) := by decide +kernel
theorem d_N_domain_12 : decode b_N_domain 12 = .ok (.bipush 13, 2) := by decide +kernel
theorem d_N_domain_14 : decode b_N_domain 14 = .ok (.invokestatic 116, 3) := by decide +kernel
theorem d_N_domain_17 : decode b_N_domain 17 = .ok (.ifCond .ne 9, 3) := by decide +kernel
theorem d_N_domain_20 : decode b_N_domain 20 = .ok (.aload_n 0, 1) := by decide +kernel
theorem d_N_domain_21 : decode b_N_domain 21 = .ok (.iconst 1, 1) := by decide +kernel
theorem d_N_domain_22 : decode b_N_domain 22 = .ok (.invokevirtual 122, 3) := by decide +kernel
theorem d_N_domain_25 : decode b_N_domain 25 = .ok (.ireturn, 1) := by decide +kernel
theorem d_N_domain_26 : decode b_N_domain 26 = .ok (.aload_n 0, 1) := by decide +kernel
theorem d_N_domain_27 : decode b_N_domain 27 = .ok (.iload_n 1, 1) := by decide +kernel
theorem d_N_domain_28 : decode b_N_domain 28 = .ok (.invokevirtual 133, 3) := by decide +kernel
theorem d_N_domain_31 : decode b_N_domain 31 = .ok (.ifCond .eq 9, 3) := by decide +kernel
theorem d_N_domain_34 : decode b_N_domain 34 = .ok (.aload_n 0, 1) := by decide +kernel
theorem d_N_domain_35 : decode b_N_domain 35 = .ok (.iconst 2, 1) := by decide +kernel
theorem d_N_domain_36 : decode b_N_domain 36 = .ok (.invokevirtual 122, 3) := by decide +kernel
theorem d_N_domain_39 : decode b_N_domain 39 = .ok (.ireturn, 1) := by decide +kernel
theorem d_N_domain_40 : decode b_N_domain 40 = .ok (.aload_n 0, 1) := by decide +kernel
theorem d_N_domain_41 : decode b_N_domain 41 = .ok (.iload_n 1, 1) := by decide +kernel
theorem d_N_domain_42 : decode b_N_domain 42 = .ok (.iconst 0, 1) := by decide +kernel
theorem d_N_domain_43 : decode b_N_domain 43 = .ok (.invokevirtual 165, 3) := by decide +kernel
theorem d_N_domain_46 : decode b_N_domain 46 = .ok (.ifCond .eq 7, 3) := by decide +kernel
theorem d_N_domain_49 : decode b_N_domain 49 = .ok (.iconst 1, 1) := by decide +kernel
theorem d_N_domain_50 : decode b_N_domain 50 = .ok (.goto 4, 3) := by decide +kernel
theorem d_N_domain_53 : decode b_N_domain 53 = .ok (.iconst 0, 1) := by decide +kernel
theorem d_N_domain_54 : decode b_N_domain 54 = .ok (.aload_n 0, 1) := by decide +kernel
theorem d_N_domain_55 : decode b_N_domain 55 = .ok (.iload_n 1, 1) := by decide +kernel
theorem d_N_domain_56 : decode b_N_domain 56 = .ok (.iconst 1, 1) := by decide +kernel
theorem d_N_domain_57 : decode b_N_domain 57 = .ok (.invokevirtual 165, 3) := by decide +kernel
theorem d_N_domain_60 : decode b_N_domain 60 = .ok (.ifCond .eq 7, 3) := by decide +kernel
theorem d_N_domain_63 : decode b_N_domain 63 = .ok (.iconst 2, 1) := by decide +kernel
theorem d_N_domain_64 : decode b_N_domain 64 = .ok (.goto 4, 3) := by decide +kernel
theorem d_N_domain_67 : decode b_N_domain 67 = .ok (.iconst 0, 1) := by decide +kernel
theorem d_N_domain_68 : decode b_N_domain 68 = .ok (.iadd, 1) := by decide +kernel
theorem d_N_domain_69 : decode b_N_domain 69 = .ok (.aload_n 0, 1) := by decide +kernel
theorem d_N_domain_70 : decode b_N_domain 70 = .ok (.iload_n 1, 1) := by decide +kernel
theorem d_N_domain_71 : decode b_N_domain 71 = .ok (.iconst 2, 1) := by decide +kernel
theorem d_N_domain_72 : decode b_N_domain 72 = .ok (.invokevirtual 165, 3) := by decide +kernel
theorem d_N_domain_75 : decode b_N_domain 75 = .ok (.ifCond .eq 7, 3) := by decide +kernel
theorem d_N_domain_78 : decode b_N_domain 78 = .ok (.iconst 4, 1) := by decide +kernel
theorem d_N_domain_79 : decode b_N_domain 79 = .ok (.goto 4, 3) := by decide +kernel
theorem d_N_domain_82 : decode b_N_domain 82 = .ok (.iconst 0, 1) := by decide +kernel
theorem d_N_domain_83 : decode b_N_domain 83 = .ok (.iadd, 1) := by decide +kernel
theorem d_N_domain_84 : decode b_N_domain 84 = .ok (.aload_n 0, 1) := by decide +kernel
theorem d_N_domain_85 : decode b_N_domain 85 = .ok (.iload_n 1, 1) := by decide +kernel
theorem d_N_domain_86 : decode b_N_domain 86 = .ok (.iconst 4, 1) := by decide +kernel
theorem d_N_domain_87 : decode b_N_domain 87 = .ok (.invokevirtual 165, 3) := by decide +kernel
theorem d_N_domain_90 : decode b_N_domain 90 = .ok (.ifCond .eq 8, 3) := by decide +kernel
theorem d_N_domain_93 : decode b_N_domain 93 = .ok (.bipush 16, 2) := by decide +kernel
theorem d_N_domain_95 : decode b_N_domain 95 = .ok (.goto 4, 3) := by decide +kernel
theorem d_N_domain_98 : decode b_N_domain 98 = .ok (.iconst 0, 1) := by decide +kernel
theorem d_N_domain_99 : decode b_N_domain 99 = .ok (.iadd, 1) := by decide +kernel
theorem d_N_domain_100 : decode b_N_domain 100 = .ok (.istore_n 3, 1) := by decide +kernel
theorem d_N_domain_101 : decode b_N_domain 101 = .ok (.iload_n 2, 1) := by decide +kernel
theorem d_N_domain_102 : decode b_N_domain 102 = .ok (.bipush 8, 2) := by decide +kernel
theorem d_N_domain_104 : decode b_N_domain 104 = .ok (.if_icmp .lt 61, 3) := by decide +kernel
theorem d_N_domain_107 : decode b_N_domain 107 = .ok (.iload_n 2, 1) := by decide +kernel
theorem d_N_domain_108 : decode b_N_domain 108 = .ok (.bipush 8, 2) := by decide +kernel
theorem d_N_domain_110 : decode b_N_domain 110 = .ok (.isub, 1) := by decide +kernel
theorem d_N_domain_111 : decode b_N_domain 111 = .ok (.iconst 3, 1) := by decide +kernel
theorem d_N_domain_112 : decode b_N_domain 112 = .ok (.idiv, 1) := by decide +kernel
theorem d_N_domain_113 : decode b_N_domain 113 = .ok (.istore 4, 2) := by decide +kernel
theorem d_N_domain_115 : decode b_N_domain 115 = .ok (.iload_n 2, 1) := by decide +kernel
theorem d_N_domain_116 : decode b_N_domain 116 = .ok (.bipush 8, 2) := by decide +kernel
theorem d_N_domain_118 : decode b_N_domain 118 = .ok (.isub, 1) := by decide +kernel
theorem d_N_domain_119 : decode b_N_domain 119 = .ok (.iconst 3, 1) := by decide +kernel
theorem d_N_domain_120 : decode b_N_domain 120 = .ok (.irem, 1) := by decide +kernel
theorem d_N_domain_121 : decode b_N_domain 121 = .ok (.istore 5, 2) := by decide +kernel
theorem d_N_domain_123 : decode b_N_domain 123 = .ok (.aload_n 0, 1) := by decide +kernel
theorem d_N_domain_124 : decode b_N_domain 124 = .ok (.iload 5, 2) := by decide +kernel
theorem d_N_domain_126 : decode b_N_domain 126 = .ok (.aload_n 0, 1) := by decide +kernel
theorem d_N_domain_127 : decode b_N_domain 127 = .ok (.getfield 67, 3) := by decide +kernel
theorem d_N_domain_130 : decode b_N_domain 130 = .ok (.iconst 2, 1) := by decide +kernel
theorem d_N_domain_131 : decode b_N_domain 131 = .ok (.iload_n 1, 1) := by decide +kernel
theorem d_N_domain_132 : decode b_N_domain 132 = .ok (.imul, 1) := by decide +kernel
theorem d_N_domain_133 : decode b_N_domain 133 = .ok (.iload 4, 2) := by decide +kernel
theorem d_N_domain_135 : decode b_N_domain 135 = .ok (.iadd, 1) := by decide +kernel
theorem d_N_domain_136 : decode b_N_domain 136 = .ok (.iaload, 1) := by decide +kernel
theorem d_N_domain_137 : decode b_N_domain 137 = .ok (.if_icmp .ge 23, 3) := by decide +kernel
theorem d_N_domain_140 : decode b_N_domain 140 = .ok (.aload_n 0, 1) := by decide +kernel
theorem d_N_domain_141 : decode b_N_domain 141 = .ok (.getfield 64, 3) := by decide +kernel
theorem d_N_domain_144 : decode b_N_domain 144 = .ok (.bipush 6, 2) := by decide +kernel
theorem d_N_domain_146 : decode b_N_domain 146 = .ok (.iload_n 1, 1) := by decide +kernel
theorem d_N_domain_147 : decode b_N_domain 147 = .ok (.imul, 1) := by decide +kernel
theorem d_N_domain_148 : decode b_N_domain 148 = .ok (.iconst 3, 1) := by decide +kernel
theorem d_N_domain_149 : decode b_N_domain 149 = .ok (.iload 4, 2) := by decide +kernel
theorem d_N_domain_151 : decode b_N_domain 151 = .ok (.imul, 1) := by decide +kernel
theorem d_N_domain_152 : decode b_N_domain 152 = .ok (.iadd, 1) := by decide +kernel
theorem d_N_domain_153 : decode b_N_domain 153 = .ok (.iload 5, 2) := by decide +kernel
theorem d_N_domain_155 : decode b_N_domain 155 = .ok (.iadd, 1) := by decide +kernel
theorem d_N_domain_156 : decode b_N_domain 156 = .ok (.iaload, 1) := by decide +kernel
theorem d_N_domain_157 : decode b_N_domain 157 = .ok (.goto 4, 3) := by decide +kernel
theorem d_N_domain_160 : decode b_N_domain 160 = .ok (.iconst (-1), 1) := by decide +kernel
theorem d_N_domain_161 : decode b_N_domain 161 = .ok (.invokevirtual 126, 3) := by decide +kernel
theorem d_N_domain_164 : decode b_N_domain 164 = .ok (.ireturn, 1) := by decide +kernel
theorem d_N_domain_165 : decode b_N_domain 165 = .ok (.iload_n 2, 1) := by decide +kernel
theorem d_N_domain_166 : decode b_N_domain 166 = .ok (.tableswitch 125 0 6 #[42, 53, 64, 75, 86, 99, 114], 42) := by decide +kernel
theorem d_N_domain_208 : decode b_N_domain 208 = .ok (.aload_n 0, 1) := by decide +kernel
theorem d_N_domain_209 : decode b_N_domain 209 = .ok (.aload_n 0, 1) := by decide +kernel
theorem d_N_domain_210 : decode b_N_domain 210 = .ok (.getfield 40, 3) := by decide +kernel
theorem d_N_domain_213 : decode b_N_domain 213 = .ok (.iload_n 1, 1) := by decide +kernel
theorem d_N_domain_214 : decode b_N_domain 214 = .ok (.iaload, 1) := by decide +kernel
theorem d_N_domain_215 : decode b_N_domain 215 = .ok (.invokevirtual 126, 3) := by decide +kernel
theorem d_N_domain_218 : decode b_N_domain 218 = .ok (.ireturn, 1) := by decide +kernel
theorem d_N_domain_219 : decode b_N_domain 219 = .ok (.aload_n 0, 1) := by decide +kernel
theorem d_N_domain_220 : decode b_N_domain 220 = .ok (.aload_n 0, 1) := by decide +kernel
theorem d_N_domain_221 : decode b_N_domain 221 = .ok (.getfield 43, 3) := by decide +kernel
theorem d_N_domain_224 : decode b_N_domain 224 = .ok (.iload_n 1, 1) := by decide +kernel
theorem d_N_domain_225 : decode b_N_domain 225 = .ok (.iaload, 1) := by decide +kernel
theorem d_N_domain_226 : decode b_N_domain 226 = .ok (.invokevirtual 126, 3) := by decide +kernel
theorem d_N_domain_229 : decode b_N_domain 229 = .ok (.ireturn, 1) := by decide +kernel
theorem d_N_domain_230 : decode b_N_domain 230 = .ok (.aload_n 0, 1) := by decide +kernel
theorem d_N_domain_231 : decode b_N_domain 231 = .ok (.aload_n 0, 1) := by decide +kernel
theorem d_N_domain_232 : decode b_N_domain 232 = .ok (.getfield 49, 3) := by decide +kernel
theorem d_N_domain_235 : decode b_N_domain 235 = .ok (.iload_n 1, 1) := by decide +kernel
theorem d_N_domain_236 : decode b_N_domain 236 = .ok (.iaload, 1) := by decide +kernel
theorem d_N_domain_237 : decode b_N_domain 237 = .ok (.invokevirtual 126, 3) := by decide +kernel
theorem d_N_domain_240 : decode b_N_domain 240 = .ok (.ireturn, 1) := by decide +kernel
theorem d_N_domain_241 : decode b_N_domain 241 = .ok (.aload_n 0, 1) := by decide +kernel
theorem d_N_domain_242 : decode b_N_domain 242 = .ok (.aload_n 0, 1) := by decide +kernel
theorem d_N_domain_243 : decode b_N_domain 243 = .ok (.getfield 52, 3) := by decide +kernel
theorem d_N_domain_246 : decode b_N_domain 246 = .ok (.iload_n 1, 1) := by decide +kernel
theorem d_N_domain_247 : decode b_N_domain 247 = .ok (.iaload, 1) := by decide +kernel
theorem d_N_domain_248 : decode b_N_domain 248 = .ok (.invokevirtual 126, 3) := by decide +kernel
theorem d_N_domain_251 : decode b_N_domain 251 = .ok (.ireturn, 1) := by decide +kernel
theorem d_N_domain_252 : decode b_N_domain 252 = .ok (.aload_n 0, 1) := by decide +kernel
theorem d_N_domain_253 : decode b_N_domain 253 = .ok (.aload_n 0, 1) := by decide +kernel
theorem d_N_domain_254 : decode b_N_domain 254 = .ok (.getfield 67, 3) := by decide +kernel
theorem d_N_domain_257 : decode b_N_domain 257 = .ok (.iconst 2, 1) := by decide +kernel
theorem d_N_domain_258 : decode b_N_domain 258 = .ok (.iload_n 1, 1) := by decide +kernel
theorem d_N_domain_259 : decode b_N_domain 259 = .ok (.imul, 1) := by decide +kernel
theorem d_N_domain_260 : decode b_N_domain 260 = .ok (.iaload, 1) := by decide +kernel
theorem d_N_domain_261 : decode b_N_domain 261 = .ok (.invokevirtual 126, 3) := by decide +kernel
theorem d_N_domain_264 : decode b_N_domain 264 = .ok (.ireturn, 1) := by decide +kernel
theorem d_N_domain_265 : decode b_N_domain 265 = .ok (.aload_n 0, 1) := by decide +kernel
theorem d_N_domain_266 : decode b_N_domain 266 = .ok (.aload_n 0, 1) := by decide +kernel
theorem d_N_domain_267 : decode b_N_domain 267 = .ok (.getfield 67, 3) := by decide +kernel
theorem d_N_domain_270 : decode b_N_domain 270 = .ok (.iconst 2, 1) := by decide +kernel
theorem d_N_domain_271 : decode b_N_domain 271 = .ok (.iload_n 1, 1) := by decide +kernel
theorem d_N_domain_272 : decode b_N_domain 272 = .ok (.imul, 1) := by decide +kernel
theorem d_N_domain_273 : decode b_N_domain 273 = .ok (.iconst 1, 1) := by decide +kernel
theorem d_N_domain_274 : decode b_N_domain 274 = .ok (.iadd, 1) := by decide +kernel
theorem d_N_domain_275 : decode b_N_domain 275 = .ok (.iaload, 1) := by decide +kernel
theorem d_N_domain_276 : decode b_N_domain 276 = .ok (.invokevirtual 126, 3) := by decide +kernel
theorem d_N_domain_279 : decode b_N_domain 279 = .ok (.ireturn, 1) := by decide +kernel
theorem d_N_domain_280 : decode b_N_domain 280 = .ok (.aload_n 0, 1) := by decide +kernel
theorem d_N_domain_281 : decode b_N_domain 281 = .ok (.aload_n 0, 1) := by decide +kernel
theorem d_N_domain_282 : decode b_N_domain 282 = .ok (.getfield 58, 3) := by decide +kernel
theorem d_N_domain_285 : decode b_N_domain 285 = .ok (.iload_n 1, 1) := by decide +kernel
theorem d_N_domain_286 : decode b_N_domain 286 = .ok (.iaload, 1) := by decide +kernel
theorem d_N_domain_287 : decode b_N_domain 287 = .ok (.invokevirtual 126, 3) := by decide +kernel
theorem d_N_domain_290 : decode b_N_domain 290 = .ok (.ireturn, 1) := by decide +kernel
theorem d_N_domain_291 : decode b_N_domain 291 = .ok (.aload_n 0, 1) := by decide +kernel
theorem d_N_domain_292 : decode b_N_domain 292 = .ok (.iload_n 3, 1) := by decide +kernel
theorem d_N_domain_293 : decode b_N_domain 293 = .ok (.invokevirtual 126, 3) := by decide +kernel
theorem d_N_domain_296 : decode b_N_domain 296 = .ok (.ireturn, 1) := by decide +kernel
theorem d_N_thing_0 : decode b_N_thing 0 = .ok (.iload_n 1, 1) := by decide +kernel
theorem d_N_thing_1 : decode b_N_thing 1 = .ok (.bipush 100, 2) := by decide +kernel
theorem d_N_thing_3 : decode b_N_thing 3 = .ok (.if_icmp .lt 7, 3) := by decide +kernel
theorem d_N_thing_6 : decode b_N_thing 6 = .ok (.iconst 0, 1) := by decide +kernel
theorem d_N_thing_7 : decode b_N_thing 7 = .ok (.goto 4, 3) := by decide +kernel
theorem d_N_thing_10 : decode b_N_thing 10 = .ok (.iconst 1, 1) := by decide +kernel
theorem d_N_thing_11 : decode b_N_thing 11 = .ok (.istore_n 3, 1) := by decide +kernel
theorem d_N_thing_12 : decode b_N_thing 12 = .ok (.iload_n 3, 1) := by decide +kernel
theorem d_N_thing_13 : decode b_N_thing 13 = .ok (.ifCond .ne 10, 3) := by decide +kernel
theorem d_N_thing_16 : decode b_N_thing 16 = .ok (.iload_n 1, 1) := by decide +kernel
theorem d_N_thing_17 : decode b_N_thing 17 = .ok (.bipush 100, 2) := by decide +kernel
theorem d_N_thing_19 : decode b_N_thing 19 = .ok (.isub, 1) := by decide +kernel
theorem d_N_thing_20 : decode b_N_thing 20 = .ok (.goto 4, 3) := by decide +kernel
theorem d_N_thing_23 : decode b_N_thing 23 = .ok (.iload_n 1, 1) := by decide +kernel
theorem d_N_thing_24 : decode b_N_thing 24 = .ok (.istore 4, 2) := by decide +kernel
theorem d_N_thing_26 : decode b_N_thing 26 = .ok (.iload 4, 2) := by decide +kernel
theorem d_N_thing_28 : decode b_N_thing 28 = .ok (.iconst 0, 1) := by decide +kernel
theorem d_N_thing_29 : decode b_N_thing 29 = .ok (.bipush 7, 2) := by decide +kernel
theorem d_N_thing_31 : decode b_N_thing 31 = .ok (.invokestatic 116, 3) := by decide +kernel
theorem d_N_thing_34 : decode b_N_thing 34 = .ok (.ifCond .eq 12, 3) := by decide +kernel
theorem d_N_thing_37 : decode b_N_thing 37 = .ok (.iload_n 2, 1) := by decide +kernel
theorem d_N_thing_38 : decode b_N_thing 38 = .ok (.iconst 0, 1) := by decide +kernel
theorem d_N_thing_39 : decode b_N_thing 39 = .ok (.iconst 3, 1) := by decide +kernel
theorem d_N_thing_40 : decode b_N_thing 40 = .ok (.invokestatic 116, 3) := by decide +kernel
theorem d_N_thing_43 : decode b_N_thing 43 = .ok (.ifCond .ne 9, 3) := by decide +kernel
theorem d_N_thing_46 : decode b_N_thing 46 = .ok (.aload_n 0, 1) := by decide +kernel
theorem d_N_thing_47 : decode b_N_thing 47 = .ok (.iconst 1, 1) := by decide +kernel
theorem d_N_thing_48 : decode b_N_thing 48 = .ok (.invokevirtual 122, 3) := by decide +kernel
theorem d_N_thing_51 : decode b_N_thing 51 = .ok (.ireturn, 1) := by decide +kernel
theorem d_N_thing_52 : decode b_N_thing 52 = .ok (.aload_n 0, 1) := by decide +kernel
theorem d_N_thing_53 : decode b_N_thing 53 = .ok (.iload_n 3, 1) := by decide +kernel
theorem d_N_thing_54 : decode b_N_thing 54 = .ok (.iload 4, 2) := by decide +kernel
theorem d_N_thing_56 : decode b_N_thing 56 = .ok (.invokevirtual 137, 3) := by decide +kernel
theorem d_N_thing_59 : decode b_N_thing 59 = .ok (.ifCond .eq 9, 3) := by decide +kernel
theorem d_N_thing_62 : decode b_N_thing 62 = .ok (.aload_n 0, 1) := by decide +kernel
theorem d_N_thing_63 : decode b_N_thing 63 = .ok (.iconst 2, 1) := by decide +kernel
theorem d_N_thing_64 : decode b_N_thing 64 = .ok (.invokevirtual 122, 3) := by decide +kernel
theorem d_N_thing_67 : decode b_N_thing 67 = .ok (.ireturn, 1) := by decide +kernel
theorem d_N_thing_68 : decode b_N_thing 68 = .ok (.iload_n 2, 1) := by decide +kernel
theorem d_N_thing_69 : decode b_N_thing 69 = .ok (.iconst 3, 1) := by decide +kernel
theorem d_N_thing_70 : decode b_N_thing 70 = .ok (.if_icmp .ne 15, 3) := by decide +kernel
theorem d_N_thing_73 : decode b_N_thing 73 = .ok (.aload_n 0, 1) := by decide +kernel
theorem d_N_thing_74 : decode b_N_thing 74 = .ok (.aload_n 0, 1) := by decide +kernel
theorem d_N_thing_75 : decode b_N_thing 75 = .ok (.iload_n 3, 1) := by decide +kernel
theorem d_N_thing_76 : decode b_N_thing 76 = .ok (.iload 4, 2) := by decide +kernel
theorem d_N_thing_78 : decode b_N_thing 78 = .ok (.invokevirtual 141, 3) := by decide +kernel
theorem d_N_thing_81 : decode b_N_thing 81 = .ok (.invokevirtual 126, 3) := by decide +kernel
theorem d_N_thing_84 : decode b_N_thing 84 = .ok (.ireturn, 1) := by decide +kernel
theorem d_N_thing_85 : decode b_N_thing 85 = .ok (.iload_n 3, 1) := by decide +kernel
theorem d_N_thing_86 : decode b_N_thing 86 = .ok (.ifCond .ne 23, 3) := by decide +kernel
theorem d_N_thing_89 : decode b_N_thing 89 = .ok (.aload_n 0, 1) := by decide +kernel
theorem d_N_thing_90 : decode b_N_thing 90 = .ok (.iload_n 2, 1) := by decide +kernel
theorem d_N_thing_91 : decode b_N_thing 91 = .ok (.ifCond .ne 13, 3) := by decide +kernel
theorem d_N_thing_94 : decode b_N_thing 94 = .ok (.aload_n 0, 1) := by decide +kernel
theorem d_N_thing_95 : decode b_N_thing 95 = .ok (.getfield 28, 3) := by decide +kernel
theorem d_N_thing_98 : decode b_N_thing 98 = .ok (.iload 4, 2) := by decide +kernel
theorem d_N_thing_100 : decode b_N_thing 100 = .ok (.iaload, 1) := by decide +kernel
theorem d_N_thing_101 : decode b_N_thing 101 = .ok (.goto 4, 3) := by decide +kernel
theorem d_N_thing_104 : decode b_N_thing 104 = .ok (.iconst (-1), 1) := by decide +kernel
theorem d_N_thing_105 : decode b_N_thing 105 = .ok (.invokevirtual 126, 3) := by decide +kernel
theorem d_N_thing_108 : decode b_N_thing 108 = .ok (.ireturn, 1) := by decide +kernel
theorem d_N_thing_109 : decode b_N_thing 109 = .ok (.aload_n 0, 1) := by decide +kernel
theorem d_N_thing_110 : decode b_N_thing 110 = .ok (.iload_n 2, 1) := by decide +kernel
theorem d_N_thing_111 : decode b_N_thing 111 = .ok (.ifCond .ne 13, 3) := by decide +kernel
theorem d_N_thing_114 : decode b_N_thing 114 = .ok (.aload_n 0, 1) := by decide +kernel
theorem d_N_thing_115 : decode b_N_thing 115 = .ok (.getfield 31, 3) := by decide +kernel
theorem d_N_thing_118 : decode b_N_thing 118 = .ok (.iload 4, 2) := by decide +kernel
theorem d_N_thing_120 : decode b_N_thing 120 = .ok (.iaload, 1) := by decide +kernel
theorem d_N_thing_121 : decode b_N_thing 121 = .ok (.goto 25, 3) := by decide +kernel
theorem d_N_thing_124 : decode b_N_thing 124 = .ok (.iload_n 2, 1) := by decide +kernel
theorem d_N_thing_125 : decode b_N_thing 125 = .ok (.iconst 1, 1) := by decide +kernel
theorem d_N_thing_126 : decode b_N_thing 126 = .ok (.if_icmp .ne 13, 3) := by decide +kernel
theorem d_N_thing_129 : decode b_N_thing 129 = .ok (.aload_n 0, 1) := by decide +kernel
theorem d_N_thing_130 : decode b_N_thing 130 = .ok (.getfield 34, 3) := by decide +kernel
theorem d_N_thing_133 : decode b_N_thing 133 = .ok (.iload 4, 2) := by decide +kernel
theorem d_N_thing_135 : decode b_N_thing 135 = .ok (.iaload, 1) := by decide +kernel
theorem d_N_thing_136 : decode b_N_thing 136 = .ok (.goto 10, 3) := by decide +kernel
theorem d_N_thing_139 : decode b_N_thing 139 = .ok (.aload_n 0, 1) := by decide +kernel
theorem d_N_thing_140 : decode b_N_thing 140 = .ok (.getfield 37, 3) := by decide +kernel
theorem d_N_thing_143 : decode b_N_thing 143 = .ok (.iload 4, 2) := by decide +kernel
theorem d_N_thing_145 : decode b_N_thing 145 = .ok (.iaload, 1) := by decide +kernel
theorem d_N_thing_146 : decode b_N_thing 146 = .ok (.invokevirtual 126, 3) := by decide +kernel
theorem d_N_thing_149 : decode b_N_thing 149 = .ok (.ireturn, 1) := by decide +kernel
theorem d_N_row_0 : decode b_N_row 0 = .ok (.iconst 0, 1) := by decide +kernel
theorem d_N_row_1 : decode b_N_row 1 = .ok (.istore_n 2, 1) := by decide +kernel
theorem d_N_row_2 : decode b_N_row 2 = .ok (.iconst 0, 1) := by decide +kernel
theorem d_N_row_3 : decode b_N_row 3 = .ok (.istore_n 3, 1) := by decide +kernel
theorem d_N_row_4 : decode b_N_row 4 = .ok (.iload_n 3, 1) := by decide +kernel
theorem d_N_row_5 : decode b_N_row 5 = .ok (.bipush 10, 2) := by decide +kernel
theorem d_N_row_7 : decode b_N_row 7 = .ok (.if_icmp .ge 175, 3) := by decide +kernel
theorem d_N_row_10 : decode b_N_row 10 = .ok (.aload_n 0, 1) := by decide +kernel
theorem d_N_row_11 : decode b_N_row 11 = .ok (.getfield 67, 3) := by decide +kernel
theorem d_N_row_14 : decode b_N_row 14 = .ok (.iconst 2, 1) := by decide +kernel
theorem d_N_row_15 : decode b_N_row 15 = .ok (.iload_n 3, 1) := by decide +kernel
theorem d_N_row_16 : decode b_N_row 16 = .ok (.imul, 1) := by decide +kernel
theorem d_N_row_17 : decode b_N_row 17 = .ok (.iconst 1, 1) := by decide +kernel
theorem d_N_row_18 : decode b_N_row 18 = .ok (.iadd, 1) := by decide +kernel
theorem d_N_row_19 : decode b_N_row 19 = .ok (.iaload, 1) := by decide +kernel
theorem d_N_row_20 : decode b_N_row 20 = .ok (.istore 4, 2) := by decide +kernel
theorem d_N_row_22 : decode b_N_row 22 = .ok (.aload_n 0, 1) := by decide +kernel
theorem d_N_row_23 : decode b_N_row 23 = .ok (.iload_n 3, 1) := by decide +kernel
theorem d_N_row_24 : decode b_N_row 24 = .ok (.invokevirtual 133, 3) := by decide +kernel
theorem d_N_row_27 : decode b_N_row 27 = .ok (.ifCond .ne 149, 3) := by decide +kernel
theorem d_N_row_30 : decode b_N_row 30 = .ok (.aload_n 0, 1) := by decide +kernel
theorem d_N_row_31 : decode b_N_row 31 = .ok (.getfield 52, 3) := by decide +kernel
theorem d_N_row_34 : decode b_N_row 34 = .ok (.iload_n 3, 1) := by decide +kernel
theorem d_N_row_35 : decode b_N_row 35 = .ok (.iaload, 1) := by decide +kernel
theorem d_N_row_36 : decode b_N_row 36 = .ok (.ifCond .ne 140, 3) := by decide +kernel
theorem d_N_row_39 : decode b_N_row 39 = .ok (.aload_n 0, 1) := by decide +kernel
theorem d_N_row_40 : decode b_N_row 40 = .ok (.getfield 49, 3) := by decide +kernel
theorem d_N_row_43 : decode b_N_row 43 = .ok (.iload_n 3, 1) := by decide +kernel
theorem d_N_row_44 : decode b_N_row 44 = .ok (.iaload, 1) := by decide +kernel
theorem d_N_row_45 : decode b_N_row 45 = .ok (.bipush 16, 2) := by decide +kernel
theorem d_N_row_47 : decode b_N_row 47 = .ok (.iand, 1) := by decide +kernel
theorem d_N_row_48 : decode b_N_row 48 = .ok (.ifCond .ne 128, 3) := by decide +kernel
theorem d_N_row_51 : decode b_N_row 51 = .ok (.iload 4, 2) := by decide +kernel
theorem d_N_row_53 : decode b_N_row 53 = .ok (.ifCond .ne 6, 3) := by decide +kernel
theorem d_N_row_56 : decode b_N_row 56 = .ok (.goto 120, 3) := by decide +kernel
theorem d_N_row_59 : decode b_N_row 59 = .ok (.iconst 0, 1) := by decide +kernel
theorem d_N_row_60 : decode b_N_row 60 = .ok (.istore 5, 2) := by decide +kernel
theorem d_N_row_62 : decode b_N_row 62 = .ok (.iload 5, 2) := by decide +kernel
theorem d_N_row_64 : decode b_N_row 64 = .ok (.iload 4, 2) := by decide +kernel
theorem d_N_row_66 : decode b_N_row 66 = .ok (.if_icmp .ge 38, 3) := by decide +kernel
theorem d_N_row_69 : decode b_N_row 69 = .ok (.iload_n 2, 1) := by decide +kernel
theorem d_N_row_70 : decode b_N_row 70 = .ok (.iload_n 1, 1) := by decide +kernel
theorem d_N_row_71 : decode b_N_row 71 = .ok (.if_icmp .ne 24, 3) := by decide +kernel
theorem d_N_row_74 : decode b_N_row 74 = .ok (.sipush 1000, 3) := by decide +kernel
theorem d_N_row_77 : decode b_N_row 77 = .ok (.iload_n 3, 1) := by decide +kernel
theorem d_N_row_78 : decode b_N_row 78 = .ok (.imul, 1) := by decide +kernel
theorem d_N_row_79 : decode b_N_row 79 = .ok (.aload_n 0, 1) := by decide +kernel
theorem d_N_row_80 : decode b_N_row 80 = .ok (.getfield 64, 3) := by decide +kernel
theorem d_N_row_83 : decode b_N_row 83 = .ok (.bipush 6, 2) := by decide +kernel
theorem d_N_row_85 : decode b_N_row 85 = .ok (.iload_n 3, 1) := by decide +kernel
theorem d_N_row_86 : decode b_N_row 86 = .ok (.imul, 1) := by decide +kernel
theorem d_N_row_87 : decode b_N_row 87 = .ok (.iconst 3, 1) := by decide +kernel
theorem d_N_row_88 : decode b_N_row 88 = .ok (.iadd, 1) := by decide +kernel
theorem d_N_row_89 : decode b_N_row 89 = .ok (.iload 5, 2) := by decide +kernel
theorem d_N_row_91 : decode b_N_row 91 = .ok (.iadd, 1) := by decide +kernel
theorem d_N_row_92 : decode b_N_row 92 = .ok (.iaload, 1) := by decide +kernel
theorem d_N_row_93 : decode b_N_row 93 = .ok (.iadd, 1) := by decide +kernel
theorem d_N_row_94 : decode b_N_row 94 = .ok (.ireturn, 1) := by decide +kernel
theorem d_N_row_95 : decode b_N_row 95 = .ok (.iinc 2 1, 3) := by decide +kernel
theorem d_N_row_98 : decode b_N_row 98 = .ok (.iinc 5 1, 3) := by decide +kernel
theorem d_N_row_101 : decode b_N_row 101 = .ok (.goto (-39), 3) := by decide +kernel
theorem d_N_row_104 : decode b_N_row 104 = .ok (.iconst 0, 1) := by decide +kernel
theorem d_N_row_105 : decode b_N_row 105 = .ok (.istore 5, 2) := by decide +kernel
theorem d_N_row_107 : decode b_N_row 107 = .ok (.iload 5, 2) := by decide +kernel
theorem d_N_row_109 : decode b_N_row 109 = .ok (.aload_n 0, 1) := by decide +kernel
theorem d_N_row_110 : decode b_N_row 110 = .ok (.getfield 85, 3) := by decide +kernel
theorem d_N_row_113 : decode b_N_row 113 = .ok (.if_icmp .ge 63, 3) := by decide +kernel
theorem d_N_row_116 : decode b_N_row 116 = .ok (.aload_n 0, 1) := by decide +kernel
theorem d_N_row_117 : decode b_N_row 117 = .ok (.getfield 31, 3) := by decide +kernel
theorem d_N_row_120 : decode b_N_row 120 = .ok (.iload 5, 2) := by decide +kernel
theorem d_N_row_122 : decode b_N_row 122 = .ok (.iaload, 1) := by decide +kernel
theorem d_N_row_123 : decode b_N_row 123 = .ok (.ifCond .lt 47, 3) := by decide +kernel
theorem d_N_row_126 : decode b_N_row 126 = .ok (.aload_n 0, 1) := by decide +kernel
theorem d_N_row_127 : decode b_N_row 127 = .ok (.getfield 37, 3) := by decide +kernel
theorem d_N_row_130 : decode b_N_row 130 = .ok (.iload 5, 2) := by decide +kernel
theorem d_N_row_132 : decode b_N_row 132 = .ok (.iaload, 1) := by decide +kernel
theorem d_N_row_133 : decode b_N_row 133 = .ok (.iload_n 3, 1) := by decide +kernel
theorem d_N_row_134 : decode b_N_row 134 = .ok (.if_icmp .ne 36, 3) := by decide +kernel
theorem d_N_row_137 : decode b_N_row 137 = .ok (.aload_n 0, 1) := by decide +kernel
theorem d_N_row_138 : decode b_N_row 138 = .ok (.iconst 1, 1) := by decide +kernel
theorem d_N_row_139 : decode b_N_row 139 = .ok (.iload 5, 2) := by decide +kernel
theorem d_N_row_141 : decode b_N_row 141 = .ok (.invokevirtual 141, 3) := by decide +kernel
theorem d_N_row_144 : decode b_N_row 144 = .ok (.ifCond .ne 6, 3) := by decide +kernel
theorem d_N_row_147 : decode b_N_row 147 = .ok (.goto 23, 3) := by decide +kernel
theorem d_N_row_150 : decode b_N_row 150 = .ok (.iload_n 2, 1) := by decide +kernel
theorem d_N_row_151 : decode b_N_row 151 = .ok (.iload_n 1, 1) := by decide +kernel
theorem d_N_row_152 : decode b_N_row 152 = .ok (.if_icmp .ne 15, 3) := by decide +kernel
theorem d_N_row_155 : decode b_N_row 155 = .ok (.sipush 1000, 3) := by decide +kernel
theorem d_N_row_158 : decode b_N_row 158 = .ok (.iload_n 3, 1) := by decide +kernel
theorem d_N_row_159 : decode b_N_row 159 = .ok (.imul, 1) := by decide +kernel
theorem d_N_row_160 : decode b_N_row 160 = .ok (.bipush 100, 2) := by decide +kernel
theorem d_N_row_162 : decode b_N_row 162 = .ok (.iadd, 1) := by decide +kernel
theorem d_N_row_163 : decode b_N_row 163 = .ok (.iload 5, 2) := by decide +kernel
theorem d_N_row_165 : decode b_N_row 165 = .ok (.iadd, 1) := by decide +kernel
theorem d_N_row_166 : decode b_N_row 166 = .ok (.ireturn, 1) := by decide +kernel
theorem d_N_row_167 : decode b_N_row 167 = .ok (.iinc 2 1, 3) := by decide +kernel
theorem d_N_row_170 : decode b_N_row 170 = .ok (.iinc 5 1, 3) := by decide +kernel
theorem d_N_row_173 : decode b_N_row 173 = .ok (.goto (-66), 3) := by decide +kernel
theorem d_N_row_176 : decode b_N_row 176 = .ok (.iinc 3 1, 3) := by decide +kernel
theorem d_N_row_179 : decode b_N_row 179 = .ok (.goto (-175), 3) := by decide +kernel
theorem d_N_row_182 : decode b_N_row 182 = .ok (.iconst (-1), 1) := by decide +kernel
theorem d_N_row_183 : decode b_N_row 183 = .ok (.iload_n 2, 1) := by decide +kernel
theorem d_N_row_184 : decode b_N_row 184 = .ok (.isub, 1) := by decide +kernel
theorem d_N_row_185 : decode b_N_row 185 = .ok (.ireturn, 1) := by decide +kernel
theorem d_N_zone_0 : decode b_N_zone 0 = .ok (.iload_n 1, 1) := by decide +kernel
theorem d_N_zone_1 : decode b_N_zone 1 = .ok (.ifCond .ge 7, 3) := by decide +kernel
theorem d_N_zone_4 : decode b_N_zone 4 = .ok (.iconst (-1), 1) := by decide +kernel
theorem d_N_zone_5 : decode b_N_zone 5 = .ok (.goto 8, 3) := by decide +kernel
theorem d_N_zone_8 : decode b_N_zone 8 = .ok (.aload_n 0, 1) := by decide +kernel
theorem d_N_zone_9 : decode b_N_zone 9 = .ok (.iload_n 1, 1) := by decide +kernel
theorem d_N_zone_10 : decode b_N_zone 10 = .ok (.invokevirtual 183, 3) := by decide +kernel
theorem d_N_zone_13 : decode b_N_zone 13 = .ok (.istore_n 2, 1) := by decide +kernel
theorem d_N_zone_14 : decode b_N_zone 14 = .ok (.iload_n 2, 1) := by decide +kernel
theorem d_N_zone_15 : decode b_N_zone 15 = .ok (.ifCond .ge 11, 3) := by decide +kernel
theorem d_N_zone_18 : decode b_N_zone 18 = .ok (.aload_n 0, 1) := by decide +kernel
theorem d_N_zone_19 : decode b_N_zone 19 = .ok (.iconst 2, 1) := by decide +kernel
theorem d_N_zone_20 : decode b_N_zone 20 = .ok (.invokevirtual 122, 3) := by decide +kernel
theorem d_N_zone_23 : decode b_N_zone 23 = .ok (.goto 8, 3) := by decide +kernel
theorem d_N_zone_26 : decode b_N_zone 26 = .ok (.aload_n 0, 1) := by decide +kernel
theorem d_N_zone_27 : decode b_N_zone 27 = .ok (.iload_n 2, 1) := by decide +kernel
theorem d_N_zone_28 : decode b_N_zone 28 = .ok (.invokevirtual 126, 3) := by decide +kernel
theorem d_N_zone_31 : decode b_N_zone 31 = .ok (.ireturn, 1) := by decide +kernel
theorem d_N_domains_0 : decode b_N_domains 0 = .ok (.iconst 0, 1) := by decide +kernel
theorem d_N_domains_1 : decode b_N_domains 1 = .ok (.istore_n 1, 1) := by decide +kernel
theorem d_N_domains_2 : decode b_N_domains 2 = .ok (.iconst 0, 1) := by decide +kernel
theorem d_N_domains_3 : decode b_N_domains 3 = .ok (.istore_n 2, 1) := by decide +kernel
theorem d_N_domains_4 : decode b_N_domains 4 = .ok (.iload_n 2, 1) := by decide +kernel
theorem d_N_domains_5 : decode b_N_domains 5 = .ok (.bipush 10, 2) := by decide +kernel
theorem d_N_domains_7 : decode b_N_domains 7 = .ok (.if_icmp .ge 20, 3) := by decide +kernel
theorem d_N_domains_10 : decode b_N_domains 10 = .ok (.aload_n 0, 1) := by decide +kernel
theorem d_N_domains_11 : decode b_N_domains 11 = .ok (.iload_n 2, 1) := by decide +kernel
theorem d_N_domains_12 : decode b_N_domains 12 = .ok (.invokevirtual 133, 3) := by decide +kernel
theorem d_N_domains_15 : decode b_N_domains 15 = .ok (.ifCond .ne 6, 3) := by decide +kernel
theorem d_N_domains_18 : decode b_N_domains 18 = .ok (.iinc 1 1, 3) := by decide +kernel
theorem d_N_domains_21 : decode b_N_domains 21 = .ok (.iinc 2 1, 3) := by decide +kernel
theorem d_N_domains_24 : decode b_N_domains 24 = .ok (.goto (-20), 3) := by decide +kernel
theorem d_N_domains_27 : decode b_N_domains 27 = .ok (.iload_n 1, 1) := by decide +kernel
theorem d_N_domains_28 : decode b_N_domains 28 = .ok (.ireturn, 1) := by decide +kernel
theorem d_N_count_0 : decode b_N_count 0 = .ok (.iload_n 1, 1) := by decide +kernel
theorem d_N_count_1 : decode b_N_count 1 = .ok (.tableswitch 121 0 5 #[39, 48, 57, 67, 77, 109], 39) := by decide +kernel
theorem d_N_count_40 : decode b_N_count 40 = .ok (.aload_n 0, 1) := by decide +kernel
theorem d_N_count_41 : decode b_N_count 41 = .ok (.aload_n 0, 1) := by decide +kernel
theorem d_N_count_42 : decode b_N_count 42 = .ok (.getfield 98, 3) := by decide +kernel
theorem d_N_count_45 : decode b_N_count 45 = .ok (.invokevirtual 126, 3) := by decide +kernel
theorem d_N_count_48 : decode b_N_count 48 = .ok (.ireturn, 1) := by decide +kernel
theorem d_N_count_49 : decode b_N_count 49 = .ok (.aload_n 0, 1) := by decide +kernel
theorem d_N_count_50 : decode b_N_count 50 = .ok (.aload_n 0, 1) := by decide +kernel
theorem d_N_count_51 : decode b_N_count 51 = .ok (.invokevirtual 186, 3) := by decide +kernel
theorem d_N_count_54 : decode b_N_count 54 = .ok (.invokevirtual 126, 3) := by decide +kernel
theorem d_N_count_57 : decode b_N_count 57 = .ok (.ireturn, 1) := by decide +kernel
theorem d_N_count_58 : decode b_N_count 58 = .ok (.aload_n 0, 1) := by decide +kernel
theorem d_N_count_59 : decode b_N_count 59 = .ok (.aload_n 0, 1) := by decide +kernel
theorem d_N_count_60 : decode b_N_count 60 = .ok (.iconst 0, 1) := by decide +kernel
theorem d_N_count_61 : decode b_N_count 61 = .ok (.invokevirtual 145, 3) := by decide +kernel
theorem d_N_count_64 : decode b_N_count 64 = .ok (.invokevirtual 126, 3) := by decide +kernel
theorem d_N_count_67 : decode b_N_count 67 = .ok (.ireturn, 1) := by decide +kernel
theorem d_N_count_68 : decode b_N_count 68 = .ok (.aload_n 0, 1) := by decide +kernel
theorem d_N_count_69 : decode b_N_count 69 = .ok (.aload_n 0, 1) := by decide +kernel
theorem d_N_count_70 : decode b_N_count 70 = .ok (.iconst 1, 1) := by decide +kernel
theorem d_N_count_71 : decode b_N_count 71 = .ok (.invokevirtual 145, 3) := by decide +kernel
theorem d_N_count_74 : decode b_N_count 74 = .ok (.invokevirtual 126, 3) := by decide +kernel
theorem d_N_count_77 : decode b_N_count 77 = .ok (.ireturn, 1) := by decide +kernel
theorem d_N_count_78 : decode b_N_count 78 = .ok (.aload_n 0, 1) := by decide +kernel
theorem d_N_count_79 : decode b_N_count 79 = .ok (.aload_n 0, 1) := by decide +kernel
theorem d_N_count_80 : decode b_N_count 80 = .ok (.getfield 21, 3) := by decide +kernel
theorem d_N_count_83 : decode b_N_count 83 = .ok (.iconst 0, 1) := by decide +kernel
theorem d_N_count_84 : decode b_N_count 84 = .ok (.iaload, 1) := by decide +kernel
theorem d_N_count_85 : decode b_N_count 85 = .ok (.aload_n 0, 1) := by decide +kernel
theorem d_N_count_86 : decode b_N_count 86 = .ok (.getfield 21, 3) := by decide +kernel
theorem d_N_count_89 : decode b_N_count 89 = .ok (.iconst 1, 1) := by decide +kernel
theorem d_N_count_90 : decode b_N_count 90 = .ok (.iaload, 1) := by decide +kernel
theorem d_N_count_91 : decode b_N_count 91 = .ok (.iadd, 1) := by decide +kernel
theorem d_N_count_92 : decode b_N_count 92 = .ok (.aload_n 0, 1) := by decide +kernel
theorem d_N_count_93 : decode b_N_count 93 = .ok (.getfield 21, 3) := by decide +kernel
theorem d_N_count_96 : decode b_N_count 96 = .ok (.iconst 2, 1) := by decide +kernel
theorem d_N_count_97 : decode b_N_count 97 = .ok (.iaload, 1) := by decide +kernel
theorem d_N_count_98 : decode b_N_count 98 = .ok (.iadd, 1) := by decide +kernel
theorem d_N_count_99 : decode b_N_count 99 = .ok (.aload_n 0, 1) := by decide +kernel
theorem d_N_count_100 : decode b_N_count 100 = .ok (.getfield 21, 3) := by decide +kernel
theorem d_N_count_103 : decode b_N_count 103 = .ok (.iconst 3, 1) := by decide +kernel
theorem d_N_count_104 : decode b_N_count 104 = .ok (.iaload, 1) := by decide +kernel
theorem d_N_count_105 : decode b_N_count 105 = .ok (.iadd, 1) := by decide +kernel
theorem d_N_count_106 : decode b_N_count 106 = .ok (.invokevirtual 126, 3) := by decide +kernel
theorem d_N_count_109 : decode b_N_count 109 = .ok (.ireturn, 1) := by decide +kernel
theorem d_N_count_110 : decode b_N_count 110 = .ok (.aload_n 0, 1) := by decide +kernel
theorem d_N_count_111 : decode b_N_count 111 = .ok (.iconst (-1), 1) := by decide +kernel
theorem d_N_count_112 : decode b_N_count 112 = .ok (.aload_n 0, 1) := by decide +kernel
theorem d_N_count_113 : decode b_N_count 113 = .ok (.iconst (-1), 1) := by decide +kernel
theorem d_N_count_114 : decode b_N_count 114 = .ok (.invokevirtual 183, 3) := by decide +kernel
theorem d_N_count_117 : decode b_N_count 117 = .ok (.isub, 1) := by decide +kernel
theorem d_N_count_118 : decode b_N_count 118 = .ok (.invokevirtual 126, 3) := by decide +kernel
theorem d_N_count_121 : decode b_N_count 121 = .ok (.ireturn, 1) := by decide +kernel
theorem d_N_count_122 : decode b_N_count 122 = .ok (.aload_n 0, 1) := by decide +kernel
theorem d_N_count_123 : decode b_N_count 123 = .ok (.iconst (-1), 1) := by decide +kernel
theorem d_N_count_124 : decode b_N_count 124 = .ok (.invokevirtual 126, 3) := by decide +kernel
theorem d_N_count_127 : decode b_N_count 127 = .ok (.ireturn, 1) := by decide +kernel
