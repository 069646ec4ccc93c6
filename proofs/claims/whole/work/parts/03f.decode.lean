theorem dX12_rules_35 : decode cX12_rules 35 = .ok (.iconst 0, 1) := by decide +kernel
theorem dX12_rules_36 : decode cX12_rules 36 = .ok (.istore_n 2, 1) := by decide +kernel
theorem dX12_rules_37 : decode cX12_rules 37 = .ok (.iload_n 2, 1) := by decide +kernel
theorem dX12_rules_38 : decode cX12_rules 38 = .ok (.aload_n 0, 1) := by decide +kernel
theorem dX12_rules_39 : decode cX12_rules 39 = .ok (.getfield 216, 3) := by decide +kernel
theorem dX12_rules_42 : decode cX12_rules 42 = .ok (.if_icmp .ge 30, 3) := by decide +kernel
theorem dX12_rules_45 : decode cX12_rules 45 = .ok (.aload_n 0, 1) := by decide +kernel
theorem dX12_rules_46 : decode cX12_rules 46 = .ok (.getfield 7, 3) := by decide +kernel
theorem dX12_rules_49 : decode cX12_rules 49 = .ok (.sipush 264, 3) := by decide +kernel
theorem dX12_rules_52 : decode cX12_rules 52 = .ok (.bipush 120, 2) := by decide +kernel
theorem dX12_rules_54 : decode cX12_rules 54 = .ok (.iload_n 1, 1) := by decide +kernel
theorem dX12_rules_55 : decode cX12_rules 55 = .ok (.imul, 1) := by decide +kernel
theorem dX12_rules_56 : decode cX12_rules 56 = .ok (.iadd, 1) := by decide +kernel
theorem dX12_rules_57 : decode cX12_rules 57 = .ok (.iload_n 2, 1) := by decide +kernel
theorem dX12_rules_58 : decode cX12_rules 58 = .ok (.iadd, 1) := by decide +kernel
theorem dX12_rules_59 : decode cX12_rules 59 = .ok (.aload_n 0, 1) := by decide +kernel
theorem dX12_rules_60 : decode cX12_rules 60 = .ok (.getfield 34, 3) := by decide +kernel
theorem dX12_rules_63 : decode cX12_rules 63 = .ok (.iload_n 2, 1) := by decide +kernel
theorem dX12_rules_64 : decode cX12_rules 64 = .ok (.iaload, 1) := by decide +kernel
theorem dX12_rules_65 : decode cX12_rules 65 = .ok (.iastore, 1) := by decide +kernel
theorem dX12_rules_66 : decode cX12_rules 66 = .ok (.iinc 2 1, 3) := by decide +kernel
theorem dX12_rules_69 : decode cX12_rules 69 = .ok (.goto (-32), 3) := by decide +kernel
theorem dX12_rules_72 : decode cX12_rules 72 = .ok (.iconst 0, 1) := by decide +kernel
theorem dX12_rules_73 : decode cX12_rules 73 = .ok (.istore_n 2, 1) := by decide +kernel
theorem dX12_rules_74 : decode cX12_rules 74 = .ok (.iload_n 2, 1) := by decide +kernel
theorem dX12_rules_75 : decode cX12_rules 75 = .ok (.aload_n 0, 1) := by decide +kernel
theorem dX12_rules_76 : decode cX12_rules 76 = .ok (.getfield 219, 3) := by decide +kernel
theorem dX12_rules_79 : decode cX12_rules 79 = .ok (.if_icmp .ge 35, 3) := by decide +kernel
theorem dX12_rules_82 : decode cX12_rules 82 = .ok (.aload_n 0, 1) := by decide +kernel
theorem dX12_rules_83 : decode cX12_rules 83 = .ok (.getfield 7, 3) := by decide +kernel
theorem dX12_rules_86 : decode cX12_rules 86 = .ok (.sipush 264, 3) := by decide +kernel
theorem dX12_rules_89 : decode cX12_rules 89 = .ok (.bipush 120, 2) := by decide +kernel
theorem dX12_rules_91 : decode cX12_rules 91 = .ok (.iload_n 1, 1) := by decide +kernel
theorem dX12_rules_92 : decode cX12_rules 92 = .ok (.imul, 1) := by decide +kernel
theorem dX12_rules_93 : decode cX12_rules 93 = .ok (.iadd, 1) := by decide +kernel
theorem dX12_rules_94 : decode cX12_rules 94 = .ok (.aload_n 0, 1) := by decide +kernel
theorem dX12_rules_95 : decode cX12_rules 95 = .ok (.getfield 216, 3) := by decide +kernel
theorem dX12_rules_98 : decode cX12_rules 98 = .ok (.iadd, 1) := by decide +kernel
theorem dX12_rules_99 : decode cX12_rules 99 = .ok (.iload_n 2, 1) := by decide +kernel
theorem dX12_rules_100 : decode cX12_rules 100 = .ok (.iadd, 1) := by decide +kernel
theorem dX12_rules_101 : decode cX12_rules 101 = .ok (.aload_n 0, 1) := by decide +kernel
theorem dX12_rules_102 : decode cX12_rules 102 = .ok (.getfield 37, 3) := by decide +kernel
theorem dX12_rules_105 : decode cX12_rules 105 = .ok (.iload_n 2, 1) := by decide +kernel
theorem dX12_rules_106 : decode cX12_rules 106 = .ok (.iaload, 1) := by decide +kernel
theorem dX12_rules_107 : decode cX12_rules 107 = .ok (.iastore, 1) := by decide +kernel
theorem dX12_rules_108 : decode cX12_rules 108 = .ok (.iinc 2 1, 3) := by decide +kernel
theorem dX12_rules_111 : decode cX12_rules 111 = .ok (.goto (-37), 3) := by decide +kernel
theorem dX12_rules_114 : decode cX12_rules 114 = .ok (.aload_n 0, 1) := by decide +kernel
theorem dX12_rules_115 : decode cX12_rules 115 = .ok (.getfield 7, 3) := by decide +kernel
theorem dX12_rules_118 : decode cX12_rules 118 = .ok (.iconst 1, 1) := by decide +kernel
theorem dX12_rules_119 : decode cX12_rules 119 = .ok (.dup2, 1) := by decide +kernel
theorem dX12_rules_120 : decode cX12_rules 120 = .ok (.iaload, 1) := by decide +kernel
theorem dX12_rules_121 : decode cX12_rules 121 = .ok (.iconst 1, 1) := by decide +kernel
theorem dX12_rules_122 : decode cX12_rules 122 = .ok (.iadd, 1) := by decide +kernel
theorem dX12_rules_123 : decode cX12_rules 123 = .ok (.iastore, 1) := by decide +kernel
theorem dX12_rules_124 : decode cX12_rules 124 = .ok (.return_, 1) := by decide +kernel
theorem dX12_sentence_0 : decode cX12_sentence 0 = .ok (.aload_n 0, 1) := by decide +kernel
theorem dX12_sentence_1 : decode cX12_sentence 1 = .ok (.aload_n 0, 1) := by decide +kernel
theorem dX12_sentence_2 : decode cX12_sentence 2 = .ok (.getfield 34, 3) := by decide +kernel
theorem dX12_sentence_5 : decode cX12_sentence 5 = .ok (.bipush 7, 2) := by decide +kernel
theorem dX12_sentence_7 : decode cX12_sentence 7 = .ok (.invokevirtual 222, 3) := by decide +kernel
theorem dX12_sentence_10 : decode cX12_sentence 10 = .ok (.ifCond .ne 5, 3) := by decide +kernel
theorem dX12_sentence_13 : decode cX12_sentence 13 = .ok (.iconst 0, 1) := by decide +kernel
theorem dX12_sentence_14 : decode cX12_sentence 14 = .ok (.ireturn, 1) := by decide +kernel
theorem dX12_sentence_15 : decode cX12_sentence 15 = .ok (.aload_n 0, 1) := by decide +kernel
theorem dX12_sentence_16 : decode cX12_sentence 16 = .ok (.aload_n 0, 1) := by decide +kernel
theorem dX12_sentence_17 : decode cX12_sentence 17 = .ok (.getfield 204, 3) := by decide +kernel
theorem dX12_sentence_20 : decode cX12_sentence 20 = .ok (.putfield 216, 3) := by decide +kernel
theorem dX12_sentence_23 : decode cX12_sentence 23 = .ok (.aload_n 0, 1) := by decide +kernel
theorem dX12_sentence_24 : decode cX12_sentence 24 = .ok (.getfield 207, 3) := by decide +kernel
theorem dX12_sentence_27 : decode cX12_sentence 27 = .ok (.istore_n 1, 1) := by decide +kernel
theorem dX12_sentence_28 : decode cX12_sentence 28 = .ok (.aload_n 0, 1) := by decide +kernel
theorem dX12_sentence_29 : decode cX12_sentence 29 = .ok (.invokevirtual 201, 3) := by decide +kernel
theorem dX12_sentence_32 : decode cX12_sentence 32 = .ok (.aload_n 0, 1) := by decide +kernel
theorem dX12_sentence_33 : decode cX12_sentence 33 = .ok (.aload_n 0, 1) := by decide +kernel
theorem dX12_sentence_34 : decode cX12_sentence 34 = .ok (.getfield 195, 3) := by decide +kernel
theorem dX12_sentence_37 : decode cX12_sentence 37 = .ok (.invokevirtual 198, 3) := by decide +kernel
theorem dX12_sentence_40 : decode cX12_sentence 40 = .ok (.istore_n 2, 1) := by decide +kernel
theorem dX12_sentence_41 : decode cX12_sentence 41 = .ok (.iload_n 2, 1) := by decide +kernel
theorem dX12_sentence_42 : decode cX12_sentence 42 = .ok (.bipush 62, 2) := by decide +kernel
theorem dX12_sentence_44 : decode cX12_sentence 44 = .ok (.if_icmp .ne 76, 3) := by decide +kernel
theorem dX12_sentence_47 : decode cX12_sentence 47 = .ok (.aload_n 0, 1) := by decide +kernel
theorem dX12_sentence_48 : decode cX12_sentence 48 = .ok (.getfield 34, 3) := by decide +kernel
theorem dX12_sentence_51 : decode cX12_sentence 51 = .ok (.iconst 0, 1) := by decide +kernel
theorem dX12_sentence_52 : decode cX12_sentence 52 = .ok (.iaload, 1) := by decide +kernel
theorem dX12_sentence_53 : decode cX12_sentence 53 = .ok (.bipush 7, 2) := by decide +kernel
theorem dX12_sentence_55 : decode cX12_sentence 55 = .ok (.if_icmp .ge 14, 3) := by decide +kernel
theorem dX12_sentence_58 : decode cX12_sentence 58 = .ok (.aload_n 0, 1) := by decide +kernel
theorem dX12_sentence_59 : decode cX12_sentence 59 = .ok (.getfield 7, 3) := by decide +kernel
theorem dX12_sentence_62 : decode cX12_sentence 62 = .ok (.iconst 1, 1) := by decide +kernel
theorem dX12_sentence_63 : decode cX12_sentence 63 = .ok (.iaload, 1) := by decide +kernel
theorem dX12_sentence_64 : decode cX12_sentence 64 = .ok (.bipush 6, 2) := by decide +kernel
theorem dX12_sentence_66 : decode cX12_sentence 66 = .ok (.if_icmp .ne 5, 3) := by decide +kernel
theorem dX12_sentence_69 : decode cX12_sentence 69 = .ok (.iconst 0, 1) := by decide +kernel
theorem dX12_sentence_70 : decode cX12_sentence 70 = .ok (.ireturn, 1) := by decide +kernel
theorem dX12_sentence_71 : decode cX12_sentence 71 = .ok (.aload_n 0, 1) := by decide +kernel
theorem dX12_sentence_72 : decode cX12_sentence 72 = .ok (.dup, 1) := by decide +kernel
theorem dX12_sentence_73 : decode cX12_sentence 73 = .ok (.getfield 195, 3) := by decide +kernel
theorem dX12_sentence_76 : decode cX12_sentence 76 = .ok (.iconst 1, 1) := by decide +kernel
theorem dX12_sentence_77 : decode cX12_sentence 77 = .ok (.iadd, 1) := by decide +kernel
theorem dX12_sentence_78 : decode cX12_sentence 78 = .ok (.putfield 195, 3) := by decide +kernel
theorem dX12_sentence_81 : decode cX12_sentence 81 = .ok (.aload_n 0, 1) := by decide +kernel
theorem dX12_sentence_82 : decode cX12_sentence 82 = .ok (.aload_n 0, 1) := by decide +kernel
theorem dX12_sentence_83 : decode cX12_sentence 83 = .ok (.getfield 37, 3) := by decide +kernel
theorem dX12_sentence_86 : decode cX12_sentence 86 = .ok (.iload_n 1, 1) := by decide +kernel
theorem dX12_sentence_87 : decode cX12_sentence 87 = .ok (.invokevirtual 222, 3) := by decide +kernel
theorem dX12_sentence_90 : decode cX12_sentence 90 = .ok (.ifCond .ne 5, 3) := by decide +kernel
theorem dX12_sentence_93 : decode cX12_sentence 93 = .ok (.iconst 0, 1) := by decide +kernel
theorem dX12_sentence_94 : decode cX12_sentence 94 = .ok (.ireturn, 1) := by decide +kernel
theorem dX12_sentence_95 : decode cX12_sentence 95 = .ok (.aload_n 0, 1) := by decide +kernel
theorem dX12_sentence_96 : decode cX12_sentence 96 = .ok (.aload_n 0, 1) := by decide +kernel
theorem dX12_sentence_97 : decode cX12_sentence 97 = .ok (.getfield 204, 3) := by decide +kernel
theorem dX12_sentence_100 : decode cX12_sentence 100 = .ok (.putfield 219, 3) := by decide +kernel
theorem dX12_sentence_103 : decode cX12_sentence 103 = .ok (.aload_n 0, 1) := by decide +kernel
theorem dX12_sentence_104 : decode cX12_sentence 104 = .ok (.bipush 59, 2) := by decide +kernel
theorem dX12_sentence_106 : decode cX12_sentence 106 = .ok (.invokevirtual 213, 3) := by decide +kernel
theorem dX12_sentence_109 : decode cX12_sentence 109 = .ok (.ifCond .ne 5, 3) := by decide +kernel
theorem dX12_sentence_112 : decode cX12_sentence 112 = .ok (.iconst 0, 1) := by decide +kernel
theorem dX12_sentence_113 : decode cX12_sentence 113 = .ok (.ireturn, 1) := by decide +kernel
theorem dX12_sentence_114 : decode cX12_sentence 114 = .ok (.aload_n 0, 1) := by decide +kernel
theorem dX12_sentence_115 : decode cX12_sentence 115 = .ok (.invokevirtual 226, 3) := by decide +kernel
theorem dX12_sentence_118 : decode cX12_sentence 118 = .ok (.iconst 1, 1) := by decide +kernel
theorem dX12_sentence_119 : decode cX12_sentence 119 = .ok (.ireturn, 1) := by decide +kernel
theorem dX12_sentence_120 : decode cX12_sentence 120 = .ok (.iload_n 1, 1) := by decide +kernel
theorem dX12_sentence_121 : decode cX12_sentence 121 = .ok (.ifCond .ne 15, 3) := by decide +kernel
theorem dX12_sentence_124 : decode cX12_sentence 124 = .ok (.iload_n 2, 1) := by decide +kernel
theorem dX12_sentence_125 : decode cX12_sentence 125 = .ok (.bipush 61, 2) := by decide +kernel
theorem dX12_sentence_127 : decode cX12_sentence 127 = .ok (.if_icmp .eq 11, 3) := by decide +kernel
theorem dX12_sentence_130 : decode cX12_sentence 130 = .ok (.iload_n 2, 1) := by decide +kernel
theorem dX12_sentence_131 : decode cX12_sentence 131 = .ok (.bipush 59, 2) := by decide +kernel
theorem dX12_sentence_133 : decode cX12_sentence 133 = .ok (.if_icmp .eq 5, 3) := by decide +kernel
theorem dX12_sentence_136 : decode cX12_sentence 136 = .ok (.iconst 0, 1) := by decide +kernel
theorem dX12_sentence_137 : decode cX12_sentence 137 = .ok (.ireturn, 1) := by decide +kernel
theorem dX12_sentence_138 : decode cX12_sentence 138 = .ok (.aload_n 0, 1) := by decide +kernel
theorem dX12_sentence_139 : decode cX12_sentence 139 = .ok (.iconst 0, 1) := by decide +kernel
theorem dX12_sentence_140 : decode cX12_sentence 140 = .ok (.putfield 219, 3) := by decide +kernel
theorem dX12_sentence_143 : decode cX12_sentence 143 = .ok (.iload_n 2, 1) := by decide +kernel
theorem dX12_sentence_144 : decode cX12_sentence 144 = .ok (.bipush 61, 2) := by decide +kernel
theorem dX12_sentence_146 : decode cX12_sentence 146 = .ok (.if_icmp .ne 62, 3) := by decide +kernel
theorem dX12_sentence_149 : decode cX12_sentence 149 = .ok (.aload_n 0, 1) := by decide +kernel
theorem dX12_sentence_150 : decode cX12_sentence 150 = .ok (.dup, 1) := by decide +kernel
theorem dX12_sentence_151 : decode cX12_sentence 151 = .ok (.getfield 195, 3) := by decide +kernel
theorem dX12_sentence_154 : decode cX12_sentence 154 = .ok (.iconst 1, 1) := by decide +kernel
theorem dX12_sentence_155 : decode cX12_sentence 155 = .ok (.iadd, 1) := by decide +kernel
theorem dX12_sentence_156 : decode cX12_sentence 156 = .ok (.putfield 195, 3) := by decide +kernel
theorem dX12_sentence_159 : decode cX12_sentence 159 = .ok (.aload_n 0, 1) := by decide +kernel
theorem dX12_sentence_160 : decode cX12_sentence 160 = .ok (.aload_n 0, 1) := by decide +kernel
theorem dX12_sentence_161 : decode cX12_sentence 161 = .ok (.getfield 37, 3) := by decide +kernel
theorem dX12_sentence_164 : decode cX12_sentence 164 = .ok (.bipush 7, 2) := by decide +kernel
theorem dX12_sentence_166 : decode cX12_sentence 166 = .ok (.invokevirtual 222, 3) := by decide +kernel
theorem dX12_sentence_169 : decode cX12_sentence 169 = .ok (.ifCond .ne 5, 3) := by decide +kernel
theorem dX12_sentence_172 : decode cX12_sentence 172 = .ok (.iconst 0, 1) := by decide +kernel
theorem dX12_sentence_173 : decode cX12_sentence 173 = .ok (.ireturn, 1) := by decide +kernel
theorem dX12_sentence_174 : decode cX12_sentence 174 = .ok (.aload_n 0, 1) := by decide +kernel
theorem dX12_sentence_175 : decode cX12_sentence 175 = .ok (.aload_n 0, 1) := by decide +kernel
theorem dX12_sentence_176 : decode cX12_sentence 176 = .ok (.getfield 204, 3) := by decide +kernel
theorem dX12_sentence_179 : decode cX12_sentence 179 = .ok (.putfield 219, 3) := by decide +kernel
theorem dX12_sentence_182 : decode cX12_sentence 182 = .ok (.aload_n 0, 1) := by decide +kernel
theorem dX12_sentence_183 : decode cX12_sentence 183 = .ok (.invokevirtual 201, 3) := by decide +kernel
theorem dX12_sentence_186 : decode cX12_sentence 186 = .ok (.aload_n 0, 1) := by decide +kernel
theorem dX12_sentence_187 : decode cX12_sentence 187 = .ok (.getfield 207, 3) := by decide +kernel
theorem dX12_sentence_190 : decode cX12_sentence 190 = .ok (.ifCond .ne 16, 3) := by decide +kernel
theorem dX12_sentence_193 : decode cX12_sentence 193 = .ok (.aload_n 0, 1) := by decide +kernel
theorem dX12_sentence_194 : decode cX12_sentence 194 = .ok (.aload_n 0, 1) := by decide +kernel
theorem dX12_sentence_195 : decode cX12_sentence 195 = .ok (.getfield 195, 3) := by decide +kernel
theorem dX12_sentence_198 : decode cX12_sentence 198 = .ok (.invokevirtual 198, 3) := by decide +kernel
theorem dX12_sentence_201 : decode cX12_sentence 201 = .ok (.bipush 59, 2) := by decide +kernel
theorem dX12_sentence_203 : decode cX12_sentence 203 = .ok (.if_icmp .eq 5, 3) := by decide +kernel
theorem dX12_sentence_206 : decode cX12_sentence 206 = .ok (.iconst 0, 1) := by decide +kernel
theorem dX12_sentence_207 : decode cX12_sentence 207 = .ok (.ireturn, 1) := by decide +kernel
theorem dX12_sentence_208 : decode cX12_sentence 208 = .ok (.aload_n 0, 1) := by decide +kernel
theorem dX12_sentence_209 : decode cX12_sentence 209 = .ok (.iconst 0, 1) := by decide +kernel
theorem dX12_sentence_210 : decode cX12_sentence 210 = .ok (.putfield 91, 3) := by decide +kernel
theorem dX12_sentence_213 : decode cX12_sentence 213 = .ok (.aload_n 0, 1) := by decide +kernel
theorem dX12_sentence_214 : decode cX12_sentence 214 = .ok (.iconst 1, 1) := by decide +kernel
theorem dX12_sentence_215 : decode cX12_sentence 215 = .ok (.putfield 172, 3) := by decide +kernel
theorem dX12_sentence_218 : decode cX12_sentence 218 = .ok (.aload_n 0, 1) := by decide +kernel
theorem dX12_sentence_219 : decode cX12_sentence 219 = .ok (.aload_n 0, 1) := by decide +kernel
theorem dX12_sentence_220 : decode cX12_sentence 220 = .ok (.getfield 34, 3) := by decide +kernel
theorem dX12_sentence_223 : decode cX12_sentence 223 = .ok (.iconst 0, 1) := by decide +kernel
theorem dX12_sentence_224 : decode cX12_sentence 224 = .ok (.aload_n 0, 1) := by decide +kernel
theorem dX12_sentence_225 : decode cX12_sentence 225 = .ok (.getfield 216, 3) := by decide +kernel
theorem dX12_sentence_228 : decode cX12_sentence 228 = .ok (.iconst 0, 1) := by decide +kernel
theorem dX12_sentence_229 : decode cX12_sentence 229 = .ok (.invokevirtual 178, 3) := by decide +kernel
theorem dX12_sentence_232 : decode cX12_sentence 232 = .ok (.istore_n 3, 1) := by decide +kernel
theorem dX12_sentence_233 : decode cX12_sentence 233 = .ok (.aload_n 0, 1) := by decide +kernel
theorem dX12_sentence_234 : decode cX12_sentence 234 = .ok (.getfield 219, 3) := by decide +kernel
theorem dX12_sentence_237 : decode cX12_sentence 237 = .ok (.ifCond .ne 7, 3) := by decide +kernel
theorem dX12_sentence_240 : decode cX12_sentence 240 = .ok (.iload_n 3, 1) := by decide +kernel
theorem dX12_sentence_241 : decode cX12_sentence 241 = .ok (.goto 17, 3) := by decide +kernel
theorem dX12_sentence_244 : decode cX12_sentence 244 = .ok (.aload_n 0, 1) := by decide +kernel
theorem dX12_sentence_245 : decode cX12_sentence 245 = .ok (.aload_n 0, 1) := by decide +kernel
theorem dX12_sentence_246 : decode cX12_sentence 246 = .ok (.getfield 37, 3) := by decide +kernel
theorem dX12_sentence_249 : decode cX12_sentence 249 = .ok (.iconst 0, 1) := by decide +kernel
theorem dX12_sentence_250 : decode cX12_sentence 250 = .ok (.aload_n 0, 1) := by decide +kernel
theorem dX12_sentence_251 : decode cX12_sentence 251 = .ok (.getfield 219, 3) := by decide +kernel
theorem dX12_sentence_254 : decode cX12_sentence 254 = .ok (.iconst 0, 1) := by decide +kernel
theorem dX12_sentence_255 : decode cX12_sentence 255 = .ok (.invokevirtual 178, 3) := by decide +kernel
theorem dX12_sentence_258 : decode cX12_sentence 258 = .ok (.istore 4, 2) := by decide +kernel
theorem dX12_sentence_260 : decode cX12_sentence 260 = .ok (.aload_n 0, 1) := by decide +kernel
theorem dX12_sentence_261 : decode cX12_sentence 261 = .ok (.getfield 91, 3) := by decide +kernel
theorem dX12_sentence_264 : decode cX12_sentence 264 = .ok (.ifCond .eq 5, 3) := by decide +kernel
theorem dX12_sentence_267 : decode cX12_sentence 267 = .ok (.iconst 0, 1) := by decide +kernel
theorem dX12_sentence_268 : decode cX12_sentence 268 = .ok (.ireturn, 1) := by decide +kernel
theorem dX12_sentence_269 : decode cX12_sentence 269 = .ok (.aload_n 0, 1) := by decide +kernel
theorem dX12_sentence_270 : decode cX12_sentence 270 = .ok (.dup, 1) := by decide +kernel
theorem dX12_sentence_271 : decode cX12_sentence 271 = .ok (.getfield 195, 3) := by decide +kernel
theorem dX12_sentence_274 : decode cX12_sentence 274 = .ok (.iconst 1, 1) := by decide +kernel
theorem dX12_sentence_275 : decode cX12_sentence 275 = .ok (.iadd, 1) := by decide +kernel
theorem dX12_sentence_276 : decode cX12_sentence 276 = .ok (.putfield 195, 3) := by decide +kernel
theorem dX12_sentence_279 : decode cX12_sentence 279 = .ok (.aload_n 0, 1) := by decide +kernel
theorem dX12_sentence_280 : decode cX12_sentence 280 = .ok (.invokevirtual 123, 3) := by decide +kernel
theorem dX12_sentence_283 : decode cX12_sentence 283 = .ok (.aload_n 0, 1) := by decide +kernel
theorem dX12_sentence_284 : decode cX12_sentence 284 = .ok (.iload_n 3, 1) := by decide +kernel
theorem dX12_sentence_285 : decode cX12_sentence 285 = .ok (.iload 4, 2) := by decide +kernel
theorem dX12_sentence_287 : decode cX12_sentence 287 = .ok (.invokevirtual 103, 3) := by decide +kernel
theorem dX12_sentence_290 : decode cX12_sentence 290 = .ok (.pop, 1) := by decide +kernel
theorem dX12_sentence_291 : decode cX12_sentence 291 = .ok (.aload_n 0, 1) := by decide +kernel
theorem dX12_sentence_292 : decode cX12_sentence 292 = .ok (.invokevirtual 123, 3) := by decide +kernel
theorem dX12_sentence_295 : decode cX12_sentence 295 = .ok (.iconst 1, 1) := by decide +kernel
theorem dX12_sentence_296 : decode cX12_sentence 296 = .ok (.ireturn, 1) := by decide +kernel
theorem dX12_reads_0 : decode cX12_reads 0 = .ok (.iconst 0, 1) := by decide +kernel
theorem dX12_reads_1 : decode cX12_reads 1 = .ok (.istore_n 1, 1) := by decide +kernel
theorem dX12_reads_2 : decode cX12_reads 2 = .ok (.iload_n 1, 1) := by decide +kernel
theorem dX12_reads_3 : decode cX12_reads 3 = .ok (.sipush 984, 3) := by decide +kernel
theorem dX12_reads_6 : decode cX12_reads 6 = .ok (.if_icmp .ge 21, 3) := by decide +kernel
theorem dX12_reads_9 : decode cX12_reads 9 = .ok (.aload_n 0, 1) := by decide +kernel
theorem dX12_reads_10 : decode cX12_reads 10 = .ok (.getfield 16, 3) := by decide +kernel
theorem dX12_reads_13 : decode cX12_reads 13 = .ok (.iload_n 1, 1) := by decide +kernel
theorem dX12_reads_14 : decode cX12_reads 14 = .ok (.aload_n 0, 1) := by decide +kernel
theorem dX12_reads_15 : decode cX12_reads 15 = .ok (.getfield 7, 3) := by decide +kernel
theorem dX12_reads_18 : decode cX12_reads 18 = .ok (.iload_n 1, 1) := by decide +kernel
theorem dX12_reads_19 : decode cX12_reads 19 = .ok (.iaload, 1) := by decide +kernel
theorem dX12_reads_20 : decode cX12_reads 20 = .ok (.iastore, 1) := by decide +kernel
theorem dX12_reads_21 : decode cX12_reads 21 = .ok (.iinc 1 1, 3) := by decide +kernel
theorem dX12_reads_24 : decode cX12_reads 24 = .ok (.goto (-22), 3) := by decide +kernel
theorem dX12_reads_27 : decode cX12_reads 27 = .ok (.iconst 0, 1) := by decide +kernel
theorem dX12_reads_28 : decode cX12_reads 28 = .ok (.istore_n 1, 1) := by decide +kernel
theorem dX12_reads_29 : decode cX12_reads 29 = .ok (.aload_n 0, 1) := by decide +kernel
theorem dX12_reads_30 : decode cX12_reads 30 = .ok (.iconst 0, 1) := by decide +kernel
theorem dX12_reads_31 : decode cX12_reads 31 = .ok (.putfield 195, 3) := by decide +kernel
theorem dX12_reads_34 : decode cX12_reads 34 = .ok (.aload_n 0, 1) := by decide +kernel
theorem dX12_reads_35 : decode cX12_reads 35 = .ok (.invokevirtual 201, 3) := by decide +kernel
theorem dX12_reads_38 : decode cX12_reads 38 = .ok (.iconst 1, 1) := by decide +kernel
theorem dX12_reads_39 : decode cX12_reads 39 = .ok (.istore_n 2, 1) := by decide +kernel
theorem dX12_reads_40 : decode cX12_reads 40 = .ok (.iload_n 2, 1) := by decide +kernel
theorem dX12_reads_41 : decode cX12_reads 41 = .ok (.ifCond .eq 33, 3) := by decide +kernel
theorem dX12_reads_44 : decode cX12_reads 44 = .ok (.aload_n 0, 1) := by decide +kernel
theorem dX12_reads_45 : decode cX12_reads 45 = .ok (.getfield 195, 3) := by decide +kernel
theorem dX12_reads_48 : decode cX12_reads 48 = .ok (.aload_n 0, 1) := by decide +kernel
theorem dX12_reads_49 : decode cX12_reads 49 = .ok (.getfield 192, 3) := by decide +kernel
theorem dX12_reads_52 : decode cX12_reads 52 = .ok (.if_icmp .lt 7, 3) := by decide +kernel
theorem dX12_reads_55 : decode cX12_reads 55 = .ok (.iload_n 1, 1) := by decide +kernel
theorem dX12_reads_56 : decode cX12_reads 56 = .ok (.ifCond .ne 18, 3) := by decide +kernel
theorem dX12_reads_59 : decode cX12_reads 59 = .ok (.aload_n 0, 1) := by decide +kernel
theorem dX12_reads_60 : decode cX12_reads 60 = .ok (.invokevirtual 229, 3) := by decide +kernel
theorem dX12_reads_63 : decode cX12_reads 63 = .ok (.istore_n 2, 1) := by decide +kernel
theorem dX12_reads_64 : decode cX12_reads 64 = .ok (.iinc 1 1, 3) := by decide +kernel
theorem dX12_reads_67 : decode cX12_reads 67 = .ok (.aload_n 0, 1) := by decide +kernel
theorem dX12_reads_68 : decode cX12_reads 68 = .ok (.invokevirtual 201, 3) := by decide +kernel
theorem dX12_reads_71 : decode cX12_reads 71 = .ok (.goto (-31), 3) := by decide +kernel
theorem dX12_reads_74 : decode cX12_reads 74 = .ok (.iload_n 2, 1) := by decide +kernel
theorem dX12_reads_75 : decode cX12_reads 75 = .ok (.ifCond .ne 38, 3) := by decide +kernel
theorem dX12_reads_78 : decode cX12_reads 78 = .ok (.iconst 0, 1) := by decide +kernel
theorem dX12_reads_79 : decode cX12_reads 79 = .ok (.istore_n 3, 1) := by decide +kernel
theorem dX12_reads_80 : decode cX12_reads 80 = .ok (.iload_n 3, 1) := by decide +kernel
theorem dX12_reads_81 : decode cX12_reads 81 = .ok (.sipush 984, 3) := by decide +kernel
theorem dX12_reads_84 : decode cX12_reads 84 = .ok (.if_icmp .ge 21, 3) := by decide +kernel
theorem dX12_reads_87 : decode cX12_reads 87 = .ok (.aload_n 0, 1) := by decide +kernel
theorem dX12_reads_88 : decode cX12_reads 88 = .ok (.getfield 7, 3) := by decide +kernel
theorem dX12_reads_91 : decode cX12_reads 91 = .ok (.iload_n 3, 1) := by decide +kernel
theorem dX12_reads_92 : decode cX12_reads 92 = .ok (.aload_n 0, 1) := by decide +kernel
theorem dX12_reads_93 : decode cX12_reads 93 = .ok (.getfield 16, 3) := by decide +kernel
theorem dX12_reads_96 : decode cX12_reads 96 = .ok (.iload_n 3, 1) := by decide +kernel
theorem dX12_reads_97 : decode cX12_reads 97 = .ok (.iaload, 1) := by decide +kernel
theorem dX12_reads_98 : decode cX12_reads 98 = .ok (.iastore, 1) := by decide +kernel
theorem dX12_reads_99 : decode cX12_reads 99 = .ok (.iinc 3 1, 3) := by decide +kernel
theorem dX12_reads_102 : decode cX12_reads 102 = .ok (.goto (-22), 3) := by decide +kernel
theorem dX12_reads_105 : decode cX12_reads 105 = .ok (.bipush (-10), 2) := by decide +kernel
theorem dX12_reads_107 : decode cX12_reads 107 = .ok (.aload_n 0, 1) := by decide +kernel
theorem dX12_reads_108 : decode cX12_reads 108 = .ok (.getfield 195, 3) := by decide +kernel
theorem dX12_reads_111 : decode cX12_reads 111 = .ok (.isub, 1) := by decide +kernel
theorem dX12_reads_112 : decode cX12_reads 112 = .ok (.ireturn, 1) := by decide +kernel
theorem dX12_reads_113 : decode cX12_reads 113 = .ok (.iconst 0, 1) := by decide +kernel
theorem dX12_reads_114 : decode cX12_reads 114 = .ok (.istore_n 3, 1) := by decide +kernel
theorem dX12_reads_115 : decode cX12_reads 115 = .ok (.iload_n 3, 1) := by decide +kernel
theorem dX12_reads_116 : decode cX12_reads 116 = .ok (.sipush 984, 3) := by decide +kernel
theorem dX12_reads_119 : decode cX12_reads 119 = .ok (.if_icmp .ge 37, 3) := by decide +kernel
theorem dX12_reads_122 : decode cX12_reads 122 = .ok (.aload_n 0, 1) := by decide +kernel
theorem dX12_reads_123 : decode cX12_reads 123 = .ok (.getfield 7, 3) := by decide +kernel
theorem dX12_reads_126 : decode cX12_reads 126 = .ok (.iload_n 3, 1) := by decide +kernel
theorem dX12_reads_127 : decode cX12_reads 127 = .ok (.iaload, 1) := by decide +kernel
theorem dX12_reads_128 : decode cX12_reads 128 = .ok (.istore 4, 2) := by decide +kernel
theorem dX12_reads_130 : decode cX12_reads 130 = .ok (.aload_n 0, 1) := by decide +kernel
theorem dX12_reads_131 : decode cX12_reads 131 = .ok (.getfield 7, 3) := by decide +kernel
theorem dX12_reads_134 : decode cX12_reads 134 = .ok (.iload_n 3, 1) := by decide +kernel
theorem dX12_reads_135 : decode cX12_reads 135 = .ok (.aload_n 0, 1) := by decide +kernel
theorem dX12_reads_136 : decode cX12_reads 136 = .ok (.getfield 16, 3) := by decide +kernel
theorem dX12_reads_139 : decode cX12_reads 139 = .ok (.iload_n 3, 1) := by decide +kernel
theorem dX12_reads_140 : decode cX12_reads 140 = .ok (.iaload, 1) := by decide +kernel
theorem dX12_reads_141 : decode cX12_reads 141 = .ok (.iastore, 1) := by decide +kernel
theorem dX12_reads_142 : decode cX12_reads 142 = .ok (.aload_n 0, 1) := by decide +kernel
theorem dX12_reads_143 : decode cX12_reads 143 = .ok (.getfield 16, 3) := by decide +kernel
theorem dX12_reads_146 : decode cX12_reads 146 = .ok (.iload_n 3, 1) := by decide +kernel
theorem dX12_reads_147 : decode cX12_reads 147 = .ok (.iload 4, 2) := by decide +kernel
theorem dX12_reads_149 : decode cX12_reads 149 = .ok (.iastore, 1) := by decide +kernel
theorem dX12_reads_150 : decode cX12_reads 150 = .ok (.iinc 3 1, 3) := by decide +kernel
theorem dX12_reads_153 : decode cX12_reads 153 = .ok (.goto (-38), 3) := by decide +kernel
theorem dX12_reads_156 : decode cX12_reads 156 = .ok (.aload_n 0, 1) := by decide +kernel
theorem dX12_reads_157 : decode cX12_reads 157 = .ok (.invokevirtual 116, 3) := by decide +kernel
theorem dX12_reads_160 : decode cX12_reads 160 = .ok (.iconst 0, 1) := by decide +kernel
theorem dX12_reads_161 : decode cX12_reads 161 = .ok (.istore_n 3, 1) := by decide +kernel
theorem dX12_reads_162 : decode cX12_reads 162 = .ok (.iload_n 3, 1) := by decide +kernel
theorem dX12_reads_163 : decode cX12_reads 163 = .ok (.sipush 984, 3) := by decide +kernel
theorem dX12_reads_166 : decode cX12_reads 166 = .ok (.if_icmp .ge 21, 3) := by decide +kernel
theorem dX12_reads_169 : decode cX12_reads 169 = .ok (.aload_n 0, 1) := by decide +kernel
theorem dX12_reads_170 : decode cX12_reads 170 = .ok (.getfield 7, 3) := by decide +kernel
theorem dX12_reads_173 : decode cX12_reads 173 = .ok (.iload_n 3, 1) := by decide +kernel
theorem dX12_reads_174 : decode cX12_reads 174 = .ok (.aload_n 0, 1) := by decide +kernel
theorem dX12_reads_175 : decode cX12_reads 175 = .ok (.getfield 16, 3) := by decide +kernel
theorem dX12_reads_178 : decode cX12_reads 178 = .ok (.iload_n 3, 1) := by decide +kernel
theorem dX12_reads_179 : decode cX12_reads 179 = .ok (.iaload, 1) := by decide +kernel
theorem dX12_reads_180 : decode cX12_reads 180 = .ok (.iastore, 1) := by decide +kernel
theorem dX12_reads_181 : decode cX12_reads 181 = .ok (.iinc 3 1, 3) := by decide +kernel
theorem dX12_reads_184 : decode cX12_reads 184 = .ok (.goto (-22), 3) := by decide +kernel
theorem dX12_reads_187 : decode cX12_reads 187 = .ok (.iload_n 1, 1) := by decide +kernel
theorem dX12_reads_188 : decode cX12_reads 188 = .ok (.ireturn, 1) := by decide +kernel
theorem dX12_letterOf_0 : decode cX12_letterOf 0 = .ok (.iload_n 0, 1) := by decide +kernel
theorem dX12_letterOf_1 : decode cX12_letterOf 1 = .ok (.iconst 4, 1) := by decide +kernel
theorem dX12_letterOf_2 : decode cX12_letterOf 2 = .ok (.if_icmp .ge 10, 3) := by decide +kernel
theorem dX12_letterOf_5 : decode cX12_letterOf 5 = .ok (.bipush 97, 2) := by decide +kernel
theorem dX12_letterOf_7 : decode cX12_letterOf 7 = .ok (.iload_n 0, 1) := by decide +kernel
theorem dX12_letterOf_8 : decode cX12_letterOf 8 = .ok (.iadd, 1) := by decide +kernel
theorem dX12_letterOf_9 : decode cX12_letterOf 9 = .ok (.goto 9, 3) := by decide +kernel
theorem dX12_letterOf_12 : decode cX12_letterOf 12 = .ok (.bipush 102, 2) := by decide +kernel
theorem dX12_letterOf_14 : decode cX12_letterOf 14 = .ok (.iload_n 0, 1) := by decide +kernel
theorem dX12_letterOf_15 : decode cX12_letterOf 15 = .ok (.iadd, 1) := by decide +kernel
theorem dX12_letterOf_16 : decode cX12_letterOf 16 = .ok (.iconst 4, 1) := by decide +kernel
theorem dX12_letterOf_17 : decode cX12_letterOf 17 = .ok (.isub, 1) := by decide +kernel
theorem dX12_letterOf_18 : decode cX12_letterOf 18 = .ok (.ireturn, 1) := by decide +kernel
theorem dX12_writing_0 : decode cX12_writing 0 = .ok (.aload_n 0, 1) := by decide +kernel
theorem dX12_writing_1 : decode cX12_writing 1 = .ok (.iload_n 1, 1) := by decide +kernel
theorem dX12_writing_2 : decode cX12_writing 2 = .ok (.invokevirtual 109, 3) := by decide +kernel
theorem dX12_writing_5 : decode cX12_writing 5 = .ok (.ifCond .eq 8, 3) := by decide +kernel
theorem dX12_writing_8 : decode cX12_writing 8 = .ok (.iload_n 2, 1) := by decide +kernel
theorem dX12_writing_9 : decode cX12_writing 9 = .ok (.iconst (-1), 1) := by decide +kernel
theorem dX12_writing_10 : decode cX12_writing 10 = .ok (.if_icmp .ge 13, 3) := by decide +kernel
theorem dX12_writing_13 : decode cX12_writing 13 = .ok (.aload_n 0, 1) := by decide +kernel
theorem dX12_writing_14 : decode cX12_writing 14 = .ok (.bipush (-2), 2) := by decide +kernel
theorem dX12_writing_16 : decode cX12_writing 16 = .ok (.invokevirtual 113, 3) := by decide +kernel
theorem dX12_writing_19 : decode cX12_writing 19 = .ok (.pop, 1) := by decide +kernel
theorem dX12_writing_20 : decode cX12_writing 20 = .ok (.bipush (-10), 2) := by decide +kernel
theorem dX12_writing_22 : decode cX12_writing 22 = .ok (.ireturn, 1) := by decide +kernel
theorem dX12_writing_23 : decode cX12_writing 23 = .ok (.iconst 0, 1) := by decide +kernel
theorem dX12_writing_24 : decode cX12_writing 24 = .ok (.istore_n 3, 1) := by decide +kernel
theorem dX12_writing_25 : decode cX12_writing 25 = .ok (.iconst 1, 1) := by decide +kernel
theorem dX12_writing_26 : decode cX12_writing 26 = .ok (.istore 4, 2) := by decide +kernel
theorem dX12_writing_28 : decode cX12_writing 28 = .ok (.aload_n 0, 1) := by decide +kernel
theorem dX12_writing_29 : decode cX12_writing 29 = .ok (.getfield 76, 3) := by decide +kernel
theorem dX12_writing_32 : decode cX12_writing 32 = .ok (.iconst 0, 1) := by decide +kernel
theorem dX12_writing_33 : decode cX12_writing 33 = .ok (.iload_n 1, 1) := by decide +kernel
theorem dX12_writing_34 : decode cX12_writing 34 = .ok (.iastore, 1) := by decide +kernel
theorem dX12_writing_35 : decode cX12_writing 35 = .ok (.iload 4, 2) := by decide +kernel
theorem dX12_writing_37 : decode cX12_writing 37 = .ok (.ifCond .le 166, 3) := by decide +kernel
theorem dX12_writing_40 : decode cX12_writing 40 = .ok (.iload_n 3, 1) := by decide +kernel
theorem dX12_writing_41 : decode cX12_writing 41 = .ok (.sipush 300, 3) := by decide +kernel
theorem dX12_writing_44 : decode cX12_writing 44 = .ok (.if_icmp .ge 159, 3) := by decide +kernel
theorem dX12_writing_47 : decode cX12_writing 47 = .ok (.iinc 4 (-1), 3) := by decide +kernel
theorem dX12_writing_50 : decode cX12_writing 50 = .ok (.aload_n 0, 1) := by decide +kernel
theorem dX12_writing_51 : decode cX12_writing 51 = .ok (.getfield 76, 3) := by decide +kernel
theorem dX12_writing_54 : decode cX12_writing 54 = .ok (.iload 4, 2) := by decide +kernel
theorem dX12_writing_56 : decode cX12_writing 56 = .ok (.iaload, 1) := by decide +kernel
theorem dX12_writing_57 : decode cX12_writing 57 = .ok (.istore 5, 2) := by decide +kernel
theorem dX12_writing_59 : decode cX12_writing 59 = .ok (.iload 5, 2) := by decide +kernel
theorem dX12_writing_61 : decode cX12_writing 61 = .ok (.ifCond .ge 9, 3) := by decide +kernel
theorem dX12_writing_64 : decode cX12_writing 64 = .ok (.iload 5, 2) := by decide +kernel
theorem dX12_writing_66 : decode cX12_writing 66 = .ok (.ineg, 1) := by decide +kernel
theorem dX12_writing_67 : decode cX12_writing 67 = .ok (.goto 15, 3) := by decide +kernel
theorem dX12_writing_70 : decode cX12_writing 70 = .ok (.aload_n 0, 1) := by decide +kernel
theorem dX12_writing_71 : decode cX12_writing 71 = .ok (.getfield 7, 3) := by decide +kernel
theorem dX12_writing_74 : decode cX12_writing 74 = .ok (.iconst 2, 1) := by decide +kernel
theorem dX12_writing_75 : decode cX12_writing 75 = .ok (.iload 5, 2) := by decide +kernel
theorem dX12_writing_77 : decode cX12_writing 77 = .ok (.iadd, 1) := by decide +kernel
theorem dX12_writing_78 : decode cX12_writing 78 = .ok (.iaload, 1) := by decide +kernel
theorem dX12_writing_79 : decode cX12_writing 79 = .ok (.invokestatic 233, 3) := by decide +kernel
theorem dX12_writing_82 : decode cX12_writing 82 = .ok (.istore 6, 2) := by decide +kernel
theorem dX12_writing_84 : decode cX12_writing 84 = .ok (.iload_n 3, 1) := by decide +kernel
theorem dX12_writing_85 : decode cX12_writing 85 = .ok (.iload_n 2, 1) := by decide +kernel
theorem dX12_writing_86 : decode cX12_writing 86 = .ok (.if_icmp .ne 6, 3) := by decide +kernel
theorem dX12_writing_89 : decode cX12_writing 89 = .ok (.iload 6, 2) := by decide +kernel
theorem dX12_writing_91 : decode cX12_writing 91 = .ok (.ireturn, 1) := by decide +kernel
theorem dX12_writing_92 : decode cX12_writing 92 = .ok (.iinc 3 1, 3) := by decide +kernel
theorem dX12_writing_95 : decode cX12_writing 95 = .ok (.iload 5, 2) := by decide +kernel
theorem dX12_writing_97 : decode cX12_writing 97 = .ok (.ifCond .lt 103, 3) := by decide +kernel
theorem dX12_writing_100 : decode cX12_writing 100 = .ok (.aload_n 0, 1) := by decide +kernel
theorem dX12_writing_101 : decode cX12_writing 101 = .ok (.getfield 7, 3) := by decide +kernel
theorem dX12_writing_104 : decode cX12_writing 104 = .ok (.bipush 52, 2) := by decide +kernel
theorem dX12_writing_106 : decode cX12_writing 106 = .ok (.iload 5, 2) := by decide +kernel
theorem dX12_writing_108 : decode cX12_writing 108 = .ok (.iadd, 1) := by decide +kernel
theorem dX12_writing_109 : decode cX12_writing 109 = .ok (.iaload, 1) := by decide +kernel
theorem dX12_writing_110 : decode cX12_writing 110 = .ok (.ifCond .lt 90, 3) := by decide +kernel
theorem dX12_writing_113 : decode cX12_writing 113 = .ok (.aload_n 0, 1) := by decide +kernel
theorem dX12_writing_114 : decode cX12_writing 114 = .ok (.getfield 76, 3) := by decide +kernel
theorem dX12_writing_117 : decode cX12_writing 117 = .ok (.iload 4, 2) := by decide +kernel
theorem dX12_writing_119 : decode cX12_writing 119 = .ok (.bipush (-41), 2) := by decide +kernel
theorem dX12_writing_121 : decode cX12_writing 121 = .ok (.iastore, 1) := by decide +kernel
theorem dX12_writing_122 : decode cX12_writing 122 = .ok (.iinc 4 1, 3) := by decide +kernel
theorem dX12_writing_125 : decode cX12_writing 125 = .ok (.aload_n 0, 1) := by decide +kernel
theorem dX12_writing_126 : decode cX12_writing 126 = .ok (.getfield 7, 3) := by decide +kernel
theorem dX12_writing_129 : decode cX12_writing 129 = .ok (.bipush 102, 2) := by decide +kernel
theorem dX12_writing_131 : decode cX12_writing 131 = .ok (.iload 5, 2) := by decide +kernel
theorem dX12_writing_133 : decode cX12_writing 133 = .ok (.iadd, 1) := by decide +kernel
theorem dX12_writing_134 : decode cX12_writing 134 = .ok (.iaload, 1) := by decide +kernel
theorem dX12_writing_135 : decode cX12_writing 135 = .ok (.ifCond .lt 34, 3) := by decide +kernel
theorem dX12_writing_138 : decode cX12_writing 138 = .ok (.aload_n 0, 1) := by decide +kernel
theorem dX12_writing_139 : decode cX12_writing 139 = .ok (.getfield 76, 3) := by decide +kernel
theorem dX12_writing_142 : decode cX12_writing 142 = .ok (.iload 4, 2) := by decide +kernel
theorem dX12_writing_144 : decode cX12_writing 144 = .ok (.aload_n 0, 1) := by decide +kernel
theorem dX12_writing_145 : decode cX12_writing 145 = .ok (.getfield 7, 3) := by decide +kernel
theorem dX12_writing_148 : decode cX12_writing 148 = .ok (.bipush 102, 2) := by decide +kernel
theorem dX12_writing_150 : decode cX12_writing 150 = .ok (.iload 5, 2) := by decide +kernel
theorem dX12_writing_152 : decode cX12_writing 152 = .ok (.iadd, 1) := by decide +kernel
theorem dX12_writing_153 : decode cX12_writing 153 = .ok (.iaload, 1) := by decide +kernel
theorem dX12_writing_154 : decode cX12_writing 154 = .ok (.iastore, 1) := by decide +kernel
theorem dX12_writing_155 : decode cX12_writing 155 = .ok (.aload_n 0, 1) := by decide +kernel
theorem dX12_writing_156 : decode cX12_writing 156 = .ok (.getfield 76, 3) := by decide +kernel
theorem dX12_writing_159 : decode cX12_writing 159 = .ok (.iload 4, 2) := by decide +kernel
theorem dX12_writing_161 : decode cX12_writing 161 = .ok (.iconst 1, 1) := by decide +kernel
theorem dX12_writing_162 : decode cX12_writing 162 = .ok (.iadd, 1) := by decide +kernel
theorem dX12_writing_163 : decode cX12_writing 163 = .ok (.bipush (-44), 2) := by decide +kernel
theorem dX12_writing_165 : decode cX12_writing 165 = .ok (.iastore, 1) := by decide +kernel
theorem dX12_writing_166 : decode cX12_writing 166 = .ok (.iinc 4 2, 3) := by decide +kernel
theorem dX12_writing_169 : decode cX12_writing 169 = .ok (.aload_n 0, 1) := by decide +kernel
theorem dX12_writing_170 : decode cX12_writing 170 = .ok (.getfield 76, 3) := by decide +kernel
theorem dX12_writing_173 : decode cX12_writing 173 = .ok (.iload 4, 2) := by decide +kernel
theorem dX12_writing_175 : decode cX12_writing 175 = .ok (.aload_n 0, 1) := by decide +kernel
theorem dX12_writing_176 : decode cX12_writing 176 = .ok (.getfield 7, 3) := by decide +kernel
theorem dX12_writing_179 : decode cX12_writing 179 = .ok (.bipush 52, 2) := by decide +kernel
theorem dX12_writing_181 : decode cX12_writing 181 = .ok (.iload 5, 2) := by decide +kernel
theorem dX12_writing_183 : decode cX12_writing 183 = .ok (.iadd, 1) := by decide +kernel
theorem dX12_writing_184 : decode cX12_writing 184 = .ok (.iaload, 1) := by decide +kernel
theorem dX12_writing_185 : decode cX12_writing 185 = .ok (.iastore, 1) := by decide +kernel
theorem dX12_writing_186 : decode cX12_writing 186 = .ok (.aload_n 0, 1) := by decide +kernel
theorem dX12_writing_187 : decode cX12_writing 187 = .ok (.getfield 76, 3) := by decide +kernel
theorem dX12_writing_190 : decode cX12_writing 190 = .ok (.iload 4, 2) := by decide +kernel
theorem dX12_writing_192 : decode cX12_writing 192 = .ok (.iconst 1, 1) := by decide +kernel
theorem dX12_writing_193 : decode cX12_writing 193 = .ok (.iadd, 1) := by decide +kernel
theorem dX12_writing_194 : decode cX12_writing 194 = .ok (.bipush (-40), 2) := by decide +kernel
theorem dX12_writing_196 : decode cX12_writing 196 = .ok (.iastore, 1) := by decide +kernel
theorem dX12_writing_197 : decode cX12_writing 197 = .ok (.iinc 4 2, 3) := by decide +kernel
theorem dX12_writing_200 : decode cX12_writing 200 = .ok (.goto (-165), 3) := by decide +kernel
theorem dX12_writing_203 : decode cX12_writing 203 = .ok (.iload_n 2, 1) := by decide +kernel
theorem dX12_writing_204 : decode cX12_writing 204 = .ok (.iconst (-1), 1) := by decide +kernel
theorem dX12_writing_205 : decode cX12_writing 205 = .ok (.if_icmp .ne 7, 3) := by decide +kernel
theorem dX12_writing_208 : decode cX12_writing 208 = .ok (.iload_n 3, 1) := by decide +kernel
theorem dX12_writing_209 : decode cX12_writing 209 = .ok (.goto 5, 3) := by decide +kernel
theorem dX12_writing_212 : decode cX12_writing 212 = .ok (.bipush (-5), 2) := by decide +kernel
theorem dX12_writing_214 : decode cX12_writing 214 = .ok (.ireturn, 1) := by decide +kernel
theorem dX12_back_0 : decode cX12_back 0 = .ok (.aload_n 0, 1) := by decide +kernel
theorem dX12_back_1 : decode cX12_back 1 = .ok (.getfield 83, 3) := by decide +kernel
theorem dX12_back_4 : decode cX12_back 4 = .ok (.ifCond .ne 10, 3) := by decide +kernel
theorem dX12_back_7 : decode cX12_back 7 = .ok (.aload_n 0, 1) := by decide +kernel
theorem dX12_back_8 : decode cX12_back 8 = .ok (.bipush (-3), 2) := by decide +kernel
theorem dX12_back_10 : decode cX12_back 10 = .ok (.invokevirtual 113, 3) := by decide +kernel
theorem dX12_back_13 : decode cX12_back 13 = .ok (.ireturn, 1) := by decide +kernel
theorem dX12_back_14 : decode cX12_back 14 = .ok (.aload_n 0, 1) := by decide +kernel
theorem dX12_back_15 : decode cX12_back 15 = .ok (.dup, 1) := by decide +kernel
theorem dX12_back_16 : decode cX12_back 16 = .ok (.getfield 83, 3) := by decide +kernel
theorem dX12_back_19 : decode cX12_back 19 = .ok (.iconst 1, 1) := by decide +kernel
theorem dX12_back_20 : decode cX12_back 20 = .ok (.isub, 1) := by decide +kernel
theorem dX12_back_21 : decode cX12_back 21 = .ok (.putfield 83, 3) := by decide +kernel
theorem dX12_back_24 : decode cX12_back 24 = .ok (.iconst 0, 1) := by decide +kernel
theorem dX12_back_25 : decode cX12_back 25 = .ok (.istore_n 1, 1) := by decide +kernel
theorem dX12_back_26 : decode cX12_back 26 = .ok (.iload_n 1, 1) := by decide +kernel
theorem dX12_back_27 : decode cX12_back 27 = .ok (.sipush 984, 3) := by decide +kernel
theorem dX12_back_30 : decode cX12_back 30 = .ok (.if_icmp .ge 30, 3) := by decide +kernel
theorem dX12_back_33 : decode cX12_back 33 = .ok (.aload_n 0, 1) := by decide +kernel
theorem dX12_back_34 : decode cX12_back 34 = .ok (.getfield 7, 3) := by decide +kernel
theorem dX12_back_37 : decode cX12_back 37 = .ok (.iload_n 1, 1) := by decide +kernel
theorem dX12_back_38 : decode cX12_back 38 = .ok (.aload_n 0, 1) := by decide +kernel
theorem dX12_back_39 : decode cX12_back 39 = .ok (.getfield 13, 3) := by decide +kernel
theorem dX12_back_42 : decode cX12_back 42 = .ok (.sipush 984, 3) := by decide +kernel
theorem dX12_back_45 : decode cX12_back 45 = .ok (.aload_n 0, 1) := by decide +kernel
theorem dX12_back_46 : decode cX12_back 46 = .ok (.getfield 83, 3) := by decide +kernel
theorem dX12_back_49 : decode cX12_back 49 = .ok (.imul, 1) := by decide +kernel
theorem dX12_back_50 : decode cX12_back 50 = .ok (.iload_n 1, 1) := by decide +kernel
theorem dX12_back_51 : decode cX12_back 51 = .ok (.iadd, 1) := by decide +kernel
theorem dX12_back_52 : decode cX12_back 52 = .ok (.iaload, 1) := by decide +kernel
theorem dX12_back_53 : decode cX12_back 53 = .ok (.iastore, 1) := by decide +kernel
theorem dX12_back_54 : decode cX12_back 54 = .ok (.iinc 1 1, 3) := by decide +kernel
theorem dX12_back_57 : decode cX12_back 57 = .ok (.goto (-31), 3) := by decide +kernel
theorem dX12_back_60 : decode cX12_back 60 = .ok (.aload_n 0, 1) := by decide +kernel
theorem dX12_back_61 : decode cX12_back 61 = .ok (.getfield 83, 3) := by decide +kernel
theorem dX12_back_64 : decode cX12_back 64 = .ok (.ireturn, 1) := by decide +kernel
theorem dX12_toldOf_0 : decode cX12_toldOf 0 = .ok (.iload_n 1, 1) := by decide +kernel
theorem dX12_toldOf_1 : decode cX12_toldOf 1 = .ok (.tableswitch 82 0 8 #[51, 51, 51, 58, 63, 70, 82, 82, 77], 51) := by decide +kernel
theorem dX12_toldOf_52 : decode cX12_toldOf 52 = .ok (.aload_n 0, 1) := by decide +kernel
theorem dX12_toldOf_53 : decode cX12_toldOf 53 = .ok (.getfield 28, 3) := by decide +kernel
theorem dX12_toldOf_56 : decode cX12_toldOf 56 = .ok (.iload_n 1, 1) := by decide +kernel
theorem dX12_toldOf_57 : decode cX12_toldOf 57 = .ok (.iaload, 1) := by decide +kernel
theorem dX12_toldOf_58 : decode cX12_toldOf 58 = .ok (.ireturn, 1) := by decide +kernel
theorem dX12_toldOf_59 : decode cX12_toldOf 59 = .ok (.aload_n 0, 1) := by decide +kernel
theorem dX12_toldOf_60 : decode cX12_toldOf 60 = .ok (.getfield 192, 3) := by decide +kernel
theorem dX12_toldOf_63 : decode cX12_toldOf 63 = .ok (.ireturn, 1) := by decide +kernel
theorem dX12_toldOf_64 : decode cX12_toldOf 64 = .ok (.aload_n 0, 1) := by decide +kernel
theorem dX12_toldOf_65 : decode cX12_toldOf 65 = .ok (.getfield 7, 3) := by decide +kernel
theorem dX12_toldOf_68 : decode cX12_toldOf 68 = .ok (.iconst 0, 1) := by decide +kernel
theorem dX12_toldOf_69 : decode cX12_toldOf 69 = .ok (.iaload, 1) := by decide +kernel
theorem dX12_toldOf_70 : decode cX12_toldOf 70 = .ok (.ireturn, 1) := by decide +kernel
theorem dX12_toldOf_71 : decode cX12_toldOf 71 = .ok (.aload_n 0, 1) := by decide +kernel
theorem dX12_toldOf_72 : decode cX12_toldOf 72 = .ok (.getfield 7, 3) := by decide +kernel
theorem dX12_toldOf_75 : decode cX12_toldOf 75 = .ok (.iconst 1, 1) := by decide +kernel
theorem dX12_toldOf_76 : decode cX12_toldOf 76 = .ok (.iaload, 1) := by decide +kernel
theorem dX12_toldOf_77 : decode cX12_toldOf 77 = .ok (.ireturn, 1) := by decide +kernel
theorem dX12_toldOf_78 : decode cX12_toldOf 78 = .ok (.aload_n 0, 1) := by decide +kernel
theorem dX12_toldOf_79 : decode cX12_toldOf 79 = .ok (.getfield 83, 3) := by decide +kernel
theorem dX12_toldOf_82 : decode cX12_toldOf 82 = .ok (.ireturn, 1) := by decide +kernel
theorem dX12_toldOf_83 : decode cX12_toldOf 83 = .ok (.aload_n 0, 1) := by decide +kernel
theorem dX12_toldOf_84 : decode cX12_toldOf 84 = .ok (.getfield 19, 3) := by decide +kernel
theorem dX12_toldOf_87 : decode cX12_toldOf 87 = .ok (.iload_n 1, 1) := by decide +kernel
theorem dX12_toldOf_88 : decode cX12_toldOf 88 = .ok (.bipush 6, 2) := by decide +kernel
theorem dX12_toldOf_90 : decode cX12_toldOf 90 = .ok (.isub, 1) := by decide +kernel
theorem dX12_toldOf_91 : decode cX12_toldOf 91 = .ok (.iaload, 1) := by decide +kernel
theorem dX12_toldOf_92 : decode cX12_toldOf 92 = .ok (.ireturn, 1) := by decide +kernel
theorem dX12_told_0 : decode cX12_told 0 = .ok (.iload_n 1, 1) := by decide +kernel
theorem dX12_told_1 : decode cX12_told 1 = .ok (.iconst 0, 1) := by decide +kernel
theorem dX12_told_2 : decode cX12_told 2 = .ok (.bipush 8, 2) := by decide +kernel
theorem dX12_told_4 : decode cX12_told 4 = .ok (.invokestatic 79, 3) := by decide +kernel
theorem dX12_told_7 : decode cX12_told 7 = .ok (.ifCond .eq 11, 3) := by decide +kernel
theorem dX12_told_10 : decode cX12_told 10 = .ok (.aload_n 0, 1) := by decide +kernel
theorem dX12_told_11 : decode cX12_told 11 = .ok (.iload_n 1, 1) := by decide +kernel
theorem dX12_told_12 : decode cX12_told 12 = .ok (.invokevirtual 236, 3) := by decide +kernel
theorem dX12_told_15 : decode cX12_told 15 = .ok (.goto 9, 3) := by decide +kernel
theorem dX12_told_18 : decode cX12_told 18 = .ok (.aload_n 0, 1) := by decide +kernel
theorem dX12_told_19 : decode cX12_told 19 = .ok (.bipush (-2), 2) := by decide +kernel
theorem dX12_told_21 : decode cX12_told 21 = .ok (.invokevirtual 113, 3) := by decide +kernel
theorem dX12_told_24 : decode cX12_told 24 = .ok (.ireturn, 1) := by decide +kernel
theorem dX12_digest_0 : decode cX12_digest 0 = .ok (.ldc2_w 239, 3) := by decide +kernel
theorem dX12_digest_3 : decode cX12_digest 3 = .ok (.lstore_n 1, 1) := by decide +kernel
theorem dX12_digest_4 : decode cX12_digest 4 = .ok (.iconst 0, 1) := by decide +kernel
theorem dX12_digest_5 : decode cX12_digest 5 = .ok (.istore_n 3, 1) := by decide +kernel
theorem dX12_digest_6 : decode cX12_digest 6 = .ok (.iload_n 3, 1) := by decide +kernel
theorem dX12_digest_7 : decode cX12_digest 7 = .ok (.bipush 9, 2) := by decide +kernel
theorem dX12_digest_9 : decode cX12_digest 9 = .ok (.if_icmp .ge 22, 3) := by decide +kernel
theorem dX12_digest_12 : decode cX12_digest 12 = .ok (.ldc2_w 241, 3) := by decide +kernel
theorem dX12_digest_15 : decode cX12_digest 15 = .ok (.lload_n 1, 1) := by decide +kernel
theorem dX12_digest_16 : decode cX12_digest 16 = .ok (.lmul, 1) := by decide +kernel
theorem dX12_digest_17 : decode cX12_digest 17 = .ok (.aload_n 0, 1) := by decide +kernel
theorem dX12_digest_18 : decode cX12_digest 18 = .ok (.iload_n 3, 1) := by decide +kernel
theorem dX12_digest_19 : decode cX12_digest 19 = .ok (.invokevirtual 236, 3) := by decide +kernel
theorem dX12_digest_22 : decode cX12_digest 22 = .ok (.i2l, 1) := by decide +kernel
theorem dX12_digest_23 : decode cX12_digest 23 = .ok (.ladd, 1) := by decide +kernel
theorem dX12_digest_24 : decode cX12_digest 24 = .ok (.lstore_n 1, 1) := by decide +kernel
theorem dX12_digest_25 : decode cX12_digest 25 = .ok (.iinc 3 1, 3) := by decide +kernel
theorem dX12_digest_28 : decode cX12_digest 28 = .ok (.goto (-22), 3) := by decide +kernel
theorem dX12_digest_31 : decode cX12_digest 31 = .ok (.iconst 0, 1) := by decide +kernel
theorem dX12_digest_32 : decode cX12_digest 32 = .ok (.istore_n 3, 1) := by decide +kernel
theorem dX12_digest_33 : decode cX12_digest 33 = .ok (.iload_n 3, 1) := by decide +kernel
theorem dX12_digest_34 : decode cX12_digest 34 = .ok (.aload_n 0, 1) := by decide +kernel
theorem dX12_digest_35 : decode cX12_digest 35 = .ok (.getfield 7, 3) := by decide +kernel
theorem dX12_digest_38 : decode cX12_digest 38 = .ok (.iconst 0, 1) := by decide +kernel
theorem dX12_digest_39 : decode cX12_digest 39 = .ok (.iaload, 1) := by decide +kernel
theorem dX12_digest_40 : decode cX12_digest 40 = .ok (.if_icmp .ge 46, 3) := by decide +kernel
theorem dX12_digest_43 : decode cX12_digest 43 = .ok (.iconst 0, 1) := by decide +kernel
theorem dX12_digest_44 : decode cX12_digest 44 = .ok (.istore 4, 2) := by decide +kernel
theorem dX12_digest_46 : decode cX12_digest 46 = .ok (.iload 4, 2) := by decide +kernel
theorem dX12_digest_48 : decode cX12_digest 48 = .ok (.iconst 5, 1) := by decide +kernel
theorem dX12_digest_49 : decode cX12_digest 49 = .ok (.if_icmp .ge 31, 3) := by decide +kernel
theorem dX12_digest_52 : decode cX12_digest 52 = .ok (.ldc2_w 241, 3) := by decide +kernel
theorem dX12_digest_55 : decode cX12_digest 55 = .ok (.lload_n 1, 1) := by decide +kernel
theorem dX12_digest_56 : decode cX12_digest 56 = .ok (.lmul, 1) := by decide +kernel
theorem dX12_digest_57 : decode cX12_digest 57 = .ok (.aload_n 0, 1) := by decide +kernel
theorem dX12_digest_58 : decode cX12_digest 58 = .ok (.getfield 7, 3) := by decide +kernel
theorem dX12_digest_61 : decode cX12_digest 61 = .ok (.iconst 2, 1) := by decide +kernel
theorem dX12_digest_62 : decode cX12_digest 62 = .ok (.bipush 50, 2) := by decide +kernel
theorem dX12_digest_64 : decode cX12_digest 64 = .ok (.iload 4, 2) := by decide +kernel
theorem dX12_digest_66 : decode cX12_digest 66 = .ok (.imul, 1) := by decide +kernel
theorem dX12_digest_67 : decode cX12_digest 67 = .ok (.iadd, 1) := by decide +kernel
theorem dX12_digest_68 : decode cX12_digest 68 = .ok (.iload_n 3, 1) := by decide +kernel
theorem dX12_digest_69 : decode cX12_digest 69 = .ok (.iadd, 1) := by decide +kernel
theorem dX12_digest_70 : decode cX12_digest 70 = .ok (.iaload, 1) := by decide +kernel
theorem dX12_digest_71 : decode cX12_digest 71 = .ok (.i2l, 1) := by decide +kernel
theorem dX12_digest_72 : decode cX12_digest 72 = .ok (.ladd, 1) := by decide +kernel
theorem dX12_digest_73 : decode cX12_digest 73 = .ok (.lstore_n 1, 1) := by decide +kernel
theorem dX12_digest_74 : decode cX12_digest 74 = .ok (.iinc 4 1, 3) := by decide +kernel
theorem dX12_digest_77 : decode cX12_digest 77 = .ok (.goto (-31), 3) := by decide +kernel
theorem dX12_digest_80 : decode cX12_digest 80 = .ok (.iinc 3 1, 3) := by decide +kernel
theorem dX12_digest_83 : decode cX12_digest 83 = .ok (.goto (-50), 3) := by decide +kernel
theorem dX12_digest_86 : decode cX12_digest 86 = .ok (.ldc2_w 241, 3) := by decide +kernel
theorem dX12_digest_89 : decode cX12_digest 89 = .ok (.lload_n 1, 1) := by decide +kernel
theorem dX12_digest_90 : decode cX12_digest 90 = .ok (.lmul, 1) := by decide +kernel
theorem dX12_digest_91 : decode cX12_digest 91 = .ok (.aload_n 0, 1) := by decide +kernel
theorem dX12_digest_92 : decode cX12_digest 92 = .ok (.aload_n 0, 1) := by decide +kernel
theorem dX12_digest_93 : decode cX12_digest 93 = .ok (.getfield 7, 3) := by decide +kernel
theorem dX12_digest_96 : decode cX12_digest 96 = .ok (.iconst 0, 1) := by decide +kernel
theorem dX12_digest_97 : decode cX12_digest 97 = .ok (.iaload, 1) := by decide +kernel
theorem dX12_digest_98 : decode cX12_digest 98 = .ok (.invokevirtual 126, 3) := by decide +kernel
theorem dX12_digest_101 : decode cX12_digest 101 = .ok (.i2l, 1) := by decide +kernel
theorem dX12_digest_102 : decode cX12_digest 102 = .ok (.ladd, 1) := by decide +kernel
theorem dX12_digest_103 : decode cX12_digest 103 = .ok (.lstore_n 1, 1) := by decide +kernel
theorem dX12_digest_104 : decode cX12_digest 104 = .ok (.aload_n 0, 1) := by decide +kernel
theorem dX12_digest_105 : decode cX12_digest 105 = .ok (.invokevirtual 160, 3) := by decide +kernel
theorem dX12_digest_108 : decode cX12_digest 108 = .ok (.iconst 0, 1) := by decide +kernel
theorem dX12_digest_109 : decode cX12_digest 109 = .ok (.istore_n 3, 1) := by decide +kernel
theorem dX12_digest_110 : decode cX12_digest 110 = .ok (.iload_n 3, 1) := by decide +kernel
theorem dX12_digest_111 : decode cX12_digest 111 = .ok (.aload_n 0, 1) := by decide +kernel
theorem dX12_digest_112 : decode cX12_digest 112 = .ok (.getfield 7, 3) := by decide +kernel
theorem dX12_digest_115 : decode cX12_digest 115 = .ok (.iconst 1, 1) := by decide +kernel
theorem dX12_digest_116 : decode cX12_digest 116 = .ok (.iaload, 1) := by decide +kernel
theorem dX12_digest_117 : decode cX12_digest 117 = .ok (.if_icmp .ge 89, 3) := by decide +kernel
theorem dX12_digest_120 : decode cX12_digest 120 = .ok (.aload_n 0, 1) := by decide +kernel
theorem dX12_digest_121 : decode cX12_digest 121 = .ok (.iload_n 3, 1) := by decide +kernel
theorem dX12_digest_122 : decode cX12_digest 122 = .ok (.invokevirtual 163, 3) := by decide +kernel
theorem dX12_digest_125 : decode cX12_digest 125 = .ok (.aload_n 0, 1) := by decide +kernel
theorem dX12_digest_126 : decode cX12_digest 126 = .ok (.iload_n 3, 1) := by decide +kernel
theorem dX12_digest_127 : decode cX12_digest 127 = .ok (.invokevirtual 144, 3) := by decide +kernel
theorem dX12_digest_130 : decode cX12_digest 130 = .ok (.istore 4, 2) := by decide +kernel
theorem dX12_digest_132 : decode cX12_digest 132 = .ok (.ldc2_w 241, 3) := by decide +kernel
theorem dX12_digest_135 : decode cX12_digest 135 = .ok (.lload_n 1, 1) := by decide +kernel
theorem dX12_digest_136 : decode cX12_digest 136 = .ok (.lmul, 1) := by decide +kernel
theorem dX12_digest_137 : decode cX12_digest 137 = .ok (.iload 4, 2) := by decide +kernel
theorem dX12_digest_139 : decode cX12_digest 139 = .ok (.iconst 1, 1) := by decide +kernel
theorem dX12_digest_140 : decode cX12_digest 140 = .ok (.iand, 1) := by decide +kernel
theorem dX12_digest_141 : decode cX12_digest 141 = .ok (.i2l, 1) := by decide +kernel
theorem dX12_digest_142 : decode cX12_digest 142 = .ok (.ladd, 1) := by decide +kernel
theorem dX12_digest_143 : decode cX12_digest 143 = .ok (.iload 4, 2) := by decide +kernel
theorem dX12_digest_145 : decode cX12_digest 145 = .ok (.iconst 1, 1) := by decide +kernel
theorem dX12_digest_146 : decode cX12_digest 146 = .ok (.ishr, 1) := by decide +kernel
theorem dX12_digest_147 : decode cX12_digest 147 = .ok (.iconst 1, 1) := by decide +kernel
theorem dX12_digest_148 : decode cX12_digest 148 = .ok (.iand, 1) := by decide +kernel
theorem dX12_digest_149 : decode cX12_digest 149 = .ok (.i2l, 1) := by decide +kernel
theorem dX12_digest_150 : decode cX12_digest 150 = .ok (.ladd, 1) := by decide +kernel
theorem dX12_digest_151 : decode cX12_digest 151 = .ok (.iload 4, 2) := by decide +kernel
theorem dX12_digest_153 : decode cX12_digest 153 = .ok (.iconst 2, 1) := by decide +kernel
theorem dX12_digest_154 : decode cX12_digest 154 = .ok (.ishr, 1) := by decide +kernel
theorem dX12_digest_155 : decode cX12_digest 155 = .ok (.i2l, 1) := by decide +kernel
theorem dX12_digest_156 : decode cX12_digest 156 = .ok (.ladd, 1) := by decide +kernel
theorem dX12_digest_157 : decode cX12_digest 157 = .ok (.lstore_n 1, 1) := by decide +kernel
theorem dX12_digest_158 : decode cX12_digest 158 = .ok (.ldc2_w 241, 3) := by decide +kernel
theorem dX12_digest_161 : decode cX12_digest 161 = .ok (.lload_n 1, 1) := by decide +kernel
theorem dX12_digest_162 : decode cX12_digest 162 = .ok (.lmul, 1) := by decide +kernel
theorem dX12_digest_163 : decode cX12_digest 163 = .ok (.aload_n 0, 1) := by decide +kernel
theorem dX12_digest_164 : decode cX12_digest 164 = .ok (.iload_n 3, 1) := by decide +kernel
theorem dX12_digest_165 : decode cX12_digest 165 = .ok (.iconst 1, 1) := by decide +kernel
theorem dX12_digest_166 : decode cX12_digest 166 = .ok (.invokevirtual 157, 3) := by decide +kernel
theorem dX12_digest_169 : decode cX12_digest 169 = .ok (.i2l, 1) := by decide +kernel
theorem dX12_digest_170 : decode cX12_digest 170 = .ok (.ladd, 1) := by decide +kernel
theorem dX12_digest_171 : decode cX12_digest 171 = .ok (.lstore_n 1, 1) := by decide +kernel
theorem dX12_digest_172 : decode cX12_digest 172 = .ok (.ldc2_w 241, 3) := by decide +kernel
theorem dX12_digest_175 : decode cX12_digest 175 = .ok (.lload_n 1, 1) := by decide +kernel
theorem dX12_digest_176 : decode cX12_digest 176 = .ok (.lmul, 1) := by decide +kernel
theorem dX12_digest_177 : decode cX12_digest 177 = .ok (.aload_n 0, 1) := by decide +kernel
theorem dX12_digest_178 : decode cX12_digest 178 = .ok (.iload_n 3, 1) := by decide +kernel
theorem dX12_digest_179 : decode cX12_digest 179 = .ok (.iconst 0, 1) := by decide +kernel
theorem dX12_digest_180 : decode cX12_digest 180 = .ok (.invokevirtual 157, 3) := by decide +kernel
theorem dX12_digest_183 : decode cX12_digest 183 = .ok (.i2l, 1) := by decide +kernel
theorem dX12_digest_184 : decode cX12_digest 184 = .ok (.ladd, 1) := by decide +kernel
theorem dX12_digest_185 : decode cX12_digest 185 = .ok (.lstore_n 1, 1) := by decide +kernel
theorem dX12_digest_186 : decode cX12_digest 186 = .ok (.ldc2_w 241, 3) := by decide +kernel
theorem dX12_digest_189 : decode cX12_digest 189 = .ok (.lload_n 1, 1) := by decide +kernel
theorem dX12_digest_190 : decode cX12_digest 190 = .ok (.lmul, 1) := by decide +kernel
theorem dX12_digest_191 : decode cX12_digest 191 = .ok (.aload_n 0, 1) := by decide +kernel
theorem dX12_digest_192 : decode cX12_digest 192 = .ok (.getfield 64, 3) := by decide +kernel
theorem dX12_digest_195 : decode cX12_digest 195 = .ok (.iload_n 3, 1) := by decide +kernel
theorem dX12_digest_196 : decode cX12_digest 196 = .ok (.iaload, 1) := by decide +kernel
theorem dX12_digest_197 : decode cX12_digest 197 = .ok (.i2l, 1) := by decide +kernel
theorem dX12_digest_198 : decode cX12_digest 198 = .ok (.ladd, 1) := by decide +kernel
theorem dX12_digest_199 : decode cX12_digest 199 = .ok (.lstore_n 1, 1) := by decide +kernel
theorem dX12_digest_200 : decode cX12_digest 200 = .ok (.iinc 3 1, 3) := by decide +kernel
theorem dX12_digest_203 : decode cX12_digest 203 = .ok (.goto (-93), 3) := by decide +kernel
theorem dX12_digest_206 : decode cX12_digest 206 = .ok (.lload_n 1, 1) := by decide +kernel
theorem dX12_digest_207 : decode cX12_digest 207 = .ok (.lreturn, 1) := by decide +kernel
theorem dJ6_bitCount_0f7a4_0 : decode cJ6_bitCount_0f7a4 0 = .ok (.iload_n 0, 1) := by decide +kernel
theorem dJ6_bitCount_0f7a4_1 : decode cJ6_bitCount_0f7a4 1 = .ok (.iload_n 0, 1) := by decide +kernel
theorem dJ6_bitCount_0f7a4_2 : decode cJ6_bitCount_0f7a4 2 = .ok (.iconst 1, 1) := by decide +kernel
theorem dJ6_bitCount_0f7a4_3 : decode cJ6_bitCount_0f7a4 3 = .ok (.iushr, 1) := by decide +kernel
theorem dJ6_bitCount_0f7a4_4 : decode cJ6_bitCount_0f7a4 4 = .ok (.ldc_w 265, 3) := by decide +kernel
theorem dJ6_bitCount_0f7a4_7 : decode cJ6_bitCount_0f7a4 7 = .ok (.iand, 1) := by decide +kernel
theorem dJ6_bitCount_0f7a4_8 : decode cJ6_bitCount_0f7a4 8 = .ok (.isub, 1) := by decide +kernel
theorem dJ6_bitCount_0f7a4_9 : decode cJ6_bitCount_0f7a4 9 = .ok (.istore_n 0, 1) := by decide +kernel
theorem dJ6_bitCount_0f7a4_10 : decode cJ6_bitCount_0f7a4 10 = .ok (.iload_n 0, 1) := by decide +kernel
theorem dJ6_bitCount_0f7a4_11 : decode cJ6_bitCount_0f7a4 11 = .ok (.ldc_w 266, 3) := by decide +kernel
theorem dJ6_bitCount_0f7a4_14 : decode cJ6_bitCount_0f7a4 14 = .ok (.iand, 1) := by decide +kernel
theorem dJ6_bitCount_0f7a4_15 : decode cJ6_bitCount_0f7a4 15 = .ok (.iload_n 0, 1) := by decide +kernel
theorem dJ6_bitCount_0f7a4_16 : decode cJ6_bitCount_0f7a4 16 = .ok (.iconst 2, 1) := by decide +kernel
theorem dJ6_bitCount_0f7a4_17 : decode cJ6_bitCount_0f7a4 17 = .ok (.iushr, 1) := by decide +kernel
theorem dJ6_bitCount_0f7a4_18 : decode cJ6_bitCount_0f7a4 18 = .ok (.ldc_w 266, 3) := by decide +kernel
theorem dJ6_bitCount_0f7a4_21 : decode cJ6_bitCount_0f7a4 21 = .ok (.iand, 1) := by decide +kernel
theorem dJ6_bitCount_0f7a4_22 : decode cJ6_bitCount_0f7a4 22 = .ok (.iadd, 1) := by decide +kernel
theorem dJ6_bitCount_0f7a4_23 : decode cJ6_bitCount_0f7a4 23 = .ok (.istore_n 0, 1) := by decide +kernel
theorem dJ6_bitCount_0f7a4_24 : decode cJ6_bitCount_0f7a4 24 = .ok (.iload_n 0, 1) := by decide +kernel
theorem dJ6_bitCount_0f7a4_25 : decode cJ6_bitCount_0f7a4 25 = .ok (.iload_n 0, 1) := by decide +kernel
theorem dJ6_bitCount_0f7a4_26 : decode cJ6_bitCount_0f7a4 26 = .ok (.iconst 4, 1) := by decide +kernel
theorem dJ6_bitCount_0f7a4_27 : decode cJ6_bitCount_0f7a4 27 = .ok (.iushr, 1) := by decide +kernel
theorem dJ6_bitCount_0f7a4_28 : decode cJ6_bitCount_0f7a4 28 = .ok (.iadd, 1) := by decide +kernel
theorem dJ6_bitCount_0f7a4_29 : decode cJ6_bitCount_0f7a4 29 = .ok (.ldc_w 267, 3) := by decide +kernel
theorem dJ6_bitCount_0f7a4_32 : decode cJ6_bitCount_0f7a4 32 = .ok (.iand, 1) := by decide +kernel
theorem dJ6_bitCount_0f7a4_33 : decode cJ6_bitCount_0f7a4 33 = .ok (.istore_n 0, 1) := by decide +kernel
theorem dJ6_bitCount_0f7a4_34 : decode cJ6_bitCount_0f7a4 34 = .ok (.iload_n 0, 1) := by decide +kernel
theorem dJ6_bitCount_0f7a4_35 : decode cJ6_bitCount_0f7a4 35 = .ok (.iload_n 0, 1) := by decide +kernel
theorem dJ6_bitCount_0f7a4_36 : decode cJ6_bitCount_0f7a4 36 = .ok (.bipush 8, 2) := by decide +kernel
theorem dJ6_bitCount_0f7a4_38 : decode cJ6_bitCount_0f7a4 38 = .ok (.iushr, 1) := by decide +kernel
theorem dJ6_bitCount_0f7a4_39 : decode cJ6_bitCount_0f7a4 39 = .ok (.iadd, 1) := by decide +kernel
theorem dJ6_bitCount_0f7a4_40 : decode cJ6_bitCount_0f7a4 40 = .ok (.istore_n 0, 1) := by decide +kernel
theorem dJ6_bitCount_0f7a4_41 : decode cJ6_bitCount_0f7a4 41 = .ok (.iload_n 0, 1) := by decide +kernel
theorem dJ6_bitCount_0f7a4_42 : decode cJ6_bitCount_0f7a4 42 = .ok (.iload_n 0, 1) := by decide +kernel
theorem dJ6_bitCount_0f7a4_43 : decode cJ6_bitCount_0f7a4 43 = .ok (.bipush 16, 2) := by decide +kernel
theorem dJ6_bitCount_0f7a4_45 : decode cJ6_bitCount_0f7a4 45 = .ok (.iushr, 1) := by decide +kernel
theorem dJ6_bitCount_0f7a4_46 : decode cJ6_bitCount_0f7a4 46 = .ok (.iadd, 1) := by decide +kernel
theorem dJ6_bitCount_0f7a4_47 : decode cJ6_bitCount_0f7a4 47 = .ok (.istore_n 0, 1) := by decide +kernel
theorem dJ6_bitCount_0f7a4_48 : decode cJ6_bitCount_0f7a4 48 = .ok (.iload_n 0, 1) := by decide +kernel
theorem dJ6_bitCount_0f7a4_49 : decode cJ6_bitCount_0f7a4 49 = .ok (.bipush 63, 2) := by decide +kernel
theorem dJ6_bitCount_0f7a4_51 : decode cJ6_bitCount_0f7a4 51 = .ok (.iand, 1) := by decide +kernel
theorem dJ6_bitCount_0f7a4_52 : decode cJ6_bitCount_0f7a4 52 = .ok (.ireturn, 1) := by decide +kernel
theorem dJ9_max_7cf53_0 : decode cJ9_max_7cf53 0 = .ok (.iload_n 0, 1) := by decide +kernel
theorem dJ9_max_7cf53_1 : decode cJ9_max_7cf53 1 = .ok (.iload_n 1, 1) := by decide +kernel
theorem dJ9_max_7cf53_2 : decode cJ9_max_7cf53 2 = .ok (.if_icmp .lt 7, 3) := by decide +kernel
theorem dJ9_max_7cf53_5 : decode cJ9_max_7cf53 5 = .ok (.iload_n 0, 1) := by decide +kernel
theorem dJ9_max_7cf53_6 : decode cJ9_max_7cf53 6 = .ok (.goto 4, 3) := by decide +kernel
theorem dJ9_max_7cf53_9 : decode cJ9_max_7cf53 9 = .ok (.iload_n 1, 1) := by decide +kernel
theorem dJ9_max_7cf53_10 : decode cJ9_max_7cf53 10 = .ok (.ireturn, 1) := by decide +kernel
theorem dJ9_min_7cf53_0 : decode cJ9_min_7cf53 0 = .ok (.iload_n 0, 1) := by decide +kernel
theorem dJ9_min_7cf53_1 : decode cJ9_min_7cf53 1 = .ok (.iload_n 1, 1) := by decide +kernel
theorem dJ9_min_7cf53_2 : decode cJ9_min_7cf53 2 = .ok (.if_icmp .gt 7, 3) := by decide +kernel
theorem dJ9_min_7cf53_5 : decode cJ9_min_7cf53 5 = .ok (.iload_n 0, 1) := by decide +kernel
theorem dJ9_min_7cf53_6 : decode cJ9_min_7cf53 6 = .ok (.goto 4, 3) := by decide +kernel
theorem dJ9_min_7cf53_9 : decode cJ9_min_7cf53 9 = .ok (.iload_n 1, 1) := by decide +kernel
theorem dJ9_min_7cf53_10 : decode cJ9_min_7cf53 10 = .ok (.ireturn, 1) := by decide +kernel
theorem dJ0_charAt_5068e_0 : decode cJ0_charAt_5068e 0 = .ok (.aload_n 0, 1) := by decide +kernel
theorem dJ0_charAt_5068e_1 : decode cJ0_charAt_5068e 1 = .ok (.invokevirtual 492, 3) := by decide +kernel
theorem dJ0_charAt_5068e_4 : decode cJ0_charAt_5068e 4 = .ok (.ifCond .eq 12, 3) := by decide +kernel
theorem dJ0_charAt_5068e_7 : decode cJ0_charAt_5068e 7 = .ok (.aload_n 0, 1) := by decide +kernel
theorem dJ0_charAt_5068e_8 : decode cJ0_charAt_5068e 8 = .ok (.getfield 9, 3) := by decide +kernel
theorem dJ0_charAt_5068e_11 : decode cJ0_charAt_5068e 11 = .ok (.iload_n 1, 1) := by decide +kernel
theorem dJ0_charAt_5068e_12 : decode cJ0_charAt_5068e 12 = .ok (.invokestatic 495, 3) := by decide +kernel
theorem dJ0_charAt_5068e_15 : decode cJ0_charAt_5068e 15 = .ok (.ireturn, 1) := by decide +kernel
theorem dJ0_charAt_5068e_16 : decode cJ0_charAt_5068e 16 = .ok (.aload_n 0, 1) := by decide +kernel
theorem dJ0_charAt_5068e_17 : decode cJ0_charAt_5068e 17 = .ok (.getfield 9, 3) := by decide +kernel
theorem dJ0_charAt_5068e_20 : decode cJ0_charAt_5068e 20 = .ok (.iload_n 1, 1) := by decide +kernel
theorem dJ0_charAt_5068e_21 : decode cJ0_charAt_5068e 21 = .ok (.invokestatic 498, 3) := by decide +kernel
theorem dJ0_charAt_5068e_24 : decode cJ0_charAt_5068e 24 = .ok (.ireturn, 1) := by decide +kernel
theorem dJ0_isLatin1_aae02_0 : decode cJ0_isLatin1_aae02 0 = .ok (.getstatic 38, 3) := by decide +kernel
theorem dJ0_isLatin1_aae02_3 : decode cJ0_isLatin1_aae02 3 = .ok (.ifCond .eq 14, 3) := by decide +kernel
theorem dJ0_isLatin1_aae02_6 : decode cJ0_isLatin1_aae02 6 = .ok (.aload_n 0, 1) := by decide +kernel
theorem dJ0_isLatin1_aae02_7 : decode cJ0_isLatin1_aae02 7 = .ok (.getfield 15, 3) := by decide +kernel
theorem dJ0_isLatin1_aae02_10 : decode cJ0_isLatin1_aae02 10 = .ok (.ifCond .ne 7, 3) := by decide +kernel
theorem dJ0_isLatin1_aae02_13 : decode cJ0_isLatin1_aae02 13 = .ok (.iconst 1, 1) := by decide +kernel
theorem dJ0_isLatin1_aae02_14 : decode cJ0_isLatin1_aae02 14 = .ok (.goto 4, 3) := by decide +kernel
theorem dJ0_isLatin1_aae02_17 : decode cJ0_isLatin1_aae02 17 = .ok (.iconst 0, 1) := by decide +kernel
theorem dJ0_isLatin1_aae02_18 : decode cJ0_isLatin1_aae02 18 = .ok (.ireturn, 1) := by decide +kernel
theorem dJ0_checkIndex_df160_0 : decode cJ0_checkIndex_df160 0 = .ok (.iload_n 0, 1) := by decide +kernel
theorem dJ0_checkIndex_df160_1 : decode cJ0_checkIndex_df160 1 = .ok (.iload_n 1, 1) := by decide +kernel
theorem dJ0_checkIndex_df160_2 : decode cJ0_checkIndex_df160 2 = .ok (.getstatic 1053, 3) := by decide +kernel
theorem dJ0_checkIndex_df160_5 : decode cJ0_checkIndex_df160 5 = .ok (.invokestatic 1059, 3) := by decide +kernel
theorem dJ0_checkIndex_df160_8 : decode cJ0_checkIndex_df160 8 = .ok (.pop, 1) := by decide +kernel
theorem dJ0_checkIndex_df160_9 : decode cJ0_checkIndex_df160 9 = .ok (.return_, 1) := by decide +kernel
theorem dJ1_charAt_3b067_0 : decode cJ1_charAt_3b067 0 = .ok (.iload_n 1, 1) := by decide +kernel
theorem dJ1_charAt_3b067_1 : decode cJ1_charAt_3b067 1 = .ok (.aload_n 0, 1) := by decide +kernel
theorem dJ1_charAt_3b067_2 : decode cJ1_charAt_3b067 2 = .ok (.arraylength, 1) := by decide +kernel
theorem dJ1_charAt_3b067_3 : decode cJ1_charAt_3b067 3 = .ok (.invokestatic 9, 3) := by decide +kernel
theorem dJ1_charAt_3b067_6 : decode cJ1_charAt_3b067 6 = .ok (.aload_n 0, 1) := by decide +kernel
theorem dJ1_charAt_3b067_7 : decode cJ1_charAt_3b067 7 = .ok (.iload_n 1, 1) := by decide +kernel
theorem dJ1_charAt_3b067_8 : decode cJ1_charAt_3b067 8 = .ok (.baload, 1) := by decide +kernel
theorem dJ1_charAt_3b067_9 : decode cJ1_charAt_3b067 9 = .ok (.sipush 255, 3) := by decide +kernel
theorem dJ1_charAt_3b067_12 : decode cJ1_charAt_3b067 12 = .ok (.iand, 1) := by decide +kernel
theorem dJ1_charAt_3b067_13 : decode cJ1_charAt_3b067 13 = .ok (.i2c, 1) := by decide +kernel
theorem dJ1_charAt_3b067_14 : decode cJ1_charAt_3b067 14 = .ok (.ireturn, 1) := by decide +kernel
theorem dJ2_getChar_3b067_0 : decode cJ2_getChar_3b067 0 = .ok (.getstatic 44, 3) := by decide +kernel
theorem dJ2_getChar_3b067_3 : decode cJ2_getChar_3b067 3 = .ok (.ifCond .ne 25, 3) := by decide +kernel
theorem dJ2_getChar_3b067_6 : decode cJ2_getChar_3b067 6 = .ok (.iload_n 1, 1) := by decide +kernel
theorem dJ2_getChar_3b067_7 : decode cJ2_getChar_3b067 7 = .ok (.ifCond .lt 11, 3) := by decide +kernel
theorem dJ2_getChar_3b067_10 : decode cJ2_getChar_3b067 10 = .ok (.iload_n 1, 1) := by decide +kernel
theorem dJ2_getChar_3b067_11 : decode cJ2_getChar_3b067 11 = .ok (.aload_n 0, 1) := by decide +kernel
theorem dJ2_getChar_3b067_12 : decode cJ2_getChar_3b067 12 = .ok (.invokestatic 48, 3) := by decide +kernel
theorem dJ2_getChar_3b067_15 : decode cJ2_getChar_3b067 15 = .ok (.if_icmp .lt 13, 3) := by decide +kernel
theorem dJ2_getChar_3b067_18 : decode cJ2_getChar_3b067 18 = .ok (.new 52, 3) := by decide +kernel
theorem dJ2_getChar_3b067_21 : decode cJ2_getChar_3b067 21 = .ok (.dup, 1) := by decide +kernel
theorem dJ2_getChar_3b067_22 : decode cJ2_getChar_3b067 22 = .ok (.ldc 54, 2) := by decide +kernel
theorem dJ2_getChar_3b067_24 : decode cJ2_getChar_3b067 24 = .ok (.invokespecial 56, 3) := by decide +kernel
theorem dJ2_getChar_3b067_27 : decode cJ2_getChar_3b067 27 = .ok (.athrow, 1) := by decide +kernel
theorem dJ2_getChar_3b067_28 : decode cJ2_getChar_3b067 28 = .ok (.iload_n 1, 1) := by decide +kernel
theorem dJ2_getChar_3b067_29 : decode cJ2_getChar_3b067 29 = .ok (.iconst 1, 1) := by decide +kernel
theorem dJ2_getChar_3b067_30 : decode cJ2_getChar_3b067 30 = .ok (.ishl, 1) := by decide +kernel
theorem dJ2_getChar_3b067_31 : decode cJ2_getChar_3b067 31 = .ok (.istore_n 1, 1) := by decide +kernel
theorem dJ2_getChar_3b067_32 : decode cJ2_getChar_3b067 32 = .ok (.aload_n 0, 1) := by decide +kernel
theorem dJ2_getChar_3b067_33 : decode cJ2_getChar_3b067 33 = .ok (.iload_n 1, 1) := by decide +kernel
theorem dJ2_getChar_3b067_34 : decode cJ2_getChar_3b067 34 = .ok (.iinc 1 1, 3) := by decide +kernel
theorem dJ2_getChar_3b067_37 : decode cJ2_getChar_3b067 37 = .ok (.baload, 1) := by decide +kernel
theorem dJ2_getChar_3b067_38 : decode cJ2_getChar_3b067 38 = .ok (.sipush 255, 3) := by decide +kernel
theorem dJ2_getChar_3b067_41 : decode cJ2_getChar_3b067 41 = .ok (.iand, 1) := by decide +kernel
theorem dJ2_getChar_3b067_42 : decode cJ2_getChar_3b067 42 = .ok (.getstatic 59, 3) := by decide +kernel
theorem dJ2_getChar_3b067_45 : decode cJ2_getChar_3b067 45 = .ok (.ishl, 1) := by decide +kernel
theorem dJ2_getChar_3b067_46 : decode cJ2_getChar_3b067 46 = .ok (.aload_n 0, 1) := by decide +kernel
theorem dJ2_getChar_3b067_47 : decode cJ2_getChar_3b067 47 = .ok (.iload_n 1, 1) := by decide +kernel
theorem dJ2_getChar_3b067_48 : decode cJ2_getChar_3b067 48 = .ok (.baload, 1) := by decide +kernel
theorem dJ2_getChar_3b067_49 : decode cJ2_getChar_3b067 49 = .ok (.sipush 255, 3) := by decide +kernel
theorem dJ2_getChar_3b067_52 : decode cJ2_getChar_3b067 52 = .ok (.iand, 1) := by decide +kernel
theorem dJ2_getChar_3b067_53 : decode cJ2_getChar_3b067 53 = .ok (.getstatic 63, 3) := by decide +kernel
theorem dJ2_getChar_3b067_56 : decode cJ2_getChar_3b067 56 = .ok (.ishl, 1) := by decide +kernel
theorem dJ2_getChar_3b067_57 : decode cJ2_getChar_3b067 57 = .ok (.ior, 1) := by decide +kernel
theorem dJ2_getChar_3b067_58 : decode cJ2_getChar_3b067 58 = .ok (.i2c, 1) := by decide +kernel
theorem dJ2_getChar_3b067_59 : decode cJ2_getChar_3b067 59 = .ok (.ireturn, 1) := by decide +kernel
theorem dJ2_length_9d52b_0 : decode cJ2_length_9d52b 0 = .ok (.aload_n 0, 1) := by decide +kernel
theorem dJ2_length_9d52b_1 : decode cJ2_length_9d52b 1 = .ok (.arraylength, 1) := by decide +kernel
theorem dJ2_length_9d52b_2 : decode cJ2_length_9d52b 2 = .ok (.iconst 1, 1) := by decide +kernel
theorem dJ2_length_9d52b_3 : decode cJ2_length_9d52b 3 = .ok (.ishr, 1) := by decide +kernel
theorem dJ2_length_9d52b_4 : decode cJ2_length_9d52b 4 = .ok (.ireturn, 1) := by decide +kernel
theorem dJ2_charAt_3b067_0 : decode cJ2_charAt_3b067 0 = .ok (.iload_n 1, 1) := by decide +kernel
theorem dJ2_charAt_3b067_1 : decode cJ2_charAt_3b067 1 = .ok (.aload_n 0, 1) := by decide +kernel
theorem dJ2_charAt_3b067_2 : decode cJ2_charAt_3b067 2 = .ok (.invokestatic 67, 3) := by decide +kernel
theorem dJ2_charAt_3b067_5 : decode cJ2_charAt_3b067 5 = .ok (.aload_n 0, 1) := by decide +kernel
theorem dJ2_charAt_3b067_6 : decode cJ2_charAt_3b067 6 = .ok (.iload_n 1, 1) := by decide +kernel
theorem dJ2_charAt_3b067_7 : decode cJ2_charAt_3b067 7 = .ok (.invokestatic 71, 3) := by decide +kernel
theorem dJ2_charAt_3b067_10 : decode cJ2_charAt_3b067 10 = .ok (.ireturn, 1) := by decide +kernel
theorem dJ2_checkIndex_2214a_0 : decode cJ2_checkIndex_2214a 0 = .ok (.iload_n 0, 1) := by decide +kernel
theorem dJ2_checkIndex_2214a_1 : decode cJ2_checkIndex_2214a 1 = .ok (.aload_n 1, 1) := by decide +kernel
theorem dJ2_checkIndex_2214a_2 : decode cJ2_checkIndex_2214a 2 = .ok (.invokestatic 48, 3) := by decide +kernel
theorem dJ2_checkIndex_2214a_5 : decode cJ2_checkIndex_2214a 5 = .ok (.invokestatic 414, 3) := by decide +kernel
theorem dJ2_checkIndex_2214a_8 : decode cJ2_checkIndex_2214a 8 = .ok (.return_, 1) := by decide +kernel
theorem dJ7_fill_d0a16_0 : decode cJ7_fill_d0a16 0 = .ok (.iconst 0, 1) := by decide +kernel
theorem dJ7_fill_d0a16_1 : decode cJ7_fill_d0a16 1 = .ok (.istore_n 3, 1) := by decide +kernel
theorem dJ7_fill_d0a16_2 : decode cJ7_fill_d0a16 2 = .ok (.aload_n 0, 1) := by decide +kernel
theorem dJ7_fill_d0a16_3 : decode cJ7_fill_d0a16 3 = .ok (.arraylength, 1) := by decide +kernel
theorem dJ7_fill_d0a16_4 : decode cJ7_fill_d0a16 4 = .ok (.istore 4, 2) := by decide +kernel
theorem dJ7_fill_d0a16_6 : decode cJ7_fill_d0a16 6 = .ok (.iload_n 3, 1) := by decide +kernel
theorem dJ7_fill_d0a16_7 : decode cJ7_fill_d0a16 7 = .ok (.iload 4, 2) := by decide +kernel
theorem dJ7_fill_d0a16_9 : decode cJ7_fill_d0a16 9 = .ok (.if_icmp .ge 13, 3) := by decide +kernel
theorem dJ7_fill_d0a16_12 : decode cJ7_fill_d0a16 12 = .ok (.aload_n 0, 1) := by decide +kernel
theorem dJ7_fill_d0a16_13 : decode cJ7_fill_d0a16 13 = .ok (.iload_n 3, 1) := by decide +kernel
theorem dJ7_fill_d0a16_14 : decode cJ7_fill_d0a16 14 = .ok (.lload_n 1, 1) := by decide +kernel
theorem dJ7_fill_d0a16_15 : decode cJ7_fill_d0a16 15 = .ok (.lastore, 1) := by decide +kernel
theorem dJ7_fill_d0a16_16 : decode cJ7_fill_d0a16 16 = .ok (.iinc 3 1, 3) := by decide +kernel
theorem dJ7_fill_d0a16_19 : decode cJ7_fill_d0a16 19 = .ok (.goto (-13), 3) := by decide +kernel
theorem dJ7_fill_d0a16_22 : decode cJ7_fill_d0a16 22 = .ok (.return_, 1) := by decide +kernel
theorem dJ7_fill_53178_0 : decode cJ7_fill_53178 0 = .ok (.iconst 0, 1) := by decide +kernel
theorem dJ7_fill_53178_1 : decode cJ7_fill_53178 1 = .ok (.istore_n 2, 1) := by decide +kernel
theorem dJ7_fill_53178_2 : decode cJ7_fill_53178 2 = .ok (.aload_n 0, 1) := by decide +kernel
theorem dJ7_fill_53178_3 : decode cJ7_fill_53178 3 = .ok (.arraylength, 1) := by decide +kernel
theorem dJ7_fill_53178_4 : decode cJ7_fill_53178 4 = .ok (.istore_n 3, 1) := by decide +kernel
theorem dJ7_fill_53178_5 : decode cJ7_fill_53178 5 = .ok (.iload_n 2, 1) := by decide +kernel
theorem dJ7_fill_53178_6 : decode cJ7_fill_53178 6 = .ok (.iload_n 3, 1) := by decide +kernel
theorem dJ7_fill_53178_7 : decode cJ7_fill_53178 7 = .ok (.if_icmp .ge 13, 3) := by decide +kernel
theorem dJ7_fill_53178_10 : decode cJ7_fill_53178 10 = .ok (.aload_n 0, 1) := by decide +kernel
theorem dJ7_fill_53178_11 : decode cJ7_fill_53178 11 = .ok (.iload_n 2, 1) := by decide +kernel
theorem dJ7_fill_53178_12 : decode cJ7_fill_53178 12 = .ok (.iload_n 1, 1) := by decide +kernel
theorem dJ7_fill_53178_13 : decode cJ7_fill_53178 13 = .ok (.iastore, 1) := by decide +kernel
theorem dJ7_fill_53178_14 : decode cJ7_fill_53178 14 = .ok (.iinc 2 1, 3) := by decide +kernel
theorem dJ7_fill_53178_17 : decode cJ7_fill_53178 17 = .ok (.goto (-12), 3) := by decide +kernel
theorem dJ7_fill_53178_20 : decode cJ7_fill_53178 20 = .ok (.return_, 1) := by decide +kernel
theorem dJ3_checkIndex_8e157_0 : decode cJ3_checkIndex_8e157 0 = .ok (.iload_n 0, 1) := by decide +kernel
theorem dJ3_checkIndex_8e157_1 : decode cJ3_checkIndex_8e157 1 = .ok (.ifCond .lt 8, 3) := by decide +kernel
theorem dJ3_checkIndex_8e157_4 : decode cJ3_checkIndex_8e157 4 = .ok (.iload_n 0, 1) := by decide +kernel
theorem dJ3_checkIndex_8e157_5 : decode cJ3_checkIndex_8e157 5 = .ok (.iload_n 1, 1) := by decide +kernel
theorem dJ3_checkIndex_8e157_6 : decode cJ3_checkIndex_8e157 6 = .ok (.if_icmp .lt 10, 3) := by decide +kernel
theorem dJ3_checkIndex_8e157_9 : decode cJ3_checkIndex_8e157 9 = .ok (.aload_n 2, 1) := by decide +kernel
theorem dJ3_checkIndex_8e157_10 : decode cJ3_checkIndex_8e157 10 = .ok (.iload_n 0, 1) := by decide +kernel
theorem dJ3_checkIndex_8e157_11 : decode cJ3_checkIndex_8e157 11 = .ok (.iload_n 1, 1) := by decide +kernel
theorem dJ3_checkIndex_8e157_12 : decode cJ3_checkIndex_8e157 12 = .ok (.invokestatic 95, 3) := by decide +kernel
theorem dJ3_checkIndex_8e157_15 : decode cJ3_checkIndex_8e157 15 = .ok (.athrow, 1) := by decide +kernel
theorem dJ3_checkIndex_8e157_16 : decode cJ3_checkIndex_8e157 16 = .ok (.iload_n 0, 1) := by decide +kernel
theorem dJ3_checkIndex_8e157_17 : decode cJ3_checkIndex_8e157 17 = .ok (.ireturn, 1) := by decide +kernel
theorem dL_law_0 : decode cL_law 0 = .ok (.new 7, 3) := by decide +kernel
theorem dL_law_3 : decode cL_law 3 = .ok (.dup, 1) := by decide +kernel
theorem dL_law_4 : decode cL_law 4 = .ok (.invokespecial 9, 3) := by decide +kernel
theorem dL_law_7 : decode cL_law 7 = .ok (.astore_n 1, 1) := by decide +kernel
theorem dL_law_8 : decode cL_law 8 = .ok (.new 10, 3) := by decide +kernel
theorem dL_law_11 : decode cL_law 11 = .ok (.dup, 1) := by decide +kernel
theorem dL_law_12 : decode cL_law 12 = .ok (.invokespecial 12, 3) := by decide +kernel
theorem dL_law_15 : decode cL_law 15 = .ok (.astore_n 2, 1) := by decide +kernel
theorem dL_law_16 : decode cL_law 16 = .ok (.iconst 0, 1) := by decide +kernel
theorem dL_law_17 : decode cL_law 17 = .ok (.istore_n 3, 1) := by decide +kernel
theorem dL_law_18 : decode cL_law 18 = .ok (.iload_n 3, 1) := by decide +kernel
theorem dL_law_19 : decode cL_law 19 = .ok (.aload_n 0, 1) := by decide +kernel
theorem dL_law_20 : decode cL_law 20 = .ok (.arraylength, 1) := by decide +kernel
theorem dL_law_21 : decode cL_law 21 = .ok (.iconst 4, 1) := by decide +kernel
theorem dL_law_22 : decode cL_law 22 = .ok (.isub, 1) := by decide +kernel
theorem dL_law_23 : decode cL_law 23 = .ok (.if_icmp .gt 656, 3) := by decide +kernel
theorem dL_law_26 : decode cL_law 26 = .ok (.aload_n 0, 1) := by decide +kernel
theorem dL_law_27 : decode cL_law 27 = .ok (.iload_n 3, 1) := by decide +kernel
theorem dL_law_28 : decode cL_law 28 = .ok (.iaload, 1) := by decide +kernel
theorem dL_law_29 : decode cL_law 29 = .ok (.bipush 31, 2) := by decide +kernel
theorem dL_law_31 : decode cL_law 31 = .ok (.iand, 1) := by decide +kernel
theorem dL_law_32 : decode cL_law 32 = .ok (.tableswitch 641 0 21 #[104, 147, 180, 193, 226, 259, 272, 305, 338, 381, 404, 437, 450, 473, 496, 509, 532, 545, 558, 591, 604, 627], 104) := by decide +kernel
theorem dL_law_136 : decode cL_law 136 = .ok (.aload_n 1, 1) := by decide +kernel
theorem dL_law_137 : decode cL_law 137 = .ok (.aload_n 0, 1) := by decide +kernel
theorem dL_law_138 : decode cL_law 138 = .ok (.iload_n 3, 1) := by decide +kernel
theorem dL_law_139 : decode cL_law 139 = .ok (.iconst 1, 1) := by decide +kernel
theorem dL_law_140 : decode cL_law 140 = .ok (.iadd, 1) := by decide +kernel
theorem dL_law_141 : decode cL_law 141 = .ok (.iaload, 1) := by decide +kernel
theorem dL_law_142 : decode cL_law 142 = .ok (.aload_n 0, 1) := by decide +kernel
theorem dL_law_143 : decode cL_law 143 = .ok (.iload_n 3, 1) := by decide +kernel
theorem dL_law_144 : decode cL_law 144 = .ok (.iconst 2, 1) := by decide +kernel
theorem dL_law_145 : decode cL_law 145 = .ok (.iadd, 1) := by decide +kernel
theorem dL_law_146 : decode cL_law 146 = .ok (.iaload, 1) := by decide +kernel
theorem dL_law_147 : decode cL_law 147 = .ok (.aload_n 0, 1) := by decide +kernel
theorem dL_law_148 : decode cL_law 148 = .ok (.iload_n 3, 1) := by decide +kernel
theorem dL_law_149 : decode cL_law 149 = .ok (.iconst 3, 1) := by decide +kernel
theorem dL_law_150 : decode cL_law 150 = .ok (.iadd, 1) := by decide +kernel
theorem dL_law_151 : decode cL_law 151 = .ok (.iaload, 1) := by decide +kernel
theorem dL_law_152 : decode cL_law 152 = .ok (.invokevirtual 13, 3) := by decide +kernel
theorem dL_law_155 : decode cL_law 155 = .ok (.aload_n 2, 1) := by decide +kernel
theorem dL_law_156 : decode cL_law 156 = .ok (.aload_n 0, 1) := by decide +kernel
theorem dL_law_157 : decode cL_law 157 = .ok (.iload_n 3, 1) := by decide +kernel
theorem dL_law_158 : decode cL_law 158 = .ok (.iconst 1, 1) := by decide +kernel
theorem dL_law_159 : decode cL_law 159 = .ok (.iadd, 1) := by decide +kernel
theorem dL_law_160 : decode cL_law 160 = .ok (.iaload, 1) := by decide +kernel
theorem dL_law_161 : decode cL_law 161 = .ok (.aload_n 0, 1) := by decide +kernel
theorem dL_law_162 : decode cL_law 162 = .ok (.iload_n 3, 1) := by decide +kernel
theorem dL_law_163 : decode cL_law 163 = .ok (.iconst 2, 1) := by decide +kernel
theorem dL_law_164 : decode cL_law 164 = .ok (.iadd, 1) := by decide +kernel
theorem dL_law_165 : decode cL_law 165 = .ok (.iaload, 1) := by decide +kernel
theorem dL_law_166 : decode cL_law 166 = .ok (.aload_n 0, 1) := by decide +kernel
theorem dL_law_167 : decode cL_law 167 = .ok (.iload_n 3, 1) := by decide +kernel
theorem dL_law_168 : decode cL_law 168 = .ok (.iconst 3, 1) := by decide +kernel
theorem dL_law_169 : decode cL_law 169 = .ok (.iadd, 1) := by decide +kernel
theorem dL_law_170 : decode cL_law 170 = .ok (.iaload, 1) := by decide +kernel
theorem dL_law_171 : decode cL_law 171 = .ok (.invokevirtual 17, 3) := by decide +kernel
theorem dL_law_174 : decode cL_law 174 = .ok (.if_icmp .eq 499, 3) := by decide +kernel
theorem dL_law_177 : decode cL_law 177 = .ok (.iconst 0, 1) := by decide +kernel
theorem dL_law_178 : decode cL_law 178 = .ok (.ireturn, 1) := by decide +kernel
theorem dL_law_179 : decode cL_law 179 = .ok (.aload_n 1, 1) := by decide +kernel
theorem dL_law_180 : decode cL_law 180 = .ok (.aload_n 0, 1) := by decide +kernel
theorem dL_law_181 : decode cL_law 181 = .ok (.iload_n 3, 1) := by decide +kernel
theorem dL_law_182 : decode cL_law 182 = .ok (.iconst 1, 1) := by decide +kernel
theorem dL_law_183 : decode cL_law 183 = .ok (.iadd, 1) := by decide +kernel
theorem dL_law_184 : decode cL_law 184 = .ok (.iaload, 1) := by decide +kernel
theorem dL_law_185 : decode cL_law 185 = .ok (.aload_n 0, 1) := by decide +kernel
theorem dL_law_186 : decode cL_law 186 = .ok (.iload_n 3, 1) := by decide +kernel
theorem dL_law_187 : decode cL_law 187 = .ok (.iconst 2, 1) := by decide +kernel
theorem dL_law_188 : decode cL_law 188 = .ok (.iadd, 1) := by decide +kernel
theorem dL_law_189 : decode cL_law 189 = .ok (.iaload, 1) := by decide +kernel
theorem dL_law_190 : decode cL_law 190 = .ok (.invokevirtual 18, 3) := by decide +kernel
theorem dL_law_193 : decode cL_law 193 = .ok (.aload_n 2, 1) := by decide +kernel
theorem dL_law_194 : decode cL_law 194 = .ok (.aload_n 0, 1) := by decide +kernel
theorem dL_law_195 : decode cL_law 195 = .ok (.iload_n 3, 1) := by decide +kernel
theorem dL_law_196 : decode cL_law 196 = .ok (.iconst 1, 1) := by decide +kernel
theorem dL_law_197 : decode cL_law 197 = .ok (.iadd, 1) := by decide +kernel
theorem dL_law_198 : decode cL_law 198 = .ok (.iaload, 1) := by decide +kernel
theorem dL_law_199 : decode cL_law 199 = .ok (.aload_n 0, 1) := by decide +kernel
theorem dL_law_200 : decode cL_law 200 = .ok (.iload_n 3, 1) := by decide +kernel
theorem dL_law_201 : decode cL_law 201 = .ok (.iconst 2, 1) := by decide +kernel
theorem dL_law_202 : decode cL_law 202 = .ok (.iadd, 1) := by decide +kernel
theorem dL_law_203 : decode cL_law 203 = .ok (.iaload, 1) := by decide +kernel
theorem dL_law_204 : decode cL_law 204 = .ok (.invokevirtual 22, 3) := by decide +kernel
theorem dL_law_207 : decode cL_law 207 = .ok (.if_icmp .eq 466, 3) := by decide +kernel
theorem dL_law_210 : decode cL_law 210 = .ok (.iconst 0, 1) := by decide +kernel
theorem dL_law_211 : decode cL_law 211 = .ok (.ireturn, 1) := by decide +kernel
theorem dL_law_212 : decode cL_law 212 = .ok (.aload_n 1, 1) := by decide +kernel
theorem dL_law_213 : decode cL_law 213 = .ok (.invokevirtual 23, 3) := by decide +kernel
theorem dL_law_216 : decode cL_law 216 = .ok (.aload_n 2, 1) := by decide +kernel
theorem dL_law_217 : decode cL_law 217 = .ok (.invokevirtual 27, 3) := by decide +kernel
theorem dL_law_220 : decode cL_law 220 = .ok (.if_icmp .eq 453, 3) := by decide +kernel
theorem dL_law_223 : decode cL_law 223 = .ok (.iconst 0, 1) := by decide +kernel
theorem dL_law_224 : decode cL_law 224 = .ok (.ireturn, 1) := by decide +kernel
theorem dL_law_225 : decode cL_law 225 = .ok (.aload_n 1, 1) := by decide +kernel
theorem dL_law_226 : decode cL_law 226 = .ok (.aload_n 0, 1) := by decide +kernel
theorem dL_law_227 : decode cL_law 227 = .ok (.iload_n 3, 1) := by decide +kernel
theorem dL_law_228 : decode cL_law 228 = .ok (.iconst 1, 1) := by decide +kernel
theorem dL_law_229 : decode cL_law 229 = .ok (.iadd, 1) := by decide +kernel
theorem dL_law_230 : decode cL_law 230 = .ok (.iaload, 1) := by decide +kernel
theorem dL_law_231 : decode cL_law 231 = .ok (.aload_n 0, 1) := by decide +kernel
theorem dL_law_232 : decode cL_law 232 = .ok (.iload_n 3, 1) := by decide +kernel
theorem dL_law_233 : decode cL_law 233 = .ok (.iconst 2, 1) := by decide +kernel
theorem dL_law_234 : decode cL_law 234 = .ok (.iadd, 1) := by decide +kernel
theorem dL_law_235 : decode cL_law 235 = .ok (.iaload, 1) := by decide +kernel
theorem dL_law_236 : decode cL_law 236 = .ok (.invokevirtual 28, 3) := by decide +kernel
theorem dL_law_239 : decode cL_law 239 = .ok (.aload_n 2, 1) := by decide +kernel
theorem dL_law_240 : decode cL_law 240 = .ok (.aload_n 0, 1) := by decide +kernel
theorem dL_law_241 : decode cL_law 241 = .ok (.iload_n 3, 1) := by decide +kernel
theorem dL_law_242 : decode cL_law 242 = .ok (.iconst 1, 1) := by decide +kernel
theorem dL_law_243 : decode cL_law 243 = .ok (.iadd, 1) := by decide +kernel
theorem dL_law_244 : decode cL_law 244 = .ok (.iaload, 1) := by decide +kernel
theorem dL_law_245 : decode cL_law 245 = .ok (.aload_n 0, 1) := by decide +kernel
theorem dL_law_246 : decode cL_law 246 = .ok (.iload_n 3, 1) := by decide +kernel
theorem dL_law_247 : decode cL_law 247 = .ok (.iconst 2, 1) := by decide +kernel
theorem dL_law_248 : decode cL_law 248 = .ok (.iadd, 1) := by decide +kernel
theorem dL_law_249 : decode cL_law 249 = .ok (.iaload, 1) := by decide +kernel
theorem dL_law_250 : decode cL_law 250 = .ok (.invokevirtual 31, 3) := by decide +kernel
theorem dL_law_253 : decode cL_law 253 = .ok (.if_icmp .eq 420, 3) := by decide +kernel
theorem dL_law_256 : decode cL_law 256 = .ok (.iconst 0, 1) := by decide +kernel
theorem dL_law_257 : decode cL_law 257 = .ok (.ireturn, 1) := by decide +kernel
theorem dL_law_258 : decode cL_law 258 = .ok (.aload_n 1, 1) := by decide +kernel
theorem dL_law_259 : decode cL_law 259 = .ok (.aload_n 0, 1) := by decide +kernel
theorem dL_law_260 : decode cL_law 260 = .ok (.iload_n 3, 1) := by decide +kernel
theorem dL_law_261 : decode cL_law 261 = .ok (.iconst 1, 1) := by decide +kernel
theorem dL_law_262 : decode cL_law 262 = .ok (.iadd, 1) := by decide +kernel
theorem dL_law_263 : decode cL_law 263 = .ok (.iaload, 1) := by decide +kernel
theorem dL_law_264 : decode cL_law 264 = .ok (.aload_n 0, 1) := by decide +kernel
theorem dL_law_265 : decode cL_law 265 = .ok (.iload_n 3, 1) := by decide +kernel
theorem dL_law_266 : decode cL_law 266 = .ok (.iconst 2, 1) := by decide +kernel
theorem dL_law_267 : decode cL_law 267 = .ok (.iadd, 1) := by decide +kernel
theorem dL_law_268 : decode cL_law 268 = .ok (.iaload, 1) := by decide +kernel
theorem dL_law_269 : decode cL_law 269 = .ok (.invokevirtual 32, 3) := by decide +kernel
theorem dL_law_272 : decode cL_law 272 = .ok (.aload_n 2, 1) := by decide +kernel
theorem dL_law_273 : decode cL_law 273 = .ok (.aload_n 0, 1) := by decide +kernel
theorem dL_law_274 : decode cL_law 274 = .ok (.iload_n 3, 1) := by decide +kernel
theorem dL_law_275 : decode cL_law 275 = .ok (.iconst 1, 1) := by decide +kernel
theorem dL_law_276 : decode cL_law 276 = .ok (.iadd, 1) := by decide +kernel
theorem dL_law_277 : decode cL_law 277 = .ok (.iaload, 1) := by decide +kernel
theorem dL_law_278 : decode cL_law 278 = .ok (.aload_n 0, 1) := by decide +kernel
theorem dL_law_279 : decode cL_law 279 = .ok (.iload_n 3, 1) := by decide +kernel
theorem dL_law_280 : decode cL_law 280 = .ok (.iconst 2, 1) := by decide +kernel
theorem dL_law_281 : decode cL_law 281 = .ok (.iadd, 1) := by decide +kernel
theorem dL_law_282 : decode cL_law 282 = .ok (.iaload, 1) := by decide +kernel
theorem dL_law_283 : decode cL_law 283 = .ok (.invokevirtual 35, 3) := by decide +kernel
theorem dL_law_286 : decode cL_law 286 = .ok (.if_icmp .eq 387, 3) := by decide +kernel
theorem dL_law_289 : decode cL_law 289 = .ok (.iconst 0, 1) := by decide +kernel
theorem dL_law_290 : decode cL_law 290 = .ok (.ireturn, 1) := by decide +kernel
theorem dL_law_291 : decode cL_law 291 = .ok (.aload_n 1, 1) := by decide +kernel
theorem dL_law_292 : decode cL_law 292 = .ok (.invokevirtual 36, 3) := by decide +kernel
theorem dL_law_295 : decode cL_law 295 = .ok (.aload_n 2, 1) := by decide +kernel
theorem dL_law_296 : decode cL_law 296 = .ok (.invokevirtual 39, 3) := by decide +kernel
theorem dL_law_299 : decode cL_law 299 = .ok (.if_icmp .eq 374, 3) := by decide +kernel
theorem dL_law_302 : decode cL_law 302 = .ok (.iconst 0, 1) := by decide +kernel
theorem dL_law_303 : decode cL_law 303 = .ok (.ireturn, 1) := by decide +kernel
theorem dL_law_304 : decode cL_law 304 = .ok (.aload_n 1, 1) := by decide +kernel
theorem dL_law_305 : decode cL_law 305 = .ok (.aload_n 0, 1) := by decide +kernel
theorem dL_law_306 : decode cL_law 306 = .ok (.iload_n 3, 1) := by decide +kernel
theorem dL_law_307 : decode cL_law 307 = .ok (.iconst 1, 1) := by decide +kernel
theorem dL_law_308 : decode cL_law 308 = .ok (.iadd, 1) := by decide +kernel
theorem dL_law_309 : decode cL_law 309 = .ok (.iaload, 1) := by decide +kernel
theorem dL_law_310 : decode cL_law 310 = .ok (.aload_n 0, 1) := by decide +kernel
theorem dL_law_311 : decode cL_law 311 = .ok (.iload_n 3, 1) := by decide +kernel
theorem dL_law_312 : decode cL_law 312 = .ok (.iconst 2, 1) := by decide +kernel
theorem dL_law_313 : decode cL_law 313 = .ok (.iadd, 1) := by decide +kernel
theorem dL_law_314 : decode cL_law 314 = .ok (.iaload, 1) := by decide +kernel
theorem dL_law_315 : decode cL_law 315 = .ok (.invokevirtual 40, 3) := by decide +kernel
theorem dL_law_318 : decode cL_law 318 = .ok (.aload_n 2, 1) := by decide +kernel
theorem dL_law_319 : decode cL_law 319 = .ok (.aload_n 0, 1) := by decide +kernel
theorem dL_law_320 : decode cL_law 320 = .ok (.iload_n 3, 1) := by decide +kernel
theorem dL_law_321 : decode cL_law 321 = .ok (.iconst 1, 1) := by decide +kernel
theorem dL_law_322 : decode cL_law 322 = .ok (.iadd, 1) := by decide +kernel
theorem dL_law_323 : decode cL_law 323 = .ok (.iaload, 1) := by decide +kernel
theorem dL_law_324 : decode cL_law 324 = .ok (.aload_n 0, 1) := by decide +kernel
theorem dL_law_325 : decode cL_law 325 = .ok (.iload_n 3, 1) := by decide +kernel
theorem dL_law_326 : decode cL_law 326 = .ok (.iconst 2, 1) := by decide +kernel
theorem dL_law_327 : decode cL_law 327 = .ok (.iadd, 1) := by decide +kernel
theorem dL_law_328 : decode cL_law 328 = .ok (.iaload, 1) := by decide +kernel
theorem dL_law_329 : decode cL_law 329 = .ok (.invokevirtual 43, 3) := by decide +kernel
theorem dL_law_332 : decode cL_law 332 = .ok (.if_icmp .eq 341, 3) := by decide +kernel
theorem dL_law_335 : decode cL_law 335 = .ok (.iconst 0, 1) := by decide +kernel
theorem dL_law_336 : decode cL_law 336 = .ok (.ireturn, 1) := by decide +kernel
theorem dL_law_337 : decode cL_law 337 = .ok (.aload_n 1, 1) := by decide +kernel
theorem dL_law_338 : decode cL_law 338 = .ok (.aload_n 0, 1) := by decide +kernel
theorem dL_law_339 : decode cL_law 339 = .ok (.iload_n 3, 1) := by decide +kernel
theorem dL_law_340 : decode cL_law 340 = .ok (.iconst 1, 1) := by decide +kernel
theorem dL_law_341 : decode cL_law 341 = .ok (.iadd, 1) := by decide +kernel
theorem dL_law_342 : decode cL_law 342 = .ok (.iaload, 1) := by decide +kernel
theorem dL_law_343 : decode cL_law 343 = .ok (.aload_n 0, 1) := by decide +kernel
theorem dL_law_344 : decode cL_law 344 = .ok (.iload_n 3, 1) := by decide +kernel
theorem dL_law_345 : decode cL_law 345 = .ok (.iconst 2, 1) := by decide +kernel
theorem dL_law_346 : decode cL_law 346 = .ok (.iadd, 1) := by decide +kernel
theorem dL_law_347 : decode cL_law 347 = .ok (.iaload, 1) := by decide +kernel
theorem dL_law_348 : decode cL_law 348 = .ok (.invokevirtual 44, 3) := by decide +kernel
theorem dL_law_351 : decode cL_law 351 = .ok (.aload_n 2, 1) := by decide +kernel
theorem dL_law_352 : decode cL_law 352 = .ok (.aload_n 0, 1) := by decide +kernel
theorem dL_law_353 : decode cL_law 353 = .ok (.iload_n 3, 1) := by decide +kernel
theorem dL_law_354 : decode cL_law 354 = .ok (.iconst 1, 1) := by decide +kernel
theorem dL_law_355 : decode cL_law 355 = .ok (.iadd, 1) := by decide +kernel
theorem dL_law_356 : decode cL_law 356 = .ok (.iaload, 1) := by decide +kernel
theorem dL_law_357 : decode cL_law 357 = .ok (.aload_n 0, 1) := by decide +kernel
theorem dL_law_358 : decode cL_law 358 = .ok (.iload_n 3, 1) := by decide +kernel
theorem dL_law_359 : decode cL_law 359 = .ok (.iconst 2, 1) := by decide +kernel
theorem dL_law_360 : decode cL_law 360 = .ok (.iadd, 1) := by decide +kernel
theorem dL_law_361 : decode cL_law 361 = .ok (.iaload, 1) := by decide +kernel
theorem dL_law_362 : decode cL_law 362 = .ok (.invokevirtual 47, 3) := by decide +kernel
theorem dL_law_365 : decode cL_law 365 = .ok (.if_icmp .eq 308, 3) := by decide +kernel
theorem dL_law_368 : decode cL_law 368 = .ok (.iconst 0, 1) := by decide +kernel
theorem dL_law_369 : decode cL_law 369 = .ok (.ireturn, 1) := by decide +kernel
theorem dL_law_370 : decode cL_law 370 = .ok (.aload_n 1, 1) := by decide +kernel
theorem dL_law_371 : decode cL_law 371 = .ok (.aload_n 0, 1) := by decide +kernel
theorem dL_law_372 : decode cL_law 372 = .ok (.iload_n 3, 1) := by decide +kernel
theorem dL_law_373 : decode cL_law 373 = .ok (.iconst 1, 1) := by decide +kernel
theorem dL_law_374 : decode cL_law 374 = .ok (.iadd, 1) := by decide +kernel
theorem dL_law_375 : decode cL_law 375 = .ok (.iaload, 1) := by decide +kernel
theorem dL_law_376 : decode cL_law 376 = .ok (.aload_n 0, 1) := by decide +kernel
theorem dL_law_377 : decode cL_law 377 = .ok (.iload_n 3, 1) := by decide +kernel
theorem dL_law_378 : decode cL_law 378 = .ok (.iconst 2, 1) := by decide +kernel
theorem dL_law_379 : decode cL_law 379 = .ok (.iadd, 1) := by decide +kernel
theorem dL_law_380 : decode cL_law 380 = .ok (.iaload, 1) := by decide +kernel
theorem dL_law_381 : decode cL_law 381 = .ok (.aload_n 0, 1) := by decide +kernel
theorem dL_law_382 : decode cL_law 382 = .ok (.iload_n 3, 1) := by decide +kernel
theorem dL_law_383 : decode cL_law 383 = .ok (.iconst 3, 1) := by decide +kernel
theorem dL_law_384 : decode cL_law 384 = .ok (.iadd, 1) := by decide +kernel
theorem dL_law_385 : decode cL_law 385 = .ok (.iaload, 1) := by decide +kernel
theorem dL_law_386 : decode cL_law 386 = .ok (.invokevirtual 48, 3) := by decide +kernel
theorem dL_law_389 : decode cL_law 389 = .ok (.aload_n 2, 1) := by decide +kernel
theorem dL_law_390 : decode cL_law 390 = .ok (.aload_n 0, 1) := by decide +kernel
theorem dL_law_391 : decode cL_law 391 = .ok (.iload_n 3, 1) := by decide +kernel
theorem dL_law_392 : decode cL_law 392 = .ok (.iconst 1, 1) := by decide +kernel
theorem dL_law_393 : decode cL_law 393 = .ok (.iadd, 1) := by decide +kernel
theorem dL_law_394 : decode cL_law 394 = .ok (.iaload, 1) := by decide +kernel
theorem dL_law_395 : decode cL_law 395 = .ok (.aload_n 0, 1) := by decide +kernel
theorem dL_law_396 : decode cL_law 396 = .ok (.iload_n 3, 1) := by decide +kernel
theorem dL_law_397 : decode cL_law 397 = .ok (.iconst 2, 1) := by decide +kernel
theorem dL_law_398 : decode cL_law 398 = .ok (.iadd, 1) := by decide +kernel
theorem dL_law_399 : decode cL_law 399 = .ok (.iaload, 1) := by decide +kernel
theorem dL_law_400 : decode cL_law 400 = .ok (.aload_n 0, 1) := by decide +kernel
theorem dL_law_401 : decode cL_law 401 = .ok (.iload_n 3, 1) := by decide +kernel
theorem dL_law_402 : decode cL_law 402 = .ok (.iconst 3, 1) := by decide +kernel
theorem dL_law_403 : decode cL_law 403 = .ok (.iadd, 1) := by decide +kernel
theorem dL_law_404 : decode cL_law 404 = .ok (.iaload, 1) := by decide +kernel
theorem dL_law_405 : decode cL_law 405 = .ok (.invokevirtual 51, 3) := by decide +kernel
theorem dL_law_408 : decode cL_law 408 = .ok (.if_icmp .eq 265, 3) := by decide +kernel
theorem dL_law_411 : decode cL_law 411 = .ok (.iconst 0, 1) := by decide +kernel
theorem dL_law_412 : decode cL_law 412 = .ok (.ireturn, 1) := by decide +kernel
theorem dL_law_413 : decode cL_law 413 = .ok (.aload_n 1, 1) := by decide +kernel
theorem dL_law_414 : decode cL_law 414 = .ok (.aload_n 0, 1) := by decide +kernel
theorem dL_law_415 : decode cL_law 415 = .ok (.iload_n 3, 1) := by decide +kernel
theorem dL_law_416 : decode cL_law 416 = .ok (.iconst 1, 1) := by decide +kernel
theorem dL_law_417 : decode cL_law 417 = .ok (.iadd, 1) := by decide +kernel
theorem dL_law_418 : decode cL_law 418 = .ok (.iaload, 1) := by decide +kernel
theorem dL_law_419 : decode cL_law 419 = .ok (.invokevirtual 52, 3) := by decide +kernel
theorem dL_law_422 : decode cL_law 422 = .ok (.aload_n 2, 1) := by decide +kernel
theorem dL_law_423 : decode cL_law 423 = .ok (.aload_n 0, 1) := by decide +kernel
theorem dL_law_424 : decode cL_law 424 = .ok (.iload_n 3, 1) := by decide +kernel
theorem dL_law_425 : decode cL_law 425 = .ok (.iconst 1, 1) := by decide +kernel
theorem dL_law_426 : decode cL_law 426 = .ok (.iadd, 1) := by decide +kernel
theorem dL_law_427 : decode cL_law 427 = .ok (.iaload, 1) := by decide +kernel
theorem dL_law_428 : decode cL_law 428 = .ok (.invokevirtual 56, 3) := by decide +kernel
theorem dL_law_431 : decode cL_law 431 = .ok (.if_icmp .eq 242, 3) := by decide +kernel
theorem dL_law_434 : decode cL_law 434 = .ok (.iconst 0, 1) := by decide +kernel
theorem dL_law_435 : decode cL_law 435 = .ok (.ireturn, 1) := by decide +kernel
theorem dL_law_436 : decode cL_law 436 = .ok (.aload_n 1, 1) := by decide +kernel
theorem dL_law_437 : decode cL_law 437 = .ok (.aload_n 0, 1) := by decide +kernel
theorem dL_law_438 : decode cL_law 438 = .ok (.iload_n 3, 1) := by decide +kernel
theorem dL_law_439 : decode cL_law 439 = .ok (.iconst 1, 1) := by decide +kernel
theorem dL_law_440 : decode cL_law 440 = .ok (.iadd, 1) := by decide +kernel
theorem dL_law_441 : decode cL_law 441 = .ok (.iaload, 1) := by decide +kernel
theorem dL_law_442 : decode cL_law 442 = .ok (.aload_n 0, 1) := by decide +kernel
theorem dL_law_443 : decode cL_law 443 = .ok (.iload_n 3, 1) := by decide +kernel
theorem dL_law_444 : decode cL_law 444 = .ok (.iconst 2, 1) := by decide +kernel
theorem dL_law_445 : decode cL_law 445 = .ok (.iadd, 1) := by decide +kernel
theorem dL_law_446 : decode cL_law 446 = .ok (.iaload, 1) := by decide +kernel
theorem dL_law_447 : decode cL_law 447 = .ok (.invokevirtual 57, 3) := by decide +kernel
theorem dL_law_450 : decode cL_law 450 = .ok (.aload_n 2, 1) := by decide +kernel
theorem dL_law_451 : decode cL_law 451 = .ok (.aload_n 0, 1) := by decide +kernel
theorem dL_law_452 : decode cL_law 452 = .ok (.iload_n 3, 1) := by decide +kernel
theorem dL_law_453 : decode cL_law 453 = .ok (.iconst 1, 1) := by decide +kernel
theorem dL_law_454 : decode cL_law 454 = .ok (.iadd, 1) := by decide +kernel
theorem dL_law_455 : decode cL_law 455 = .ok (.iaload, 1) := by decide +kernel
theorem dL_law_456 : decode cL_law 456 = .ok (.aload_n 0, 1) := by decide +kernel
theorem dL_law_457 : decode cL_law 457 = .ok (.iload_n 3, 1) := by decide +kernel
theorem dL_law_458 : decode cL_law 458 = .ok (.iconst 2, 1) := by decide +kernel
theorem dL_law_459 : decode cL_law 459 = .ok (.iadd, 1) := by decide +kernel
theorem dL_law_460 : decode cL_law 460 = .ok (.iaload, 1) := by decide +kernel
theorem dL_law_461 : decode cL_law 461 = .ok (.invokevirtual 60, 3) := by decide +kernel
theorem dL_law_464 : decode cL_law 464 = .ok (.if_icmp .eq 209, 3) := by decide +kernel
theorem dL_law_467 : decode cL_law 467 = .ok (.iconst 0, 1) := by decide +kernel
theorem dL_law_468 : decode cL_law 468 = .ok (.ireturn, 1) := by decide +kernel
theorem dL_law_469 : decode cL_law 469 = .ok (.aload_n 1, 1) := by decide +kernel
theorem dL_law_470 : decode cL_law 470 = .ok (.invokevirtual 61, 3) := by decide +kernel
theorem dL_law_473 : decode cL_law 473 = .ok (.aload_n 2, 1) := by decide +kernel
theorem dL_law_474 : decode cL_law 474 = .ok (.invokevirtual 64, 3) := by decide +kernel
theorem dL_law_477 : decode cL_law 477 = .ok (.if_icmp .eq 196, 3) := by decide +kernel
theorem dL_law_480 : decode cL_law 480 = .ok (.iconst 0, 1) := by decide +kernel
theorem dL_law_481 : decode cL_law 481 = .ok (.ireturn, 1) := by decide +kernel
theorem dL_law_482 : decode cL_law 482 = .ok (.aload_n 1, 1) := by decide +kernel
theorem dL_law_483 : decode cL_law 483 = .ok (.aload_n 0, 1) := by decide +kernel
theorem dL_law_484 : decode cL_law 484 = .ok (.iload_n 3, 1) := by decide +kernel
theorem dL_law_485 : decode cL_law 485 = .ok (.iconst 1, 1) := by decide +kernel
theorem dL_law_486 : decode cL_law 486 = .ok (.iadd, 1) := by decide +kernel
theorem dL_law_487 : decode cL_law 487 = .ok (.iaload, 1) := by decide +kernel
theorem dL_law_488 : decode cL_law 488 = .ok (.invokevirtual 65, 3) := by decide +kernel
theorem dL_law_491 : decode cL_law 491 = .ok (.aload_n 2, 1) := by decide +kernel
theorem dL_law_492 : decode cL_law 492 = .ok (.aload_n 0, 1) := by decide +kernel
theorem dL_law_493 : decode cL_law 493 = .ok (.iload_n 3, 1) := by decide +kernel
theorem dL_law_494 : decode cL_law 494 = .ok (.iconst 1, 1) := by decide +kernel
theorem dL_law_495 : decode cL_law 495 = .ok (.iadd, 1) := by decide +kernel
theorem dL_law_496 : decode cL_law 496 = .ok (.iaload, 1) := by decide +kernel
theorem dL_law_497 : decode cL_law 497 = .ok (.invokevirtual 68, 3) := by decide +kernel
theorem dL_law_500 : decode cL_law 500 = .ok (.if_icmp .eq 173, 3) := by decide +kernel
theorem dL_law_503 : decode cL_law 503 = .ok (.iconst 0, 1) := by decide +kernel
theorem dL_law_504 : decode cL_law 504 = .ok (.ireturn, 1) := by decide +kernel
theorem dL_law_505 : decode cL_law 505 = .ok (.aload_n 1, 1) := by decide +kernel
theorem dL_law_506 : decode cL_law 506 = .ok (.aload_n 0, 1) := by decide +kernel
theorem dL_law_507 : decode cL_law 507 = .ok (.iload_n 3, 1) := by decide +kernel
theorem dL_law_508 : decode cL_law 508 = .ok (.iconst 1, 1) := by decide +kernel
theorem dL_law_509 : decode cL_law 509 = .ok (.iadd, 1) := by decide +kernel
theorem dL_law_510 : decode cL_law 510 = .ok (.iaload, 1) := by decide +kernel
theorem dL_law_511 : decode cL_law 511 = .ok (.invokevirtual 69, 3) := by decide +kernel
theorem dL_law_514 : decode cL_law 514 = .ok (.aload_n 2, 1) := by decide +kernel
theorem dL_law_515 : decode cL_law 515 = .ok (.aload_n 0, 1) := by decide +kernel
theorem dL_law_516 : decode cL_law 516 = .ok (.iload_n 3, 1) := by decide +kernel
theorem dL_law_517 : decode cL_law 517 = .ok (.iconst 1, 1) := by decide +kernel
theorem dL_law_518 : decode cL_law 518 = .ok (.iadd, 1) := by decide +kernel
theorem dL_law_519 : decode cL_law 519 = .ok (.iaload, 1) := by decide +kernel
theorem dL_law_520 : decode cL_law 520 = .ok (.invokevirtual 72, 3) := by decide +kernel
theorem dL_law_523 : decode cL_law 523 = .ok (.if_icmp .eq 150, 3) := by decide +kernel
theorem dL_law_526 : decode cL_law 526 = .ok (.iconst 0, 1) := by decide +kernel
theorem dL_law_527 : decode cL_law 527 = .ok (.ireturn, 1) := by decide +kernel
theorem dL_law_528 : decode cL_law 528 = .ok (.aload_n 1, 1) := by decide +kernel
theorem dL_law_529 : decode cL_law 529 = .ok (.invokevirtual 73, 3) := by decide +kernel
theorem dL_law_532 : decode cL_law 532 = .ok (.aload_n 2, 1) := by decide +kernel
theorem dL_law_533 : decode cL_law 533 = .ok (.invokevirtual 76, 3) := by decide +kernel
theorem dL_law_536 : decode cL_law 536 = .ok (.if_icmp .eq 137, 3) := by decide +kernel
theorem dL_law_539 : decode cL_law 539 = .ok (.iconst 0, 1) := by decide +kernel
theorem dL_law_540 : decode cL_law 540 = .ok (.ireturn, 1) := by decide +kernel
theorem dL_law_541 : decode cL_law 541 = .ok (.aload_n 1, 1) := by decide +kernel
theorem dL_law_542 : decode cL_law 542 = .ok (.aload_n 0, 1) := by decide +kernel
theorem dL_law_543 : decode cL_law 543 = .ok (.iload_n 3, 1) := by decide +kernel
theorem dL_law_544 : decode cL_law 544 = .ok (.iconst 1, 1) := by decide +kernel
theorem dL_law_545 : decode cL_law 545 = .ok (.iadd, 1) := by decide +kernel
theorem dL_law_546 : decode cL_law 546 = .ok (.iaload, 1) := by decide +kernel
theorem dL_law_547 : decode cL_law 547 = .ok (.invokevirtual 77, 3) := by decide +kernel
theorem dL_law_550 : decode cL_law 550 = .ok (.aload_n 2, 1) := by decide +kernel
theorem dL_law_551 : decode cL_law 551 = .ok (.aload_n 0, 1) := by decide +kernel
theorem dL_law_552 : decode cL_law 552 = .ok (.iload_n 3, 1) := by decide +kernel
theorem dL_law_553 : decode cL_law 553 = .ok (.iconst 1, 1) := by decide +kernel
theorem dL_law_554 : decode cL_law 554 = .ok (.iadd, 1) := by decide +kernel
theorem dL_law_555 : decode cL_law 555 = .ok (.iaload, 1) := by decide +kernel
theorem dL_law_556 : decode cL_law 556 = .ok (.invokevirtual 80, 3) := by decide +kernel
theorem dL_law_559 : decode cL_law 559 = .ok (.if_icmp .eq 114, 3) := by decide +kernel
theorem dL_law_562 : decode cL_law 562 = .ok (.iconst 0, 1) := by decide +kernel
theorem dL_law_563 : decode cL_law 563 = .ok (.ireturn, 1) := by decide +kernel
theorem dL_law_564 : decode cL_law 564 = .ok (.aload_n 1, 1) := by decide +kernel
theorem dL_law_565 : decode cL_law 565 = .ok (.invokevirtual 81, 3) := by decide +kernel
theorem dL_law_568 : decode cL_law 568 = .ok (.aload_n 2, 1) := by decide +kernel
theorem dL_law_569 : decode cL_law 569 = .ok (.invokevirtual 84, 3) := by decide +kernel
theorem dL_law_572 : decode cL_law 572 = .ok (.if_icmp .eq 101, 3) := by decide +kernel
theorem dL_law_575 : decode cL_law 575 = .ok (.iconst 0, 1) := by decide +kernel
theorem dL_law_576 : decode cL_law 576 = .ok (.ireturn, 1) := by decide +kernel
theorem dL_law_577 : decode cL_law 577 = .ok (.aload_n 1, 1) := by decide +kernel
theorem dL_law_578 : decode cL_law 578 = .ok (.invokevirtual 85, 3) := by decide +kernel
theorem dL_law_581 : decode cL_law 581 = .ok (.aload_n 2, 1) := by decide +kernel
theorem dL_law_582 : decode cL_law 582 = .ok (.invokevirtual 88, 3) := by decide +kernel
theorem dL_law_585 : decode cL_law 585 = .ok (.if_icmp .eq 88, 3) := by decide +kernel
theorem dL_law_588 : decode cL_law 588 = .ok (.iconst 0, 1) := by decide +kernel
theorem dL_law_589 : decode cL_law 589 = .ok (.ireturn, 1) := by decide +kernel
theorem dL_law_590 : decode cL_law 590 = .ok (.aload_n 1, 1) := by decide +kernel
theorem dL_law_591 : decode cL_law 591 = .ok (.aload_n 0, 1) := by decide +kernel
theorem dL_law_592 : decode cL_law 592 = .ok (.iload_n 3, 1) := by decide +kernel
theorem dL_law_593 : decode cL_law 593 = .ok (.iconst 1, 1) := by decide +kernel
theorem dL_law_594 : decode cL_law 594 = .ok (.iadd, 1) := by decide +kernel
theorem dL_law_595 : decode cL_law 595 = .ok (.iaload, 1) := by decide +kernel
theorem dL_law_596 : decode cL_law 596 = .ok (.aload_n 0, 1) := by decide +kernel
theorem dL_law_597 : decode cL_law 597 = .ok (.iload_n 3, 1) := by decide +kernel
theorem dL_law_598 : decode cL_law 598 = .ok (.iconst 2, 1) := by decide +kernel
theorem dL_law_599 : decode cL_law 599 = .ok (.iadd, 1) := by decide +kernel
theorem dL_law_600 : decode cL_law 600 = .ok (.iaload, 1) := by decide +kernel
theorem dL_law_601 : decode cL_law 601 = .ok (.invokevirtual 89, 3) := by decide +kernel
theorem dL_law_604 : decode cL_law 604 = .ok (.aload_n 2, 1) := by decide +kernel
theorem dL_law_605 : decode cL_law 605 = .ok (.aload_n 0, 1) := by decide +kernel
theorem dL_law_606 : decode cL_law 606 = .ok (.iload_n 3, 1) := by decide +kernel
theorem dL_law_607 : decode cL_law 607 = .ok (.iconst 1, 1) := by decide +kernel
theorem dL_law_608 : decode cL_law 608 = .ok (.iadd, 1) := by decide +kernel
theorem dL_law_609 : decode cL_law 609 = .ok (.iaload, 1) := by decide +kernel
theorem dL_law_610 : decode cL_law 610 = .ok (.aload_n 0, 1) := by decide +kernel
theorem dL_law_611 : decode cL_law 611 = .ok (.iload_n 3, 1) := by decide +kernel
theorem dL_law_612 : decode cL_law 612 = .ok (.iconst 2, 1) := by decide +kernel
theorem dL_law_613 : decode cL_law 613 = .ok (.iadd, 1) := by decide +kernel
theorem dL_law_614 : decode cL_law 614 = .ok (.iaload, 1) := by decide +kernel
theorem dL_law_615 : decode cL_law 615 = .ok (.invokevirtual 92, 3) := by decide +kernel
theorem dL_law_618 : decode cL_law 618 = .ok (.if_icmp .eq 55, 3) := by decide +kernel
theorem dL_law_621 : decode cL_law 621 = .ok (.iconst 0, 1) := by decide +kernel
theorem dL_law_622 : decode cL_law 622 = .ok (.ireturn, 1) := by decide +kernel
theorem dL_law_623 : decode cL_law 623 = .ok (.aload_n 1, 1) := by decide +kernel
theorem dL_law_624 : decode cL_law 624 = .ok (.invokevirtual 93, 3) := by decide +kernel
theorem dL_law_627 : decode cL_law 627 = .ok (.aload_n 2, 1) := by decide +kernel
theorem dL_law_628 : decode cL_law 628 = .ok (.invokevirtual 96, 3) := by decide +kernel
theorem dL_law_631 : decode cL_law 631 = .ok (.if_icmp .eq 42, 3) := by decide +kernel
theorem dL_law_634 : decode cL_law 634 = .ok (.iconst 0, 1) := by decide +kernel
theorem dL_law_635 : decode cL_law 635 = .ok (.ireturn, 1) := by decide +kernel
theorem dL_law_636 : decode cL_law 636 = .ok (.aload_n 1, 1) := by decide +kernel
theorem dL_law_637 : decode cL_law 637 = .ok (.aload_n 0, 1) := by decide +kernel
theorem dL_law_638 : decode cL_law 638 = .ok (.iload_n 3, 1) := by decide +kernel
theorem dL_law_639 : decode cL_law 639 = .ok (.iconst 1, 1) := by decide +kernel
theorem dL_law_640 : decode cL_law 640 = .ok (.iadd, 1) := by decide +kernel
theorem dL_law_641 : decode cL_law 641 = .ok (.iaload, 1) := by decide +kernel
theorem dL_law_642 : decode cL_law 642 = .ok (.invokevirtual 97, 3) := by decide +kernel
theorem dL_law_645 : decode cL_law 645 = .ok (.aload_n 2, 1) := by decide +kernel
theorem dL_law_646 : decode cL_law 646 = .ok (.aload_n 0, 1) := by decide +kernel
theorem dL_law_647 : decode cL_law 647 = .ok (.iload_n 3, 1) := by decide +kernel
theorem dL_law_648 : decode cL_law 648 = .ok (.iconst 1, 1) := by decide +kernel
theorem dL_law_649 : decode cL_law 649 = .ok (.iadd, 1) := by decide +kernel
theorem dL_law_650 : decode cL_law 650 = .ok (.iaload, 1) := by decide +kernel
theorem dL_law_651 : decode cL_law 651 = .ok (.invokevirtual 100, 3) := by decide +kernel
theorem dL_law_654 : decode cL_law 654 = .ok (.if_icmp .eq 19, 3) := by decide +kernel
theorem dL_law_657 : decode cL_law 657 = .ok (.iconst 0, 1) := by decide +kernel
theorem dL_law_658 : decode cL_law 658 = .ok (.ireturn, 1) := by decide +kernel
theorem dL_law_659 : decode cL_law 659 = .ok (.aload_n 1, 1) := by decide +kernel
theorem dL_law_660 : decode cL_law 660 = .ok (.invokevirtual 101, 3) := by decide +kernel
theorem dL_law_663 : decode cL_law 663 = .ok (.aload_n 2, 1) := by decide +kernel
theorem dL_law_664 : decode cL_law 664 = .ok (.invokevirtual 105, 3) := by decide +kernel
theorem dL_law_667 : decode cL_law 667 = .ok (.lcmp, 1) := by decide +kernel
theorem dL_law_668 : decode cL_law 668 = .ok (.ifCond .eq 5, 3) := by decide +kernel
theorem dL_law_671 : decode cL_law 671 = .ok (.iconst 0, 1) := by decide +kernel
theorem dL_law_672 : decode cL_law 672 = .ok (.ireturn, 1) := by decide +kernel
theorem dL_law_673 : decode cL_law 673 = .ok (.iinc 3 4, 3) := by decide +kernel
theorem dL_law_676 : decode cL_law 676 = .ok (.goto (-658), 3) := by decide +kernel
theorem dL_law_679 : decode cL_law 679 = .ok (.iconst 1, 1) := by decide +kernel
theorem dL_law_680 : decode cL_law 680 = .ok (.ireturn, 1) := by decide +kernel
