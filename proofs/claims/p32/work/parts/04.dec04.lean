theorem dL_places_41 : decode cL_places 41 = .ok (.aload_n 0, 1) := by decide +kernel
theorem dL_places_42 : decode cL_places 42 = .ok (.iload 7, 2) := by decide +kernel
theorem dL_places_44 : decode cL_places 44 = .ok (.iconst 0, 1) := by decide +kernel
theorem dL_places_45 : decode cL_places 45 = .ok (.invokestatic 119, 3) := by decide +kernel
theorem dL_places_48 : decode cL_places 48 = .ok (.ifCond .ge 7, 3) := by decide +kernel
theorem dL_places_51 : decode cL_places 51 = .ok (.iconst 1, 1) := by decide +kernel
theorem dL_places_52 : decode cL_places 52 = .ok (.goto 4, 3) := by decide +kernel
theorem dL_places_55 : decode cL_places 55 = .ok (.iconst 0, 1) := by decide +kernel
theorem dL_places_56 : decode cL_places 56 = .ok (.iadd, 1) := by decide +kernel
theorem dL_places_57 : decode cL_places 57 = .ok (.istore 6, 2) := by decide +kernel
theorem dL_places_59 : decode cL_places 59 = .ok (.iinc 7 1, 3) := by decide +kernel
theorem dL_places_62 : decode cL_places 62 = .ok (.goto (-40), 3) := by decide +kernel
theorem dL_places_65 : decode cL_places 65 = .ok (.aload_n 0, 1) := by decide +kernel
theorem dL_places_66 : decode cL_places 66 = .ok (.iload 5, 2) := by decide +kernel
theorem dL_places_68 : decode cL_places 68 = .ok (.invokestatic 163, 3) := by decide +kernel
theorem dL_places_71 : decode cL_places 71 = .ok (.istore 7, 2) := by decide +kernel
theorem dL_places_73 : decode cL_places 73 = .ok (.aload_n 1, 1) := by decide +kernel
theorem dL_places_74 : decode cL_places 74 = .ok (.iconst 3, 1) := by decide +kernel
theorem dL_places_75 : decode cL_places 75 = .ok (.dup2, 1) := by decide +kernel
theorem dL_places_76 : decode cL_places 76 = .ok (.iaload, 1) := by decide +kernel
theorem dL_places_77 : decode cL_places 77 = .ok (.iload 7, 2) := by decide +kernel
theorem dL_places_79 : decode cL_places 79 = .ok (.ifCond .ge 7, 3) := by decide +kernel
theorem dL_places_82 : decode cL_places 82 = .ok (.iconst 0, 1) := by decide +kernel
theorem dL_places_83 : decode cL_places 83 = .ok (.goto 5, 3) := by decide +kernel
theorem dL_places_86 : decode cL_places 86 = .ok (.iload 7, 2) := by decide +kernel
theorem dL_places_88 : decode cL_places 88 = .ok (.iadd, 1) := by decide +kernel
theorem dL_places_89 : decode cL_places 89 = .ok (.iastore, 1) := by decide +kernel
theorem dL_places_90 : decode cL_places 90 = .ok (.iload 7, 2) := by decide +kernel
theorem dL_places_92 : decode cL_places 92 = .ok (.ldc 21, 2) := by decide +kernel
theorem dL_places_94 : decode cL_places 94 = .ok (.if_icmp .ne 25, 3) := by decide +kernel
theorem dL_places_97 : decode cL_places 97 = .ok (.iload 6, 2) := by decide +kernel
theorem dL_places_99 : decode cL_places 99 = .ok (.iconst 5, 1) := by decide +kernel
theorem dL_places_100 : decode cL_places 100 = .ok (.if_icmp .gt 11, 3) := by decide +kernel
theorem dL_places_103 : decode cL_places 103 = .ok (.aload_n 1, 1) := by decide +kernel
theorem dL_places_104 : decode cL_places 104 = .ok (.iconst 3, 1) := by decide +kernel
theorem dL_places_105 : decode cL_places 105 = .ok (.iaload, 1) := by decide +kernel
theorem dL_places_106 : decode cL_places 106 = .ok (.bipush 95, 2) := by decide +kernel
theorem dL_places_108 : decode cL_places 108 = .ok (.if_icmp .le 7, 3) := by decide +kernel
theorem dL_places_111 : decode cL_places 111 = .ok (.iconst 1, 1) := by decide +kernel
theorem dL_places_112 : decode cL_places 112 = .ok (.goto 30, 3) := by decide +kernel
theorem dL_places_115 : decode cL_places 115 = .ok (.iconst 0, 1) := by decide +kernel
theorem dL_places_116 : decode cL_places 116 = .ok (.goto 26, 3) := by decide +kernel
theorem dL_places_119 : decode cL_places 119 = .ok (.iload 7, 2) := by decide +kernel
theorem dL_places_121 : decode cL_places 121 = .ok (.ifCond .lt 20, 3) := by decide +kernel
theorem dL_places_124 : decode cL_places 124 = .ok (.iload 7, 2) := by decide +kernel
theorem dL_places_126 : decode cL_places 126 = .ok (.iload 6, 2) := by decide +kernel
theorem dL_places_128 : decode cL_places 128 = .ok (.if_icmp .gt 13, 3) := by decide +kernel
theorem dL_places_131 : decode cL_places 131 = .ok (.iload 7, 2) := by decide +kernel
theorem dL_places_133 : decode cL_places 133 = .ok (.iconst 5, 1) := by decide +kernel
theorem dL_places_134 : decode cL_places 134 = .ok (.if_icmp .gt 7, 3) := by decide +kernel
theorem dL_places_137 : decode cL_places 137 = .ok (.iconst 1, 1) := by decide +kernel
theorem dL_places_138 : decode cL_places 138 = .ok (.goto 4, 3) := by decide +kernel
theorem dL_places_141 : decode cL_places 141 = .ok (.iconst 0, 1) := by decide +kernel
theorem dL_places_142 : decode cL_places 142 = .ok (.ireturn, 1) := by decide +kernel
theorem dL_places_143 : decode cL_places 143 = .ok (.iload 4, 2) := by decide +kernel
theorem dL_places_145 : decode cL_places 145 = .ok (.aload_n 1, 1) := by decide +kernel
theorem dL_places_146 : decode cL_places 146 = .ok (.iconst 0, 1) := by decide +kernel
theorem dL_places_147 : decode cL_places 147 = .ok (.iaload, 1) := by decide +kernel
theorem dL_places_148 : decode cL_places 148 = .ok (.invokestatic 145, 3) := by decide +kernel
theorem dL_places_151 : decode cL_places 151 = .ok (.istore 5, 2) := by decide +kernel
theorem dL_places_153 : decode cL_places 153 = .ok (.iload 4, 2) := by decide +kernel
theorem dL_places_155 : decode cL_places 155 = .ok (.iconst 5, 1) := by decide +kernel
theorem dL_places_156 : decode cL_places 156 = .ok (.ishr, 1) := by decide +kernel
theorem dL_places_157 : decode cL_places 157 = .ok (.aload_n 1, 1) := by decide +kernel
theorem dL_places_158 : decode cL_places 158 = .ok (.iconst 1, 1) := by decide +kernel
theorem dL_places_159 : decode cL_places 159 = .ok (.iaload, 1) := by decide +kernel
theorem dL_places_160 : decode cL_places 160 = .ok (.invokestatic 145, 3) := by decide +kernel
theorem dL_places_163 : decode cL_places 163 = .ok (.istore 6, 2) := by decide +kernel
theorem dL_places_165 : decode cL_places 165 = .ok (.aload_n 0, 1) := by decide +kernel
theorem dL_places_166 : decode cL_places 166 = .ok (.iload 5, 2) := by decide +kernel
theorem dL_places_168 : decode cL_places 168 = .ok (.iload 6, 2) := by decide +kernel
theorem dL_places_170 : decode cL_places 170 = .ok (.invokestatic 131, 3) := by decide +kernel
theorem dL_places_173 : decode cL_places 173 = .ok (.istore 7, 2) := by decide +kernel
theorem dL_places_175 : decode cL_places 175 = .ok (.aload_n 0, 1) := by decide +kernel
theorem dL_places_176 : decode cL_places 176 = .ok (.iload 5, 2) := by decide +kernel
theorem dL_places_178 : decode cL_places 178 = .ok (.iconst 0, 1) := by decide +kernel
theorem dL_places_179 : decode cL_places 179 = .ok (.invokestatic 119, 3) := by decide +kernel
theorem dL_places_182 : decode cL_places 182 = .ok (.istore 8, 2) := by decide +kernel
theorem dL_places_184 : decode cL_places 184 = .ok (.aload_n 0, 1) := by decide +kernel
theorem dL_places_185 : decode cL_places 185 = .ok (.iload 5, 2) := by decide +kernel
theorem dL_places_187 : decode cL_places 187 = .ok (.iload 6, 2) := by decide +kernel
theorem dL_places_189 : decode cL_places 189 = .ok (.invokestatic 165, 3) := by decide +kernel
theorem dL_places_192 : decode cL_places 192 = .ok (.istore 9, 2) := by decide +kernel
theorem dL_places_194 : decode cL_places 194 = .ok (.iload 7, 2) := by decide +kernel
theorem dL_places_196 : decode cL_places 196 = .ok (.ifCond .gt 18, 3) := by decide +kernel
theorem dL_places_199 : decode cL_places 199 = .ok (.iload 8, 2) := by decide +kernel
theorem dL_places_201 : decode cL_places 201 = .ok (.iload 6, 2) := by decide +kernel
theorem dL_places_203 : decode cL_places 203 = .ok (.if_icmp .eq 11, 3) := by decide +kernel
theorem dL_places_206 : decode cL_places 206 = .ok (.aload_n 1, 1) := by decide +kernel
theorem dL_places_207 : decode cL_places 207 = .ok (.iconst 3, 1) := by decide +kernel
theorem dL_places_208 : decode cL_places 208 = .ok (.iaload, 1) := by decide +kernel
theorem dL_places_209 : decode cL_places 209 = .ok (.bipush 100, 2) := by decide +kernel
theorem dL_places_211 : decode cL_places 211 = .ok (.if_icmp .ne 16, 3) := by decide +kernel
theorem dL_places_214 : decode cL_places 214 = .ok (.iload 9, 2) := by decide +kernel
theorem dL_places_216 : decode cL_places 216 = .ok (.ldc 21, 2) := by decide +kernel
theorem dL_places_218 : decode cL_places 218 = .ok (.if_icmp .ne 7, 3) := by decide +kernel
theorem dL_places_221 : decode cL_places 221 = .ok (.iconst 1, 1) := by decide +kernel
theorem dL_places_222 : decode cL_places 222 = .ok (.goto 4, 3) := by decide +kernel
theorem dL_places_225 : decode cL_places 225 = .ok (.iconst 0, 1) := by decide +kernel
theorem dL_places_226 : decode cL_places 226 = .ok (.ireturn, 1) := by decide +kernel
theorem dL_places_227 : decode cL_places 227 = .ok (.aload_n 1, 1) := by decide +kernel
theorem dL_places_228 : decode cL_places 228 = .ok (.iconst 3, 1) := by decide +kernel
theorem dL_places_229 : decode cL_places 229 = .ok (.dup2, 1) := by decide +kernel
theorem dL_places_230 : decode cL_places 230 = .ok (.iaload, 1) := by decide +kernel
theorem dL_places_231 : decode cL_places 231 = .ok (.iconst 1, 1) := by decide +kernel
theorem dL_places_232 : decode cL_places 232 = .ok (.iadd, 1) := by decide +kernel
theorem dL_places_233 : decode cL_places 233 = .ok (.iastore, 1) := by decide +kernel
theorem dL_places_234 : decode cL_places 234 = .ok (.iload 9, 2) := by decide +kernel
theorem dL_places_236 : decode cL_places 236 = .ok (.aload_n 1, 1) := by decide +kernel
theorem dL_places_237 : decode cL_places 237 = .ok (.iconst 3, 1) := by decide +kernel
theorem dL_places_238 : decode cL_places 238 = .ok (.iaload, 1) := by decide +kernel
theorem dL_places_239 : decode cL_places 239 = .ok (.iconst 1, 1) := by decide +kernel
theorem dL_places_240 : decode cL_places 240 = .ok (.isub, 1) := by decide +kernel
theorem dL_places_241 : decode cL_places 241 = .ok (.if_icmp .ne 59, 3) := by decide +kernel
theorem dL_places_244 : decode cL_places 244 = .ok (.aload_n 0, 1) := by decide +kernel
theorem dL_places_245 : decode cL_places 245 = .ok (.iload 5, 2) := by decide +kernel
theorem dL_places_247 : decode cL_places 247 = .ok (.iconst 0, 1) := by decide +kernel
theorem dL_places_248 : decode cL_places 248 = .ok (.invokestatic 119, 3) := by decide +kernel
theorem dL_places_251 : decode cL_places 251 = .ok (.iload 6, 2) := by decide +kernel
theorem dL_places_253 : decode cL_places 253 = .ok (.if_icmp .ne 47, 3) := by decide +kernel
theorem dL_places_256 : decode cL_places 256 = .ok (.aload_n 0, 1) := by decide +kernel
theorem dL_places_257 : decode cL_places 257 = .ok (.iload 9, 2) := by decide +kernel
theorem dL_places_259 : decode cL_places 259 = .ok (.invokestatic 139, 3) := by decide +kernel
theorem dL_places_262 : decode cL_places 262 = .ok (.iconst 1, 1) := by decide +kernel
theorem dL_places_263 : decode cL_places 263 = .ok (.if_icmp .ne 37, 3) := by decide +kernel
theorem dL_places_266 : decode cL_places 266 = .ok (.aload_n 0, 1) := by decide +kernel
theorem dL_places_267 : decode cL_places 267 = .ok (.iload 5, 2) := by decide +kernel
theorem dL_places_269 : decode cL_places 269 = .ok (.iload 6, 2) := by decide +kernel
theorem dL_places_271 : decode cL_places 271 = .ok (.invokestatic 131, 3) := by decide +kernel
theorem dL_places_274 : decode cL_places 274 = .ok (.ifCond .ne 26, 3) := by decide +kernel
theorem dL_places_277 : decode cL_places 277 = .ok (.aload_n 0, 1) := by decide +kernel
theorem dL_places_278 : decode cL_places 278 = .ok (.iload 9, 2) := by decide +kernel
theorem dL_places_280 : decode cL_places 280 = .ok (.iconst 4, 1) := by decide +kernel
theorem dL_places_281 : decode cL_places 281 = .ok (.invokestatic 137, 3) := by decide +kernel
theorem dL_places_284 : decode cL_places 284 = .ok (.aload_n 0, 1) := by decide +kernel
theorem dL_places_285 : decode cL_places 285 = .ok (.iload 5, 2) := by decide +kernel
theorem dL_places_287 : decode cL_places 287 = .ok (.aload_n 1, 1) := by decide +kernel
theorem dL_places_288 : decode cL_places 288 = .ok (.iconst 4, 1) := by decide +kernel
theorem dL_places_289 : decode cL_places 289 = .ok (.iaload, 1) := by decide +kernel
theorem dL_places_290 : decode cL_places 290 = .ok (.invokestatic 161, 3) := by decide +kernel
theorem dL_places_293 : decode cL_places 293 = .ok (.if_icmp .ne 7, 3) := by decide +kernel
theorem dL_places_296 : decode cL_places 296 = .ok (.iconst 1, 1) := by decide +kernel
theorem dL_places_297 : decode cL_places 297 = .ok (.goto 4, 3) := by decide +kernel
theorem dL_places_300 : decode cL_places 300 = .ok (.iconst 0, 1) := by decide +kernel
theorem dL_places_301 : decode cL_places 301 = .ok (.ireturn, 1) := by decide +kernel
theorem dL_others_0 : decode cL_others 0 = .ok (.iload 4, 2) := by decide +kernel
theorem dL_others_2 : decode cL_others 2 = .ok (.aload_n 1, 1) := by decide +kernel
theorem dL_others_3 : decode cL_others 3 = .ok (.iconst 0, 1) := by decide +kernel
theorem dL_others_4 : decode cL_others 4 = .ok (.iaload, 1) := by decide +kernel
theorem dL_others_5 : decode cL_others 5 = .ok (.invokestatic 145, 3) := by decide +kernel
theorem dL_others_8 : decode cL_others 8 = .ok (.istore 5, 2) := by decide +kernel
theorem dL_others_10 : decode cL_others 10 = .ok (.iload 4, 2) := by decide +kernel
theorem dL_others_12 : decode cL_others 12 = .ok (.iconst 5, 1) := by decide +kernel
theorem dL_others_13 : decode cL_others 13 = .ok (.ishr, 1) := by decide +kernel
theorem dL_others_14 : decode cL_others 14 = .ok (.aload_n 1, 1) := by decide +kernel
theorem dL_others_15 : decode cL_others 15 = .ok (.iconst 1, 1) := by decide +kernel
theorem dL_others_16 : decode cL_others 16 = .ok (.iaload, 1) := by decide +kernel
theorem dL_others_17 : decode cL_others 17 = .ok (.invokestatic 145, 3) := by decide +kernel
theorem dL_others_20 : decode cL_others 20 = .ok (.istore 6, 2) := by decide +kernel
theorem dL_others_22 : decode cL_others 22 = .ok (.iload_n 3, 1) := by decide +kernel
theorem dL_others_23 : decode cL_others 23 = .ok (.bipush 7, 2) := by decide +kernel
theorem dL_others_25 : decode cL_others 25 = .ok (.invokestatic 145, 3) := by decide +kernel
theorem dL_others_28 : decode cL_others 28 = .ok (.istore 7, 2) := by decide +kernel
theorem dL_others_30 : decode cL_others 30 = .ok (.iload 7, 2) := by decide +kernel
theorem dL_others_32 : decode cL_others 32 = .ok (.ifCond .ne 84, 3) := by decide +kernel
theorem dL_others_35 : decode cL_others 35 = .ok (.aload_n 0, 1) := by decide +kernel
theorem dL_others_36 : decode cL_others 36 = .ok (.iload 5, 2) := by decide +kernel
theorem dL_others_38 : decode cL_others 38 = .ok (.invokestatic 127, 3) := by decide +kernel
theorem dL_others_41 : decode cL_others 41 = .ok (.istore 8, 2) := by decide +kernel
theorem dL_others_43 : decode cL_others 43 = .ok (.aload_n 0, 1) := by decide +kernel
theorem dL_others_44 : decode cL_others 44 = .ok (.iload 5, 2) := by decide +kernel
theorem dL_others_46 : decode cL_others 46 = .ok (.iload_n 3, 1) := by decide +kernel
theorem dL_others_47 : decode cL_others 47 = .ok (.iconst 3, 1) := by decide +kernel
theorem dL_others_48 : decode cL_others 48 = .ok (.ishr, 1) := by decide +kernel
theorem dL_others_49 : decode cL_others 49 = .ok (.bipush 10, 2) := by decide +kernel
theorem dL_others_51 : decode cL_others 51 = .ok (.invokestatic 145, 3) := by decide +kernel
theorem dL_others_54 : decode cL_others 54 = .ok (.iconst 1, 1) := by decide +kernel
theorem dL_others_55 : decode cL_others 55 = .ok (.iload_n 3, 1) := by decide +kernel
theorem dL_others_56 : decode cL_others 56 = .ok (.bipush 7, 2) := by decide +kernel
theorem dL_others_58 : decode cL_others 58 = .ok (.ishr, 1) := by decide +kernel
theorem dL_others_59 : decode cL_others 59 = .ok (.bipush 9, 2) := by decide +kernel
theorem dL_others_61 : decode cL_others 61 = .ok (.invokestatic 145, 3) := by decide +kernel
theorem dL_others_64 : decode cL_others 64 = .ok (.iadd, 1) := by decide +kernel
theorem dL_others_65 : decode cL_others 65 = .ok (.invokestatic 167, 3) := by decide +kernel
theorem dL_others_68 : decode cL_others 68 = .ok (.istore 9, 2) := by decide +kernel
theorem dL_others_70 : decode cL_others 70 = .ok (.iload 9, 2) := by decide +kernel
theorem dL_others_72 : decode cL_others 72 = .ok (.ldc 21, 2) := by decide +kernel
theorem dL_others_74 : decode cL_others 74 = .ok (.if_icmp .eq 36, 3) := by decide +kernel
theorem dL_others_77 : decode cL_others 77 = .ok (.iload 9, 2) := by decide +kernel
theorem dL_others_79 : decode cL_others 79 = .ok (.iload 8, 2) := by decide +kernel
theorem dL_others_81 : decode cL_others 81 = .ok (.if_icmp .lt 33, 3) := by decide +kernel
theorem dL_others_84 : decode cL_others 84 = .ok (.iload 9, 2) := by decide +kernel
theorem dL_others_86 : decode cL_others 86 = .ok (.iload 8, 2) := by decide +kernel
theorem dL_others_88 : decode cL_others 88 = .ok (.bipush 9, 2) := by decide +kernel
theorem dL_others_90 : decode cL_others 90 = .ok (.iadd, 1) := by decide +kernel
theorem dL_others_91 : decode cL_others 91 = .ok (.if_icmp .gt 23, 3) := by decide +kernel
theorem dL_others_94 : decode cL_others 94 = .ok (.aload_n 0, 1) := by decide +kernel
theorem dL_others_95 : decode cL_others 95 = .ok (.iload 5, 2) := by decide +kernel
theorem dL_others_97 : decode cL_others 97 = .ok (.invokestatic 127, 3) := by decide +kernel
theorem dL_others_100 : decode cL_others 100 = .ok (.iload 9, 2) := by decide +kernel
theorem dL_others_102 : decode cL_others 102 = .ok (.if_icmp .ne 12, 3) := by decide +kernel
theorem dL_others_105 : decode cL_others 105 = .ok (.iload 9, 2) := by decide +kernel
theorem dL_others_107 : decode cL_others 107 = .ok (.ifCond .le 7, 3) := by decide +kernel
theorem dL_others_110 : decode cL_others 110 = .ok (.iconst 1, 1) := by decide +kernel
theorem dL_others_111 : decode cL_others 111 = .ok (.goto 4, 3) := by decide +kernel
theorem dL_others_114 : decode cL_others 114 = .ok (.iconst 0, 1) := by decide +kernel
theorem dL_others_115 : decode cL_others 115 = .ok (.ireturn, 1) := by decide +kernel
theorem dL_others_116 : decode cL_others 116 = .ok (.iload 7, 2) := by decide +kernel
theorem dL_others_118 : decode cL_others 118 = .ok (.iconst 1, 1) := by decide +kernel
theorem dL_others_119 : decode cL_others 119 = .ok (.if_icmp .ne 63, 3) := by decide +kernel
theorem dL_others_122 : decode cL_others 122 = .ok (.aload_n 0, 1) := by decide +kernel
theorem dL_others_123 : decode cL_others 123 = .ok (.iload 5, 2) := by decide +kernel
theorem dL_others_125 : decode cL_others 125 = .ok (.invokestatic 129, 3) := by decide +kernel
theorem dL_others_128 : decode cL_others 128 = .ok (.istore 8, 2) := by decide +kernel
theorem dL_others_130 : decode cL_others 130 = .ok (.aload_n 0, 1) := by decide +kernel
theorem dL_others_131 : decode cL_others 131 = .ok (.iload 5, 2) := by decide +kernel
theorem dL_others_133 : decode cL_others 133 = .ok (.invokestatic 169, 3) := by decide +kernel
theorem dL_others_136 : decode cL_others 136 = .ok (.iload 8, 2) := by decide +kernel
theorem dL_others_138 : decode cL_others 138 = .ok (.ifCond .lt 15, 3) := by decide +kernel
theorem dL_others_141 : decode cL_others 141 = .ok (.aload_n 1, 1) := by decide +kernel
theorem dL_others_142 : decode cL_others 142 = .ok (.iconst 4, 1) := by decide +kernel
theorem dL_others_143 : decode cL_others 143 = .ok (.iaload, 1) := by decide +kernel
theorem dL_others_144 : decode cL_others 144 = .ok (.iload 8, 2) := by decide +kernel
theorem dL_others_146 : decode cL_others 146 = .ok (.if_icmp .le 7, 3) := by decide +kernel
theorem dL_others_149 : decode cL_others 149 = .ok (.iconst 1, 1) := by decide +kernel
theorem dL_others_150 : decode cL_others 150 = .ok (.goto 4, 3) := by decide +kernel
theorem dL_others_153 : decode cL_others 153 = .ok (.iconst 0, 1) := by decide +kernel
theorem dL_others_154 : decode cL_others 154 = .ok (.if_icmp .ne 26, 3) := by decide +kernel
theorem dL_others_157 : decode cL_others 157 = .ok (.aload_n 0, 1) := by decide +kernel
theorem dL_others_158 : decode cL_others 158 = .ok (.iload 5, 2) := by decide +kernel
theorem dL_others_160 : decode cL_others 160 = .ok (.invokestatic 129, 3) := by decide +kernel
theorem dL_others_163 : decode cL_others 163 = .ok (.iconst (-1), 1) := by decide +kernel
theorem dL_others_164 : decode cL_others 164 = .ok (.if_icmp .ne 16, 3) := by decide +kernel
theorem dL_others_167 : decode cL_others 167 = .ok (.aload_n 0, 1) := by decide +kernel
theorem dL_others_168 : decode cL_others 168 = .ok (.iload 5, 2) := by decide +kernel
theorem dL_others_170 : decode cL_others 170 = .ok (.invokestatic 169, 3) := by decide +kernel
theorem dL_others_173 : decode cL_others 173 = .ok (.ifCond .ne 7, 3) := by decide +kernel
theorem dL_others_176 : decode cL_others 176 = .ok (.iconst 1, 1) := by decide +kernel
theorem dL_others_177 : decode cL_others 177 = .ok (.goto 4, 3) := by decide +kernel
theorem dL_others_180 : decode cL_others 180 = .ok (.iconst 0, 1) := by decide +kernel
theorem dL_others_181 : decode cL_others 181 = .ok (.ireturn, 1) := by decide +kernel
theorem dL_others_182 : decode cL_others 182 = .ok (.iload 7, 2) := by decide +kernel
theorem dL_others_184 : decode cL_others 184 = .ok (.iconst 2, 1) := by decide +kernel
theorem dL_others_185 : decode cL_others 185 = .ok (.if_icmp .ne 172, 3) := by decide +kernel
theorem dL_others_188 : decode cL_others 188 = .ok (.iload_n 3, 1) := by decide +kernel
theorem dL_others_189 : decode cL_others 189 = .ok (.iconst 3, 1) := by decide +kernel
theorem dL_others_190 : decode cL_others 190 = .ok (.ishr, 1) := by decide +kernel
theorem dL_others_191 : decode cL_others 191 = .ok (.iconst 2, 1) := by decide +kernel
theorem dL_others_192 : decode cL_others 192 = .ok (.invokestatic 145, 3) := by decide +kernel
theorem dL_others_195 : decode cL_others 195 = .ok (.ifCond .ne 7, 3) := by decide +kernel
theorem dL_others_198 : decode cL_others 198 = .ok (.iconst 1, 1) := by decide +kernel
theorem dL_others_199 : decode cL_others 199 = .ok (.goto 4, 3) := by decide +kernel
theorem dL_others_202 : decode cL_others 202 = .ok (.iconst 0, 1) := by decide +kernel
theorem dL_others_203 : decode cL_others 203 = .ok (.istore 8, 2) := by decide +kernel
theorem dL_others_205 : decode cL_others 205 = .ok (.aload_n 0, 1) := by decide +kernel
theorem dL_others_206 : decode cL_others 206 = .ok (.iload 5, 2) := by decide +kernel
theorem dL_others_208 : decode cL_others 208 = .ok (.iload 6, 2) := by decide +kernel
theorem dL_others_210 : decode cL_others 210 = .ok (.invokestatic 133, 3) := by decide +kernel
theorem dL_others_213 : decode cL_others 213 = .ok (.istore 9, 2) := by decide +kernel
theorem dL_others_215 : decode cL_others 215 = .ok (.aload_n 0, 1) := by decide +kernel
theorem dL_others_216 : decode cL_others 216 = .ok (.iload 5, 2) := by decide +kernel
theorem dL_others_218 : decode cL_others 218 = .ok (.iload 6, 2) := by decide +kernel
theorem dL_others_220 : decode cL_others 220 = .ok (.iload 8, 2) := by decide +kernel
theorem dL_others_222 : decode cL_others 222 = .ok (.invokestatic 171, 3) := by decide +kernel
theorem dL_others_225 : decode cL_others 225 = .ok (.ifCond .ne 7, 3) := by decide +kernel
theorem dL_others_228 : decode cL_others 228 = .ok (.iconst 1, 1) := by decide +kernel
theorem dL_others_229 : decode cL_others 229 = .ok (.goto 4, 3) := by decide +kernel
theorem dL_others_232 : decode cL_others 232 = .ok (.iconst 0, 1) := by decide +kernel
theorem dL_others_233 : decode cL_others 233 = .ok (.istore 10, 2) := by decide +kernel
theorem dL_others_235 : decode cL_others 235 = .ok (.aload_n 0, 1) := by decide +kernel
theorem dL_others_236 : decode cL_others 236 = .ok (.iload 5, 2) := by decide +kernel
theorem dL_others_238 : decode cL_others 238 = .ok (.iload 6, 2) := by decide +kernel
theorem dL_others_240 : decode cL_others 240 = .ok (.invokestatic 133, 3) := by decide +kernel
theorem dL_others_243 : decode cL_others 243 = .ok (.iload 9, 2) := by decide +kernel
theorem dL_others_245 : decode cL_others 245 = .ok (.isub, 1) := by decide +kernel
theorem dL_others_246 : decode cL_others 246 = .ok (.istore 11, 2) := by decide +kernel
theorem dL_others_248 : decode cL_others 248 = .ok (.iload 10, 2) := by decide +kernel
theorem dL_others_250 : decode cL_others 250 = .ok (.ifCond .eq 105, 3) := by decide +kernel
theorem dL_others_253 : decode cL_others 253 = .ok (.iload 8, 2) := by decide +kernel
theorem dL_others_255 : decode cL_others 255 = .ok (.ifCond .eq 25, 3) := by decide +kernel
theorem dL_others_258 : decode cL_others 258 = .ok (.iload 11, 2) := by decide +kernel
theorem dL_others_260 : decode cL_others 260 = .ok (.ifCond .eq 39, 3) := by decide +kernel
theorem dL_others_263 : decode cL_others 263 = .ok (.iload 11, 2) := by decide +kernel
theorem dL_others_265 : decode cL_others 265 = .ok (.bipush 8, 2) := by decide +kernel
theorem dL_others_267 : decode cL_others 267 = .ok (.if_icmp .eq 32, 3) := by decide +kernel
theorem dL_others_270 : decode cL_others 270 = .ok (.iload 11, 2) := by decide +kernel
theorem dL_others_272 : decode cL_others 272 = .ok (.bipush 16, 2) := by decide +kernel
theorem dL_others_274 : decode cL_others 274 = .ok (.if_icmp .ne 81, 3) := by decide +kernel
theorem dL_others_277 : decode cL_others 277 = .ok (.goto 22, 3) := by decide +kernel
theorem dL_others_280 : decode cL_others 280 = .ok (.iload 11, 2) := by decide +kernel
theorem dL_others_282 : decode cL_others 282 = .ok (.ifCond .eq 17, 3) := by decide +kernel
theorem dL_others_285 : decode cL_others 285 = .ok (.iload 11, 2) := by decide +kernel
theorem dL_others_287 : decode cL_others 287 = .ok (.bipush (-8), 2) := by decide +kernel
theorem dL_others_289 : decode cL_others 289 = .ok (.if_icmp .eq 10, 3) := by decide +kernel
theorem dL_others_292 : decode cL_others 292 = .ok (.iload 11, 2) := by decide +kernel
theorem dL_others_294 : decode cL_others 294 = .ok (.bipush (-16), 2) := by decide +kernel
theorem dL_others_296 : decode cL_others 296 = .ok (.if_icmp .ne 59, 3) := by decide +kernel
theorem dL_others_299 : decode cL_others 299 = .ok (.aload_n 0, 1) := by decide +kernel
theorem dL_others_300 : decode cL_others 300 = .ok (.iload 5, 2) := by decide +kernel
theorem dL_others_302 : decode cL_others 302 = .ok (.iload 6, 2) := by decide +kernel
theorem dL_others_304 : decode cL_others 304 = .ok (.iload 8, 2) := by decide +kernel
theorem dL_others_306 : decode cL_others 306 = .ok (.invokestatic 171, 3) := by decide +kernel
theorem dL_others_309 : decode cL_others 309 = .ok (.ifCond .ne 46, 3) := by decide +kernel
theorem dL_others_312 : decode cL_others 312 = .ok (.aload_n 0, 1) := by decide +kernel
theorem dL_others_313 : decode cL_others 313 = .ok (.iload 5, 2) := by decide +kernel
theorem dL_others_315 : decode cL_others 315 = .ok (.iload 6, 2) := by decide +kernel
theorem dL_others_317 : decode cL_others 317 = .ok (.invokestatic 133, 3) := by decide +kernel
theorem dL_others_320 : decode cL_others 320 = .ok (.iload 9, 2) := by decide +kernel
theorem dL_others_322 : decode cL_others 322 = .ok (.iload 11, 2) := by decide +kernel
theorem dL_others_324 : decode cL_others 324 = .ok (.iadd, 1) := by decide +kernel
theorem dL_others_325 : decode cL_others 325 = .ok (.if_icmp .ne 30, 3) := by decide +kernel
theorem dL_others_328 : decode cL_others 328 = .ok (.aload_n 0, 1) := by decide +kernel
theorem dL_others_329 : decode cL_others 329 = .ok (.iload 5, 2) := by decide +kernel
theorem dL_others_331 : decode cL_others 331 = .ok (.iload 6, 2) := by decide +kernel
theorem dL_others_333 : decode cL_others 333 = .ok (.invokestatic 131, 3) := by decide +kernel
theorem dL_others_336 : decode cL_others 336 = .ok (.iload 8, 2) := by decide +kernel
theorem dL_others_338 : decode cL_others 338 = .ok (.ifCond .eq 8, 3) := by decide +kernel
theorem dL_others_341 : decode cL_others 341 = .ok (.bipush 7, 2) := by decide +kernel
theorem dL_others_343 : decode cL_others 343 = .ok (.goto 5, 3) := by decide +kernel
theorem dL_others_346 : decode cL_others 346 = .ok (.bipush 99, 2) := by decide +kernel
theorem dL_others_348 : decode cL_others 348 = .ok (.if_icmp .eq 7, 3) := by decide +kernel
theorem dL_others_351 : decode cL_others 351 = .ok (.iconst 1, 1) := by decide +kernel
theorem dL_others_352 : decode cL_others 352 = .ok (.goto 4, 3) := by decide +kernel
theorem dL_others_355 : decode cL_others 355 = .ok (.iconst 0, 1) := by decide +kernel
theorem dL_others_356 : decode cL_others 356 = .ok (.ireturn, 1) := by decide +kernel
theorem dL_others_357 : decode cL_others 357 = .ok (.iload 7, 2) := by decide +kernel
theorem dL_others_359 : decode cL_others 359 = .ok (.iconst 3, 1) := by decide +kernel
theorem dL_others_360 : decode cL_others 360 = .ok (.if_icmp .ne 75, 3) := by decide +kernel
theorem dL_others_363 : decode cL_others 363 = .ok (.aload_n 0, 1) := by decide +kernel
theorem dL_others_364 : decode cL_others 364 = .ok (.iload 5, 2) := by decide +kernel
theorem dL_others_366 : decode cL_others 366 = .ok (.iload_n 3, 1) := by decide +kernel
theorem dL_others_367 : decode cL_others 367 = .ok (.iconst 3, 1) := by decide +kernel
theorem dL_others_368 : decode cL_others 368 = .ok (.ishr, 1) := by decide +kernel
theorem dL_others_369 : decode cL_others 369 = .ok (.bipush 31, 2) := by decide +kernel
theorem dL_others_371 : decode cL_others 371 = .ok (.invokestatic 145, 3) := by decide +kernel
theorem dL_others_374 : decode cL_others 374 = .ok (.invokestatic 174, 3) := by decide +kernel
theorem dL_others_377 : decode cL_others 377 = .ok (.istore 8, 2) := by decide +kernel
theorem dL_others_379 : decode cL_others 379 = .ok (.iload 8, 2) := by decide +kernel
theorem dL_others_381 : decode cL_others 381 = .ok (.ifCond .lt 52, 3) := by decide +kernel
theorem dL_others_384 : decode cL_others 384 = .ok (.iload 8, 2) := by decide +kernel
theorem dL_others_386 : decode cL_others 386 = .ok (.bipush 31, 2) := by decide +kernel
theorem dL_others_388 : decode cL_others 388 = .ok (.if_icmp .ge 45, 3) := by decide +kernel
theorem dL_others_391 : decode cL_others 391 = .ok (.aload_n 0, 1) := by decide +kernel
theorem dL_others_392 : decode cL_others 392 = .ok (.iload 5, 2) := by decide +kernel
theorem dL_others_394 : decode cL_others 394 = .ok (.iload 8, 2) := by decide +kernel
theorem dL_others_396 : decode cL_others 396 = .ok (.invokestatic 174, 3) := by decide +kernel
theorem dL_others_399 : decode cL_others 399 = .ok (.iload_n 3, 1) := by decide +kernel
theorem dL_others_400 : decode cL_others 400 = .ok (.iconst 3, 1) := by decide +kernel
theorem dL_others_401 : decode cL_others 401 = .ok (.ishr, 1) := by decide +kernel
theorem dL_others_402 : decode cL_others 402 = .ok (.bipush 31, 2) := by decide +kernel
theorem dL_others_404 : decode cL_others 404 = .ok (.invokestatic 145, 3) := by decide +kernel
theorem dL_others_407 : decode cL_others 407 = .ok (.if_icmp .ne 26, 3) := by decide +kernel
theorem dL_others_410 : decode cL_others 410 = .ok (.aload_n 0, 1) := by decide +kernel
theorem dL_others_411 : decode cL_others 411 = .ok (.iload 5, 2) := by decide +kernel
theorem dL_others_413 : decode cL_others 413 = .ok (.iload_n 3, 1) := by decide +kernel
theorem dL_others_414 : decode cL_others 414 = .ok (.iconst 3, 1) := by decide +kernel
theorem dL_others_415 : decode cL_others 415 = .ok (.ishr, 1) := by decide +kernel
theorem dL_others_416 : decode cL_others 416 = .ok (.bipush 9, 2) := by decide +kernel
theorem dL_others_418 : decode cL_others 418 = .ok (.invokestatic 145, 3) := by decide +kernel
theorem dL_others_421 : decode cL_others 421 = .ok (.invokestatic 174, 3) := by decide +kernel
theorem dL_others_424 : decode cL_others 424 = .ok (.iload 8, 2) := by decide +kernel
theorem dL_others_426 : decode cL_others 426 = .ok (.if_icmp .ne 7, 3) := by decide +kernel
theorem dL_others_429 : decode cL_others 429 = .ok (.iconst 1, 1) := by decide +kernel
theorem dL_others_430 : decode cL_others 430 = .ok (.goto 4, 3) := by decide +kernel
theorem dL_others_433 : decode cL_others 433 = .ok (.iconst 0, 1) := by decide +kernel
theorem dL_others_434 : decode cL_others 434 = .ok (.ireturn, 1) := by decide +kernel
theorem dL_others_435 : decode cL_others 435 = .ok (.iload 7, 2) := by decide +kernel
theorem dL_others_437 : decode cL_others 437 = .ok (.iconst 4, 1) := by decide +kernel
theorem dL_others_438 : decode cL_others 438 = .ok (.if_icmp .ne 34, 3) := by decide +kernel
theorem dL_others_441 : decode cL_others 441 = .ok (.aload_n 0, 1) := by decide +kernel
theorem dL_others_442 : decode cL_others 442 = .ok (.iload 5, 2) := by decide +kernel
theorem dL_others_444 : decode cL_others 444 = .ok (.invokestatic 176, 3) := by decide +kernel
theorem dL_others_447 : decode cL_others 447 = .ok (.aload_n 0, 1) := by decide +kernel
theorem dL_others_448 : decode cL_others 448 = .ok (.iload 5, 2) := by decide +kernel
theorem dL_others_450 : decode cL_others 450 = .ok (.iconst 0, 1) := by decide +kernel
theorem dL_others_451 : decode cL_others 451 = .ok (.invokestatic 119, 3) := by decide +kernel
theorem dL_others_454 : decode cL_others 454 = .ok (.ifCond .ge 8, 3) := by decide +kernel
theorem dL_others_457 : decode cL_others 457 = .ok (.ldc 21, 2) := by decide +kernel
theorem dL_others_459 : decode cL_others 459 = .ok (.goto 4, 3) := by decide +kernel
theorem dL_others_462 : decode cL_others 462 = .ok (.iconst 0, 1) := by decide +kernel
theorem dL_others_463 : decode cL_others 463 = .ok (.if_icmp .ne 7, 3) := by decide +kernel
theorem dL_others_466 : decode cL_others 466 = .ok (.iconst 1, 1) := by decide +kernel
theorem dL_others_467 : decode cL_others 467 = .ok (.goto 4, 3) := by decide +kernel
theorem dL_others_470 : decode cL_others 470 = .ok (.iconst 0, 1) := by decide +kernel
theorem dL_others_471 : decode cL_others 471 = .ok (.ireturn, 1) := by decide +kernel
theorem dL_others_472 : decode cL_others 472 = .ok (.iload 7, 2) := by decide +kernel
theorem dL_others_474 : decode cL_others 474 = .ok (.iconst 5, 1) := by decide +kernel
theorem dL_others_475 : decode cL_others 475 = .ok (.if_icmp .ne 55, 3) := by decide +kernel
theorem dL_others_478 : decode cL_others 478 = .ok (.aload_n 0, 1) := by decide +kernel
theorem dL_others_479 : decode cL_others 479 = .ok (.iload 6, 2) := by decide +kernel
theorem dL_others_481 : decode cL_others 481 = .ok (.invokestatic 141, 3) := by decide +kernel
theorem dL_others_484 : decode cL_others 484 = .ok (.istore 8, 2) := by decide +kernel
theorem dL_others_486 : decode cL_others 486 = .ok (.iconst 1, 1) := by decide +kernel
theorem dL_others_487 : decode cL_others 487 = .ok (.iload_n 3, 1) := by decide +kernel
theorem dL_others_488 : decode cL_others 488 = .ok (.iconst 3, 1) := by decide +kernel
theorem dL_others_489 : decode cL_others 489 = .ok (.ishr, 1) := by decide +kernel
theorem dL_others_490 : decode cL_others 490 = .ok (.sipush 5000, 3) := by decide +kernel
theorem dL_others_493 : decode cL_others 493 = .ok (.invokestatic 145, 3) := by decide +kernel
theorem dL_others_496 : decode cL_others 496 = .ok (.iadd, 1) := by decide +kernel
theorem dL_others_497 : decode cL_others 497 = .ok (.istore 9, 2) := by decide +kernel
theorem dL_others_499 : decode cL_others 499 = .ok (.aload_n 2, 1) := by decide +kernel
theorem dL_others_500 : decode cL_others 500 = .ok (.iload 6, 2) := by decide +kernel
theorem dL_others_502 : decode cL_others 502 = .ok (.dup2, 1) := by decide +kernel
theorem dL_others_503 : decode cL_others 503 = .ok (.iaload, 1) := by decide +kernel
theorem dL_others_504 : decode cL_others 504 = .ok (.iload 9, 2) := by decide +kernel
theorem dL_others_506 : decode cL_others 506 = .ok (.iadd, 1) := by decide +kernel
theorem dL_others_507 : decode cL_others 507 = .ok (.iastore, 1) := by decide +kernel
theorem dL_others_508 : decode cL_others 508 = .ok (.aload_n 0, 1) := by decide +kernel
theorem dL_others_509 : decode cL_others 509 = .ok (.iload 6, 2) := by decide +kernel
theorem dL_others_511 : decode cL_others 511 = .ok (.iload 9, 2) := by decide +kernel
theorem dL_others_513 : decode cL_others 513 = .ok (.invokestatic 178, 3) := by decide +kernel
theorem dL_others_516 : decode cL_others 516 = .ok (.iload 8, 2) := by decide +kernel
theorem dL_others_518 : decode cL_others 518 = .ok (.iload 9, 2) := by decide +kernel
theorem dL_others_520 : decode cL_others 520 = .ok (.isub, 1) := by decide +kernel
theorem dL_others_521 : decode cL_others 521 = .ok (.if_icmp .ne 7, 3) := by decide +kernel
theorem dL_others_524 : decode cL_others 524 = .ok (.iconst 1, 1) := by decide +kernel
theorem dL_others_525 : decode cL_others 525 = .ok (.goto 4, 3) := by decide +kernel
theorem dL_others_528 : decode cL_others 528 = .ok (.iconst 0, 1) := by decide +kernel
theorem dL_others_529 : decode cL_others 529 = .ok (.ireturn, 1) := by decide +kernel
theorem dL_others_530 : decode cL_others 530 = .ok (.aload_n 0, 1) := by decide +kernel
theorem dL_others_531 : decode cL_others 531 = .ok (.iload 5, 2) := by decide +kernel
theorem dL_others_533 : decode cL_others 533 = .ok (.bipush 6, 2) := by decide +kernel
theorem dL_others_535 : decode cL_others 535 = .ok (.invokestatic 119, 3) := by decide +kernel
theorem dL_others_538 : decode cL_others 538 = .ok (.istore 8, 2) := by decide +kernel
theorem dL_others_540 : decode cL_others 540 = .ok (.iload_n 3, 1) := by decide +kernel
theorem dL_others_541 : decode cL_others 541 = .ok (.iconst 3, 1) := by decide +kernel
theorem dL_others_542 : decode cL_others 542 = .ok (.ishr, 1) := by decide +kernel
theorem dL_others_543 : decode cL_others 543 = .ok (.iconst 5, 1) := by decide +kernel
theorem dL_others_544 : decode cL_others 544 = .ok (.invokestatic 145, 3) := by decide +kernel
theorem dL_others_547 : decode cL_others 547 = .ok (.istore 9, 2) := by decide +kernel
theorem dL_others_549 : decode cL_others 549 = .ok (.aload_n 0, 1) := by decide +kernel
theorem dL_others_550 : decode cL_others 550 = .ok (.iload 5, 2) := by decide +kernel
theorem dL_others_552 : decode cL_others 552 = .ok (.iload 9, 2) := by decide +kernel
theorem dL_others_554 : decode cL_others 554 = .ok (.invokestatic 180, 3) := by decide +kernel
theorem dL_others_557 : decode cL_others 557 = .ok (.iload 8, 2) := by decide +kernel
theorem dL_others_559 : decode cL_others 559 = .ok (.if_icmp .ne 20, 3) := by decide +kernel
theorem dL_others_562 : decode cL_others 562 = .ok (.aload_n 0, 1) := by decide +kernel
theorem dL_others_563 : decode cL_others 563 = .ok (.iload 5, 2) := by decide +kernel
theorem dL_others_565 : decode cL_others 565 = .ok (.bipush 6, 2) := by decide +kernel
theorem dL_others_567 : decode cL_others 567 = .ok (.invokestatic 119, 3) := by decide +kernel
theorem dL_others_570 : decode cL_others 570 = .ok (.iload 9, 2) := by decide +kernel
theorem dL_others_572 : decode cL_others 572 = .ok (.if_icmp .ne 7, 3) := by decide +kernel
theorem dL_others_575 : decode cL_others 575 = .ok (.iconst 1, 1) := by decide +kernel
theorem dL_others_576 : decode cL_others 576 = .ok (.goto 4, 3) := by decide +kernel
theorem dL_others_579 : decode cL_others 579 = .ok (.iconst 0, 1) := by decide +kernel
theorem dL_others_580 : decode cL_others 580 = .ok (.ireturn, 1) := by decide +kernel
theorem dL_acts_0 : decode cL_acts 0 = .ok (.iload 9, 2) := by decide +kernel
theorem dL_acts_2 : decode cL_acts 2 = .ok (.bipush 14, 2) := by decide +kernel
theorem dL_acts_4 : decode cL_acts 4 = .ok (.invokestatic 145, 3) := by decide +kernel
theorem dL_acts_7 : decode cL_acts 7 = .ok (.istore 11, 2) := by decide +kernel
theorem dL_acts_9 : decode cL_acts 9 = .ok (.iload 11, 2) := by decide +kernel
theorem dL_acts_11 : decode cL_acts 11 = .ok (.ifCond .eq 15, 3) := by decide +kernel
theorem dL_acts_14 : decode cL_acts 14 = .ok (.aload_n 1, 1) := by decide +kernel
theorem dL_acts_15 : decode cL_acts 15 = .ok (.iconst 0, 1) := by decide +kernel
theorem dL_acts_16 : decode cL_acts 16 = .ok (.iaload, 1) := by decide +kernel
theorem dL_acts_17 : decode cL_acts 17 = .ok (.ifCond .eq 9, 3) := by decide +kernel
theorem dL_acts_20 : decode cL_acts 20 = .ok (.aload_n 1, 1) := by decide +kernel
theorem dL_acts_21 : decode cL_acts 21 = .ok (.iconst 1, 1) := by decide +kernel
theorem dL_acts_22 : decode cL_acts 22 = .ok (.iaload, 1) := by decide +kernel
theorem dL_acts_23 : decode cL_acts 23 = .ok (.ifCond .ne 21, 3) := by decide +kernel
theorem dL_acts_26 : decode cL_acts 26 = .ok (.aload_n 0, 1) := by decide +kernel
theorem dL_acts_27 : decode cL_acts 27 = .ok (.aload_n 1, 1) := by decide +kernel
theorem dL_acts_28 : decode cL_acts 28 = .ok (.aload_n 2, 1) := by decide +kernel
theorem dL_acts_29 : decode cL_acts 29 = .ok (.aload_n 3, 1) := by decide +kernel
theorem dL_acts_30 : decode cL_acts 30 = .ok (.aload 4, 2) := by decide +kernel
theorem dL_acts_32 : decode cL_acts 32 = .ok (.aload 5, 2) := by decide +kernel
theorem dL_acts_34 : decode cL_acts 34 = .ok (.iload 9, 2) := by decide +kernel
theorem dL_acts_36 : decode cL_acts 36 = .ok (.iconst 4, 1) := by decide +kernel
theorem dL_acts_37 : decode cL_acts 37 = .ok (.ishr, 1) := by decide +kernel
theorem dL_acts_38 : decode cL_acts 38 = .ok (.iload 10, 2) := by decide +kernel
theorem dL_acts_40 : decode cL_acts 40 = .ok (.invokestatic 182, 3) := by decide +kernel
theorem dL_acts_43 : decode cL_acts 43 = .ok (.ireturn, 1) := by decide +kernel
theorem dL_acts_44 : decode cL_acts 44 = .ok (.iload 11, 2) := by decide +kernel
theorem dL_acts_46 : decode cL_acts 46 = .ok (.iconst 4, 1) := by decide +kernel
theorem dL_acts_47 : decode cL_acts 47 = .ok (.if_icmp .ge 19, 3) := by decide +kernel
theorem dL_acts_50 : decode cL_acts 50 = .ok (.aload_n 0, 1) := by decide +kernel
theorem dL_acts_51 : decode cL_acts 51 = .ok (.aload_n 1, 1) := by decide +kernel
theorem dL_acts_52 : decode cL_acts 52 = .ok (.aload 7, 2) := by decide +kernel
theorem dL_acts_54 : decode cL_acts 54 = .ok (.aload 8, 2) := by decide +kernel
theorem dL_acts_56 : decode cL_acts 56 = .ok (.iload 9, 2) := by decide +kernel
theorem dL_acts_58 : decode cL_acts 58 = .ok (.iconst 4, 1) := by decide +kernel
theorem dL_acts_59 : decode cL_acts 59 = .ok (.ishr, 1) := by decide +kernel
theorem dL_acts_60 : decode cL_acts 60 = .ok (.iload 10, 2) := by decide +kernel
theorem dL_acts_62 : decode cL_acts 62 = .ok (.invokestatic 186, 3) := by decide +kernel
theorem dL_acts_65 : decode cL_acts 65 = .ok (.ireturn, 1) := by decide +kernel
theorem dL_acts_66 : decode cL_acts 66 = .ok (.iload 11, 2) := by decide +kernel
theorem dL_acts_68 : decode cL_acts 68 = .ok (.bipush 7, 2) := by decide +kernel
theorem dL_acts_70 : decode cL_acts 70 = .ok (.if_icmp .ge 17, 3) := by decide +kernel
theorem dL_acts_73 : decode cL_acts 73 = .ok (.aload_n 0, 1) := by decide +kernel
theorem dL_acts_74 : decode cL_acts 74 = .ok (.aload_n 1, 1) := by decide +kernel
theorem dL_acts_75 : decode cL_acts 75 = .ok (.aload 4, 2) := by decide +kernel
theorem dL_acts_77 : decode cL_acts 77 = .ok (.iload 9, 2) := by decide +kernel
theorem dL_acts_79 : decode cL_acts 79 = .ok (.iconst 4, 1) := by decide +kernel
theorem dL_acts_80 : decode cL_acts 80 = .ok (.ishr, 1) := by decide +kernel
theorem dL_acts_81 : decode cL_acts 81 = .ok (.iload 10, 2) := by decide +kernel
theorem dL_acts_83 : decode cL_acts 83 = .ok (.invokestatic 190, 3) := by decide +kernel
theorem dL_acts_86 : decode cL_acts 86 = .ok (.ireturn, 1) := by decide +kernel
theorem dL_acts_87 : decode cL_acts 87 = .ok (.iload 11, 2) := by decide +kernel
theorem dL_acts_89 : decode cL_acts 89 = .ok (.bipush 10, 2) := by decide +kernel
theorem dL_acts_91 : decode cL_acts 91 = .ok (.if_icmp .ge 17, 3) := by decide +kernel
theorem dL_acts_94 : decode cL_acts 94 = .ok (.aload_n 0, 1) := by decide +kernel
theorem dL_acts_95 : decode cL_acts 95 = .ok (.aload_n 1, 1) := by decide +kernel
theorem dL_acts_96 : decode cL_acts 96 = .ok (.aload 6, 2) := by decide +kernel
theorem dL_acts_98 : decode cL_acts 98 = .ok (.iload 9, 2) := by decide +kernel
theorem dL_acts_100 : decode cL_acts 100 = .ok (.iconst 4, 1) := by decide +kernel
theorem dL_acts_101 : decode cL_acts 101 = .ok (.ishr, 1) := by decide +kernel
theorem dL_acts_102 : decode cL_acts 102 = .ok (.iload 10, 2) := by decide +kernel
theorem dL_acts_104 : decode cL_acts 104 = .ok (.invokestatic 194, 3) := by decide +kernel
theorem dL_acts_107 : decode cL_acts 107 = .ok (.ireturn, 1) := by decide +kernel
theorem dL_acts_108 : decode cL_acts 108 = .ok (.iload 11, 2) := by decide +kernel
theorem dL_acts_110 : decode cL_acts 110 = .ok (.bipush 13, 2) := by decide +kernel
theorem dL_acts_112 : decode cL_acts 112 = .ok (.if_icmp .ge 52, 3) := by decide +kernel
theorem dL_acts_115 : decode cL_acts 115 = .ok (.iconst 1, 1) := by decide +kernel
theorem dL_acts_116 : decode cL_acts 116 = .ok (.iload 10, 2) := by decide +kernel
theorem dL_acts_118 : decode cL_acts 118 = .ok (.iload 11, 2) := by decide +kernel
theorem dL_acts_120 : decode cL_acts 120 = .ok (.bipush 12, 2) := by decide +kernel
theorem dL_acts_122 : decode cL_acts 122 = .ok (.if_icmp .ne 8, 3) := by decide +kernel
theorem dL_acts_125 : decode cL_acts 125 = .ok (.bipush 60, 2) := by decide +kernel
theorem dL_acts_127 : decode cL_acts 127 = .ok (.goto 5, 3) := by decide +kernel
theorem dL_acts_130 : decode cL_acts 130 = .ok (.bipush 9, 2) := by decide +kernel
theorem dL_acts_132 : decode cL_acts 132 = .ok (.invokestatic 145, 3) := by decide +kernel
theorem dL_acts_135 : decode cL_acts 135 = .ok (.iadd, 1) := by decide +kernel
theorem dL_acts_136 : decode cL_acts 136 = .ok (.istore 12, 2) := by decide +kernel
theorem dL_acts_138 : decode cL_acts 138 = .ok (.aload_n 1, 1) := by decide +kernel
theorem dL_acts_139 : decode cL_acts 139 = .ok (.iconst 4, 1) := by decide +kernel
theorem dL_acts_140 : decode cL_acts 140 = .ok (.dup2, 1) := by decide +kernel
theorem dL_acts_141 : decode cL_acts 141 = .ok (.iaload, 1) := by decide +kernel
theorem dL_acts_142 : decode cL_acts 142 = .ok (.iload 12, 2) := by decide +kernel
theorem dL_acts_144 : decode cL_acts 144 = .ok (.iadd, 1) := by decide +kernel
theorem dL_acts_145 : decode cL_acts 145 = .ok (.iastore, 1) := by decide +kernel
theorem dL_acts_146 : decode cL_acts 146 = .ok (.aload_n 0, 1) := by decide +kernel
theorem dL_acts_147 : decode cL_acts 147 = .ok (.iload 12, 2) := by decide +kernel
theorem dL_acts_149 : decode cL_acts 149 = .ok (.invokestatic 197, 3) := by decide +kernel
theorem dL_acts_152 : decode cL_acts 152 = .ok (.aload_n 1, 1) := by decide +kernel
theorem dL_acts_153 : decode cL_acts 153 = .ok (.iconst 4, 1) := by decide +kernel
theorem dL_acts_154 : decode cL_acts 154 = .ok (.iaload, 1) := by decide +kernel
theorem dL_acts_155 : decode cL_acts 155 = .ok (.if_icmp .ne 7, 3) := by decide +kernel
theorem dL_acts_158 : decode cL_acts 158 = .ok (.iconst 1, 1) := by decide +kernel
theorem dL_acts_159 : decode cL_acts 159 = .ok (.goto 4, 3) := by decide +kernel
theorem dL_acts_162 : decode cL_acts 162 = .ok (.iconst 0, 1) := by decide +kernel
theorem dL_acts_163 : decode cL_acts 163 = .ok (.ireturn, 1) := by decide +kernel
theorem dL_acts_164 : decode cL_acts 164 = .ok (.aload_n 1, 1) := by decide +kernel
theorem dL_acts_165 : decode cL_acts 165 = .ok (.iconst 5, 1) := by decide +kernel
theorem dL_acts_166 : decode cL_acts 166 = .ok (.dup2, 1) := by decide +kernel
theorem dL_acts_167 : decode cL_acts 167 = .ok (.iaload, 1) := by decide +kernel
theorem dL_acts_168 : decode cL_acts 168 = .ok (.iconst 1, 1) := by decide +kernel
theorem dL_acts_169 : decode cL_acts 169 = .ok (.iadd, 1) := by decide +kernel
theorem dL_acts_170 : decode cL_acts 170 = .ok (.iastore, 1) := by decide +kernel
theorem dL_acts_171 : decode cL_acts 171 = .ok (.aload_n 1, 1) := by decide +kernel
theorem dL_acts_172 : decode cL_acts 172 = .ok (.iconst 5, 1) := by decide +kernel
theorem dL_acts_173 : decode cL_acts 173 = .ok (.iaload, 1) := by decide +kernel
theorem dL_acts_174 : decode cL_acts 174 = .ok (.iconst 4, 1) := by decide +kernel
theorem dL_acts_175 : decode cL_acts 175 = .ok (.if_icmp .gt 36, 3) := by decide +kernel
theorem dL_acts_178 : decode cL_acts 178 = .ok (.aload_n 0, 1) := by decide +kernel
theorem dL_acts_179 : decode cL_acts 179 = .ok (.aload_n 1, 1) := by decide +kernel
theorem dL_acts_180 : decode cL_acts 180 = .ok (.aload_n 2, 1) := by decide +kernel
theorem dL_acts_181 : decode cL_acts 181 = .ok (.aload_n 3, 1) := by decide +kernel
theorem dL_acts_182 : decode cL_acts 182 = .ok (.aload 5, 2) := by decide +kernel
theorem dL_acts_184 : decode cL_acts 184 = .ok (.invokestatic 199, 3) := by decide +kernel
theorem dL_acts_187 : decode cL_acts 187 = .ok (.ifCond .eq 28, 3) := by decide +kernel
theorem dL_acts_190 : decode cL_acts 190 = .ok (.aload_n 0, 1) := by decide +kernel
theorem dL_acts_191 : decode cL_acts 191 = .ok (.aload_n 1, 1) := by decide +kernel
theorem dL_acts_192 : decode cL_acts 192 = .ok (.aload_n 2, 1) := by decide +kernel
theorem dL_acts_193 : decode cL_acts 193 = .ok (.aload_n 3, 1) := by decide +kernel
theorem dL_acts_194 : decode cL_acts 194 = .ok (.aload 6, 2) := by decide +kernel
theorem dL_acts_196 : decode cL_acts 196 = .ok (.invokestatic 203, 3) := by decide +kernel
theorem dL_acts_199 : decode cL_acts 199 = .ok (.ifCond .eq 16, 3) := by decide +kernel
theorem dL_acts_202 : decode cL_acts 202 = .ok (.aload_n 0, 1) := by decide +kernel
theorem dL_acts_203 : decode cL_acts 203 = .ok (.aload_n 1, 1) := by decide +kernel
theorem dL_acts_204 : decode cL_acts 204 = .ok (.aload_n 3, 1) := by decide +kernel
theorem dL_acts_205 : decode cL_acts 205 = .ok (.invokestatic 206, 3) := by decide +kernel
theorem dL_acts_208 : decode cL_acts 208 = .ok (.ifCond .eq 7, 3) := by decide +kernel
theorem dL_acts_211 : decode cL_acts 211 = .ok (.iconst 1, 1) := by decide +kernel
theorem dL_acts_212 : decode cL_acts 212 = .ok (.goto 4, 3) := by decide +kernel
theorem dL_acts_215 : decode cL_acts 215 = .ok (.iconst 0, 1) := by decide +kernel
theorem dL_acts_216 : decode cL_acts 216 = .ok (.ireturn, 1) := by decide +kernel
