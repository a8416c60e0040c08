theorem dL_law_0 : decode cL_law 0 = .ok (.new 11, 3) := by decide +kernel
theorem dL_law_3 : decode cL_law 3 = .ok (.dup, 1) := by decide +kernel
theorem dL_law_4 : decode cL_law 4 = .ok (.invokespecial 210, 3) := by decide +kernel
theorem dL_law_7 : decode cL_law 7 = .ok (.astore_n 1, 1) := by decide +kernel
theorem dL_law_8 : decode cL_law 8 = .ok (.bipush 6, 2) := by decide +kernel
theorem dL_law_10 : decode cL_law 10 = .ok (.newarray .int, 2) := by decide +kernel
theorem dL_law_12 : decode cL_law 12 = .ok (.astore_n 2, 1) := by decide +kernel
theorem dL_law_13 : decode cL_law 13 = .ok (.bipush 16, 2) := by decide +kernel
theorem dL_law_15 : decode cL_law 15 = .ok (.newarray .int, 2) := by decide +kernel
theorem dL_law_17 : decode cL_law 17 = .ok (.astore_n 3, 1) := by decide +kernel
theorem dL_law_18 : decode cL_law 18 = .ok (.bipush 16, 2) := by decide +kernel
theorem dL_law_20 : decode cL_law 20 = .ok (.newarray .int, 2) := by decide +kernel
theorem dL_law_22 : decode cL_law 22 = .ok (.astore 4, 2) := by decide +kernel
theorem dL_law_24 : decode cL_law 24 = .ok (.bipush 16, 2) := by decide +kernel
theorem dL_law_26 : decode cL_law 26 = .ok (.newarray .int, 2) := by decide +kernel
theorem dL_law_28 : decode cL_law 28 = .ok (.astore 5, 2) := by decide +kernel
theorem dL_law_30 : decode cL_law 30 = .ok (.iconst 4, 1) := by decide +kernel
theorem dL_law_31 : decode cL_law 31 = .ok (.newarray .int, 2) := by decide +kernel
theorem dL_law_33 : decode cL_law 33 = .ok (.astore 6, 2) := by decide +kernel
theorem dL_law_35 : decode cL_law 35 = .ok (.iconst 4, 1) := by decide +kernel
theorem dL_law_36 : decode cL_law 36 = .ok (.newarray .int, 2) := by decide +kernel
theorem dL_law_38 : decode cL_law 38 = .ok (.astore 7, 2) := by decide +kernel
theorem dL_law_40 : decode cL_law 40 = .ok (.bipush 32, 2) := by decide +kernel
theorem dL_law_42 : decode cL_law 42 = .ok (.newarray .int, 2) := by decide +kernel
theorem dL_law_44 : decode cL_law 44 = .ok (.astore 8, 2) := by decide +kernel
theorem dL_law_46 : decode cL_law 46 = .ok (.bipush 64, 2) := by decide +kernel
theorem dL_law_48 : decode cL_law 48 = .ok (.newarray .int, 2) := by decide +kernel
theorem dL_law_50 : decode cL_law 50 = .ok (.astore 9, 2) := by decide +kernel
theorem dL_law_52 : decode cL_law 52 = .ok (.aload_n 1, 1) := by decide +kernel
theorem dL_law_53 : decode cL_law 53 = .ok (.aload_n 2, 1) := by decide +kernel
theorem dL_law_54 : decode cL_law 54 = .ok (.aload_n 3, 1) := by decide +kernel
theorem dL_law_55 : decode cL_law 55 = .ok (.aload 4, 2) := by decide +kernel
theorem dL_law_57 : decode cL_law 57 = .ok (.aload 5, 2) := by decide +kernel
theorem dL_law_59 : decode cL_law 59 = .ok (.aload 6, 2) := by decide +kernel
theorem dL_law_61 : decode cL_law 61 = .ok (.iconst 0, 1) := by decide +kernel
theorem dL_law_62 : decode cL_law 62 = .ok (.aload_n 0, 1) := by decide +kernel
theorem dL_law_63 : decode cL_law 63 = .ok (.iconst 0, 1) := by decide +kernel
theorem dL_law_64 : decode cL_law 64 = .ok (.invokestatic 211, 3) := by decide +kernel
theorem dL_law_67 : decode cL_law 67 = .ok (.invokestatic 182, 3) := by decide +kernel
theorem dL_law_70 : decode cL_law 70 = .ok (.ifCond .eq 28, 3) := by decide +kernel
theorem dL_law_73 : decode cL_law 73 = .ok (.aload_n 1, 1) := by decide +kernel
theorem dL_law_74 : decode cL_law 74 = .ok (.aload_n 2, 1) := by decide +kernel
theorem dL_law_75 : decode cL_law 75 = .ok (.aload_n 3, 1) := by decide +kernel
theorem dL_law_76 : decode cL_law 76 = .ok (.aload 4, 2) := by decide +kernel
theorem dL_law_78 : decode cL_law 78 = .ok (.aload 5, 2) := by decide +kernel
theorem dL_law_80 : decode cL_law 80 = .ok (.aload 6, 2) := by decide +kernel
theorem dL_law_82 : decode cL_law 82 = .ok (.iconst 3, 1) := by decide +kernel
theorem dL_law_83 : decode cL_law 83 = .ok (.aload_n 0, 1) := by decide +kernel
theorem dL_law_84 : decode cL_law 84 = .ok (.iconst 1, 1) := by decide +kernel
theorem dL_law_85 : decode cL_law 85 = .ok (.invokestatic 211, 3) := by decide +kernel
theorem dL_law_88 : decode cL_law 88 = .ok (.invokestatic 182, 3) := by decide +kernel
theorem dL_law_91 : decode cL_law 91 = .ok (.ifCond .eq 7, 3) := by decide +kernel
theorem dL_law_94 : decode cL_law 94 = .ok (.iconst 1, 1) := by decide +kernel
theorem dL_law_95 : decode cL_law 95 = .ok (.goto 4, 3) := by decide +kernel
theorem dL_law_98 : decode cL_law 98 = .ok (.iconst 0, 1) := by decide +kernel
theorem dL_law_99 : decode cL_law 99 = .ok (.istore 10, 2) := by decide +kernel
theorem dL_law_101 : decode cL_law 101 = .ok (.iconst 0, 1) := by decide +kernel
theorem dL_law_102 : decode cL_law 102 = .ok (.istore 11, 2) := by decide +kernel
theorem dL_law_104 : decode cL_law 104 = .ok (.iload 11, 2) := by decide +kernel
theorem dL_law_106 : decode cL_law 106 = .ok (.iconst 3, 1) := by decide +kernel
theorem dL_law_107 : decode cL_law 107 = .ok (.if_icmp .ge 43, 3) := by decide +kernel
theorem dL_law_110 : decode cL_law 110 = .ok (.iload 10, 2) := by decide +kernel
theorem dL_law_112 : decode cL_law 112 = .ok (.ifCond .eq 38, 3) := by decide +kernel
theorem dL_law_115 : decode cL_law 115 = .ok (.aload_n 1, 1) := by decide +kernel
theorem dL_law_116 : decode cL_law 116 = .ok (.aload_n 2, 1) := by decide +kernel
theorem dL_law_117 : decode cL_law 117 = .ok (.aload_n 3, 1) := by decide +kernel
theorem dL_law_118 : decode cL_law 118 = .ok (.aload 4, 2) := by decide +kernel
theorem dL_law_120 : decode cL_law 120 = .ok (.aload 5, 2) := by decide +kernel
theorem dL_law_122 : decode cL_law 122 = .ok (.aload 6, 2) := by decide +kernel
theorem dL_law_124 : decode cL_law 124 = .ok (.aload_n 0, 1) := by decide +kernel
theorem dL_law_125 : decode cL_law 125 = .ok (.iconst 2, 1) := by decide +kernel
theorem dL_law_126 : decode cL_law 126 = .ok (.invokestatic 211, 3) := by decide +kernel
theorem dL_law_129 : decode cL_law 129 = .ok (.iconst 1, 1) := by decide +kernel
theorem dL_law_130 : decode cL_law 130 = .ok (.ior, 1) := by decide +kernel
theorem dL_law_131 : decode cL_law 131 = .ok (.aload_n 0, 1) := by decide +kernel
theorem dL_law_132 : decode cL_law 132 = .ok (.iconst 3, 1) := by decide +kernel
theorem dL_law_133 : decode cL_law 133 = .ok (.iload 11, 2) := by decide +kernel
theorem dL_law_135 : decode cL_law 135 = .ok (.iadd, 1) := by decide +kernel
theorem dL_law_136 : decode cL_law 136 = .ok (.invokestatic 211, 3) := by decide +kernel
theorem dL_law_139 : decode cL_law 139 = .ok (.invokestatic 182, 3) := by decide +kernel
theorem dL_law_142 : decode cL_law 142 = .ok (.istore 10, 2) := by decide +kernel
theorem dL_law_144 : decode cL_law 144 = .ok (.iinc 11 1, 3) := by decide +kernel
theorem dL_law_147 : decode cL_law 147 = .ok (.goto (-43), 3) := by decide +kernel
theorem dL_law_150 : decode cL_law 150 = .ok (.iconst 3, 1) := by decide +kernel
theorem dL_law_151 : decode cL_law 151 = .ok (.istore 11, 2) := by decide +kernel
theorem dL_law_153 : decode cL_law 153 = .ok (.iload 11, 2) := by decide +kernel
theorem dL_law_155 : decode cL_law 155 = .ok (.bipush 60, 2) := by decide +kernel
theorem dL_law_157 : decode cL_law 157 = .ok (.if_icmp .ge 52, 3) := by decide +kernel
theorem dL_law_160 : decode cL_law 160 = .ok (.iload 10, 2) := by decide +kernel
theorem dL_law_162 : decode cL_law 162 = .ok (.ifCond .eq 47, 3) := by decide +kernel
theorem dL_law_165 : decode cL_law 165 = .ok (.aload_n 1, 1) := by decide +kernel
theorem dL_law_166 : decode cL_law 166 = .ok (.aload_n 2, 1) := by decide +kernel
theorem dL_law_167 : decode cL_law 167 = .ok (.aload_n 3, 1) := by decide +kernel
theorem dL_law_168 : decode cL_law 168 = .ok (.aload 4, 2) := by decide +kernel
theorem dL_law_170 : decode cL_law 170 = .ok (.aload 5, 2) := by decide +kernel
theorem dL_law_172 : decode cL_law 172 = .ok (.aload 6, 2) := by decide +kernel
theorem dL_law_174 : decode cL_law 174 = .ok (.aload 7, 2) := by decide +kernel
theorem dL_law_176 : decode cL_law 176 = .ok (.aload 8, 2) := by decide +kernel
theorem dL_law_178 : decode cL_law 178 = .ok (.aload 9, 2) := by decide +kernel
theorem dL_law_180 : decode cL_law 180 = .ok (.aload_n 0, 1) := by decide +kernel
theorem dL_law_181 : decode cL_law 181 = .ok (.iconst 2, 1) := by decide +kernel
theorem dL_law_182 : decode cL_law 182 = .ok (.iload 11, 2) := by decide +kernel
theorem dL_law_184 : decode cL_law 184 = .ok (.imul, 1) := by decide +kernel
theorem dL_law_185 : decode cL_law 185 = .ok (.invokestatic 211, 3) := by decide +kernel
theorem dL_law_188 : decode cL_law 188 = .ok (.aload_n 0, 1) := by decide +kernel
theorem dL_law_189 : decode cL_law 189 = .ok (.iconst 2, 1) := by decide +kernel
theorem dL_law_190 : decode cL_law 190 = .ok (.iload 11, 2) := by decide +kernel
theorem dL_law_192 : decode cL_law 192 = .ok (.imul, 1) := by decide +kernel
theorem dL_law_193 : decode cL_law 193 = .ok (.iconst 1, 1) := by decide +kernel
theorem dL_law_194 : decode cL_law 194 = .ok (.iadd, 1) := by decide +kernel
theorem dL_law_195 : decode cL_law 195 = .ok (.invokestatic 211, 3) := by decide +kernel
theorem dL_law_198 : decode cL_law 198 = .ok (.invokestatic 215, 3) := by decide +kernel
theorem dL_law_201 : decode cL_law 201 = .ok (.istore 10, 2) := by decide +kernel
theorem dL_law_203 : decode cL_law 203 = .ok (.iinc 11 1, 3) := by decide +kernel
theorem dL_law_206 : decode cL_law 206 = .ok (.goto (-53), 3) := by decide +kernel
theorem dL_law_209 : decode cL_law 209 = .ok (.iload 10, 2) := by decide +kernel
theorem dL_law_211 : decode cL_law 211 = .ok (.ifCond .eq 43, 3) := by decide +kernel
theorem dL_law_214 : decode cL_law 214 = .ok (.aload_n 1, 1) := by decide +kernel
theorem dL_law_215 : decode cL_law 215 = .ok (.aload_n 2, 1) := by decide +kernel
theorem dL_law_216 : decode cL_law 216 = .ok (.aload_n 3, 1) := by decide +kernel
theorem dL_law_217 : decode cL_law 217 = .ok (.aload 4, 2) := by decide +kernel
theorem dL_law_219 : decode cL_law 219 = .ok (.aload 6, 2) := by decide +kernel
theorem dL_law_221 : decode cL_law 221 = .ok (.invokestatic 199, 3) := by decide +kernel
theorem dL_law_224 : decode cL_law 224 = .ok (.ifCond .eq 30, 3) := by decide +kernel
theorem dL_law_227 : decode cL_law 227 = .ok (.aload_n 1, 1) := by decide +kernel
theorem dL_law_228 : decode cL_law 228 = .ok (.aload_n 2, 1) := by decide +kernel
theorem dL_law_229 : decode cL_law 229 = .ok (.aload_n 3, 1) := by decide +kernel
theorem dL_law_230 : decode cL_law 230 = .ok (.aload 4, 2) := by decide +kernel
theorem dL_law_232 : decode cL_law 232 = .ok (.aload 7, 2) := by decide +kernel
theorem dL_law_234 : decode cL_law 234 = .ok (.invokestatic 203, 3) := by decide +kernel
theorem dL_law_237 : decode cL_law 237 = .ok (.ifCond .eq 17, 3) := by decide +kernel
theorem dL_law_240 : decode cL_law 240 = .ok (.aload_n 1, 1) := by decide +kernel
theorem dL_law_241 : decode cL_law 241 = .ok (.aload_n 2, 1) := by decide +kernel
theorem dL_law_242 : decode cL_law 242 = .ok (.aload 4, 2) := by decide +kernel
theorem dL_law_244 : decode cL_law 244 = .ok (.invokestatic 206, 3) := by decide +kernel
theorem dL_law_247 : decode cL_law 247 = .ok (.ifCond .eq 7, 3) := by decide +kernel
theorem dL_law_250 : decode cL_law 250 = .ok (.iconst 1, 1) := by decide +kernel
theorem dL_law_251 : decode cL_law 251 = .ok (.goto 4, 3) := by decide +kernel
theorem dL_law_254 : decode cL_law 254 = .ok (.iconst 0, 1) := by decide +kernel
theorem dL_law_255 : decode cL_law 255 = .ok (.ireturn, 1) := by decide +kernel
