theorem dX10_init_0 : decode cX10_init 0 = .ok (.aload_n 0, 1) := by decide +kernel
theorem dX10_init_1 : decode cX10_init 1 = .ok (.invokespecial 1, 3) := by decide +kernel
theorem dX10_init_4 : decode cX10_init 4 = .ok (.aload_n 0, 1) := by decide +kernel
theorem dX10_init_5 : decode cX10_init 5 = .ok (.sipush 1442, 3) := by decide +kernel
theorem dX10_init_8 : decode cX10_init 8 = .ok (.newarray .int, 2) := by decide +kernel
theorem dX10_init_10 : decode cX10_init 10 = .ok (.putfield 9, 3) := by decide +kernel
theorem dX10_init_13 : decode cX10_init 13 = .ok (.aload_n 0, 1) := by decide +kernel
theorem dX10_init_14 : decode cX10_init 14 = .ok (.sipush 1442, 3) := by decide +kernel
theorem dX10_init_17 : decode cX10_init 17 = .ok (.newarray .int, 2) := by decide +kernel
theorem dX10_init_19 : decode cX10_init 19 = .ok (.putfield 13, 3) := by decide +kernel
theorem dX10_init_22 : decode cX10_init 22 = .ok (.aload_n 0, 1) := by decide +kernel
theorem dX10_init_23 : decode cX10_init 23 = .ok (.sipush 1442, 3) := by decide +kernel
theorem dX10_init_26 : decode cX10_init 26 = .ok (.newarray .int, 2) := by decide +kernel
theorem dX10_init_28 : decode cX10_init 28 = .ok (.putfield 16, 3) := by decide +kernel
theorem dX10_init_31 : decode cX10_init 31 = .ok (.aload_n 0, 1) := by decide +kernel
theorem dX10_init_32 : decode cX10_init 32 = .ok (.iconst (-1), 1) := by decide +kernel
theorem dX10_init_33 : decode cX10_init 33 = .ok (.putfield 19, 3) := by decide +kernel
theorem dX10_init_36 : decode cX10_init 36 = .ok (.aload_n 0, 1) := by decide +kernel
theorem dX10_init_37 : decode cX10_init 37 = .ok (.bipush 8, 2) := by decide +kernel
theorem dX10_init_39 : decode cX10_init 39 = .ok (.newarray .int, 2) := by decide +kernel
theorem dX10_init_41 : decode cX10_init 41 = .ok (.putfield 23, 3) := by decide +kernel
theorem dX10_init_44 : decode cX10_init 44 = .ok (.aload_n 0, 1) := by decide +kernel
theorem dX10_init_45 : decode cX10_init 45 = .ok (.bipush 10, 2) := by decide +kernel
theorem dX10_init_47 : decode cX10_init 47 = .ok (.newarray .int, 2) := by decide +kernel
theorem dX10_init_49 : decode cX10_init 49 = .ok (.putfield 26, 3) := by decide +kernel
theorem dX10_init_52 : decode cX10_init 52 = .ok (.aload_n 0, 1) := by decide +kernel
theorem dX10_init_53 : decode cX10_init 53 = .ok (.bipush 10, 2) := by decide +kernel
theorem dX10_init_55 : decode cX10_init 55 = .ok (.newarray .boolean, 2) := by decide +kernel
theorem dX10_init_57 : decode cX10_init 57 = .ok (.putfield 29, 3) := by decide +kernel
theorem dX10_init_60 : decode cX10_init 60 = .ok (.aload_n 0, 1) := by decide +kernel
theorem dX10_init_61 : decode cX10_init 61 = .ok (.bipush 70, 2) := by decide +kernel
theorem dX10_init_63 : decode cX10_init 63 = .ok (.newarray .int, 2) := by decide +kernel
theorem dX10_init_65 : decode cX10_init 65 = .ok (.putfield 33, 3) := by decide +kernel
theorem dX10_init_68 : decode cX10_init 68 = .ok (.aload_n 0, 1) := by decide +kernel
theorem dX10_init_69 : decode cX10_init 69 = .ok (.bipush 96, 2) := by decide +kernel
theorem dX10_init_71 : decode cX10_init 71 = .ok (.newarray .int, 2) := by decide +kernel
theorem dX10_init_73 : decode cX10_init 73 = .ok (.putfield 36, 3) := by decide +kernel
theorem dX10_init_76 : decode cX10_init 76 = .ok (.aload_n 0, 1) := by decide +kernel
theorem dX10_init_77 : decode cX10_init 77 = .ok (.bipush 12, 2) := by decide +kernel
theorem dX10_init_79 : decode cX10_init 79 = .ok (.newarray .char, 2) := by decide +kernel
theorem dX10_init_81 : decode cX10_init 81 = .ok (.dup, 1) := by decide +kernel
theorem dX10_init_82 : decode cX10_init 82 = .ok (.iconst 0, 1) := by decide +kernel
theorem dX10_init_83 : decode cX10_init 83 = .ok (.bipush 108, 2) := by decide +kernel
theorem dX10_init_85 : decode cX10_init 85 = .ok (.castore, 1) := by decide +kernel
theorem dX10_init_86 : decode cX10_init 86 = .ok (.dup, 1) := by decide +kernel
theorem dX10_init_87 : decode cX10_init 87 = .ok (.iconst 1, 1) := by decide +kernel
theorem dX10_init_88 : decode cX10_init 88 = .ok (.bipush 105, 2) := by decide +kernel
theorem dX10_init_90 : decode cX10_init 90 = .ok (.castore, 1) := by decide +kernel
theorem dX10_init_91 : decode cX10_init 91 = .ok (.dup, 1) := by decide +kernel
theorem dX10_init_92 : decode cX10_init 92 = .ok (.iconst 2, 1) := by decide +kernel
theorem dX10_init_93 : decode cX10_init 93 = .ok (.bipush 107, 2) := by decide +kernel
theorem dX10_init_95 : decode cX10_init 95 = .ok (.castore, 1) := by decide +kernel
theorem dX10_init_96 : decode cX10_init 96 = .ok (.dup, 1) := by decide +kernel
theorem dX10_init_97 : decode cX10_init 97 = .ok (.iconst 3, 1) := by decide +kernel
theorem dX10_init_98 : decode cX10_init 98 = .ok (.bipush 101, 2) := by decide +kernel
theorem dX10_init_100 : decode cX10_init 100 = .ok (.castore, 1) := by decide +kernel
theorem dX10_init_101 : decode cX10_init 101 = .ok (.dup, 1) := by decide +kernel
theorem dX10_init_102 : decode cX10_init 102 = .ok (.iconst 4, 1) := by decide +kernel
theorem dX10_init_103 : decode cX10_init 103 = .ok (.bipush 115, 2) := by decide +kernel
theorem dX10_init_105 : decode cX10_init 105 = .ok (.castore, 1) := by decide +kernel
theorem dX10_init_106 : decode cX10_init 106 = .ok (.dup, 1) := by decide +kernel
theorem dX10_init_107 : decode cX10_init 107 = .ok (.iconst 5, 1) := by decide +kernel
theorem dX10_init_108 : decode cX10_init 108 = .ok (.bipush 101, 2) := by decide +kernel
theorem dX10_init_110 : decode cX10_init 110 = .ok (.castore, 1) := by decide +kernel
theorem dX10_init_111 : decode cX10_init 111 = .ok (.dup, 1) := by decide +kernel
theorem dX10_init_112 : decode cX10_init 112 = .ok (.bipush 6, 2) := by decide +kernel
theorem dX10_init_114 : decode cX10_init 114 = .ok (.bipush 97, 2) := by decide +kernel
theorem dX10_init_116 : decode cX10_init 116 = .ok (.castore, 1) := by decide +kernel
theorem dX10_init_117 : decode cX10_init 117 = .ok (.dup, 1) := by decide +kernel
theorem dX10_init_118 : decode cX10_init 118 = .ok (.bipush 7, 2) := by decide +kernel
theorem dX10_init_120 : decode cX10_init 120 = .ok (.bipush 116, 2) := by decide +kernel
theorem dX10_init_122 : decode cX10_init 122 = .ok (.castore, 1) := by decide +kernel
theorem dX10_init_123 : decode cX10_init 123 = .ok (.dup, 1) := by decide +kernel
theorem dX10_init_124 : decode cX10_init 124 = .ok (.bipush 8, 2) := by decide +kernel
theorem dX10_init_126 : decode cX10_init 126 = .ok (.bipush 102, 2) := by decide +kernel
theorem dX10_init_128 : decode cX10_init 128 = .ok (.castore, 1) := by decide +kernel
theorem dX10_init_129 : decode cX10_init 129 = .ok (.dup, 1) := by decide +kernel
theorem dX10_init_130 : decode cX10_init 130 = .ok (.bipush 9, 2) := by decide +kernel
theorem dX10_init_132 : decode cX10_init 132 = .ok (.bipush 105, 2) := by decide +kernel
theorem dX10_init_134 : decode cX10_init 134 = .ok (.castore, 1) := by decide +kernel
theorem dX10_init_135 : decode cX10_init 135 = .ok (.dup, 1) := by decide +kernel
theorem dX10_init_136 : decode cX10_init 136 = .ok (.bipush 10, 2) := by decide +kernel
theorem dX10_init_138 : decode cX10_init 138 = .ok (.bipush 110, 2) := by decide +kernel
theorem dX10_init_140 : decode cX10_init 140 = .ok (.castore, 1) := by decide +kernel
theorem dX10_init_141 : decode cX10_init 141 = .ok (.dup, 1) := by decide +kernel
theorem dX10_init_142 : decode cX10_init 142 = .ok (.bipush 11, 2) := by decide +kernel
theorem dX10_init_144 : decode cX10_init 144 = .ok (.bipush 101, 2) := by decide +kernel
theorem dX10_init_146 : decode cX10_init 146 = .ok (.castore, 1) := by decide +kernel
theorem dX10_init_147 : decode cX10_init 147 = .ok (.putfield 39, 3) := by decide +kernel
theorem dX10_init_150 : decode cX10_init 150 = .ok (.aload_n 0, 1) := by decide +kernel
theorem dX10_init_151 : decode cX10_init 151 = .ok (.iconst 4, 1) := by decide +kernel
theorem dX10_init_152 : decode cX10_init 152 = .ok (.newarray .int, 2) := by decide +kernel
theorem dX10_init_154 : decode cX10_init 154 = .ok (.dup, 1) := by decide +kernel
theorem dX10_init_155 : decode cX10_init 155 = .ok (.iconst 0, 1) := by decide +kernel
theorem dX10_init_156 : decode cX10_init 156 = .ok (.iconst 0, 1) := by decide +kernel
theorem dX10_init_157 : decode cX10_init 157 = .ok (.iastore, 1) := by decide +kernel
theorem dX10_init_158 : decode cX10_init 158 = .ok (.dup, 1) := by decide +kernel
theorem dX10_init_159 : decode cX10_init 159 = .ok (.iconst 1, 1) := by decide +kernel
theorem dX10_init_160 : decode cX10_init 160 = .ok (.iconst 4, 1) := by decide +kernel
theorem dX10_init_161 : decode cX10_init 161 = .ok (.iastore, 1) := by decide +kernel
theorem dX10_init_162 : decode cX10_init 162 = .ok (.dup, 1) := by decide +kernel
theorem dX10_init_163 : decode cX10_init 163 = .ok (.iconst 2, 1) := by decide +kernel
theorem dX10_init_164 : decode cX10_init 164 = .ok (.bipush 8, 2) := by decide +kernel
theorem dX10_init_166 : decode cX10_init 166 = .ok (.iastore, 1) := by decide +kernel
theorem dX10_init_167 : decode cX10_init 167 = .ok (.dup, 1) := by decide +kernel
theorem dX10_init_168 : decode cX10_init 168 = .ok (.iconst 3, 1) := by decide +kernel
theorem dX10_init_169 : decode cX10_init 169 = .ok (.bipush 12, 2) := by decide +kernel
theorem dX10_init_171 : decode cX10_init 171 = .ok (.iastore, 1) := by decide +kernel
theorem dX10_init_172 : decode cX10_init 172 = .ok (.putfield 43, 3) := by decide +kernel
theorem dX10_init_175 : decode cX10_init 175 = .ok (.aload_n 0, 1) := by decide +kernel
theorem dX10_init_176 : decode cX10_init 176 = .ok (.bipush 96, 2) := by decide +kernel
theorem dX10_init_178 : decode cX10_init 178 = .ok (.newarray .int, 2) := by decide +kernel
theorem dX10_init_180 : decode cX10_init 180 = .ok (.putfield 46, 3) := by decide +kernel
theorem dX10_init_183 : decode cX10_init 183 = .ok (.aload_n 0, 1) := by decide +kernel
theorem dX10_init_184 : decode cX10_init 184 = .ok (.bipush 96, 2) := by decide +kernel
theorem dX10_init_186 : decode cX10_init 186 = .ok (.newarray .int, 2) := by decide +kernel
theorem dX10_init_188 : decode cX10_init 188 = .ok (.putfield 49, 3) := by decide +kernel
theorem dX10_init_191 : decode cX10_init 191 = .ok (.aload_n 0, 1) := by decide +kernel
theorem dX10_init_192 : decode cX10_init 192 = .ok (.bipush 10, 2) := by decide +kernel
theorem dX10_init_194 : decode cX10_init 194 = .ok (.newarray .boolean, 2) := by decide +kernel
theorem dX10_init_196 : decode cX10_init 196 = .ok (.putfield 52, 3) := by decide +kernel
theorem dX10_init_199 : decode cX10_init 199 = .ok (.aload_n 0, 1) := by decide +kernel
theorem dX10_init_200 : decode cX10_init 200 = .ok (.bipush 96, 2) := by decide +kernel
theorem dX10_init_202 : decode cX10_init 202 = .ok (.newarray .int, 2) := by decide +kernel
theorem dX10_init_204 : decode cX10_init 204 = .ok (.putfield 55, 3) := by decide +kernel
theorem dX10_init_207 : decode cX10_init 207 = .ok (.aload_n 0, 1) := by decide +kernel
theorem dX10_init_208 : decode cX10_init 208 = .ok (.iconst 4, 1) := by decide +kernel
theorem dX10_init_209 : decode cX10_init 209 = .ok (.newarray .int, 2) := by decide +kernel
theorem dX10_init_211 : decode cX10_init 211 = .ok (.putfield 58, 3) := by decide +kernel
theorem dX10_init_214 : decode cX10_init 214 = .ok (.aload_n 0, 1) := by decide +kernel
theorem dX10_init_215 : decode cX10_init 215 = .ok (.iconst 4, 1) := by decide +kernel
theorem dX10_init_216 : decode cX10_init 216 = .ok (.newarray .int, 2) := by decide +kernel
theorem dX10_init_218 : decode cX10_init 218 = .ok (.dup, 1) := by decide +kernel
theorem dX10_init_219 : decode cX10_init 219 = .ok (.iconst 0, 1) := by decide +kernel
theorem dX10_init_220 : decode cX10_init 220 = .ok (.iconst (-1), 1) := by decide +kernel
theorem dX10_init_221 : decode cX10_init 221 = .ok (.iastore, 1) := by decide +kernel
theorem dX10_init_222 : decode cX10_init 222 = .ok (.dup, 1) := by decide +kernel
theorem dX10_init_223 : decode cX10_init 223 = .ok (.iconst 1, 1) := by decide +kernel
theorem dX10_init_224 : decode cX10_init 224 = .ok (.iconst (-1), 1) := by decide +kernel
theorem dX10_init_225 : decode cX10_init 225 = .ok (.iastore, 1) := by decide +kernel
theorem dX10_init_226 : decode cX10_init 226 = .ok (.dup, 1) := by decide +kernel
theorem dX10_init_227 : decode cX10_init 227 = .ok (.iconst 2, 1) := by decide +kernel
theorem dX10_init_228 : decode cX10_init 228 = .ok (.iconst (-1), 1) := by decide +kernel
theorem dX10_init_229 : decode cX10_init 229 = .ok (.iastore, 1) := by decide +kernel
theorem dX10_init_230 : decode cX10_init 230 = .ok (.dup, 1) := by decide +kernel
theorem dX10_init_231 : decode cX10_init 231 = .ok (.iconst 3, 1) := by decide +kernel
theorem dX10_init_232 : decode cX10_init 232 = .ok (.iconst (-1), 1) := by decide +kernel
theorem dX10_init_233 : decode cX10_init 233 = .ok (.iastore, 1) := by decide +kernel
theorem dX10_init_234 : decode cX10_init 234 = .ok (.putfield 61, 3) := by decide +kernel
theorem dX10_init_237 : decode cX10_init 237 = .ok (.aload_n 0, 1) := by decide +kernel
theorem dX10_init_238 : decode cX10_init 238 = .ok (.iconst 4, 1) := by decide +kernel
theorem dX10_init_239 : decode cX10_init 239 = .ok (.newarray .int, 2) := by decide +kernel
theorem dX10_init_241 : decode cX10_init 241 = .ok (.putfield 64, 3) := by decide +kernel
theorem dX10_init_244 : decode cX10_init 244 = .ok (.aload_n 0, 1) := by decide +kernel
theorem dX10_init_245 : decode cX10_init 245 = .ok (.bipush 96, 2) := by decide +kernel
theorem dX10_init_247 : decode cX10_init 247 = .ok (.newarray .int, 2) := by decide +kernel
theorem dX10_init_249 : decode cX10_init 249 = .ok (.putfield 67, 3) := by decide +kernel
theorem dX10_init_252 : decode cX10_init 252 = .ok (.aload_n 0, 1) := by decide +kernel
theorem dX10_init_253 : decode cX10_init 253 = .ok (.iconst 5, 1) := by decide +kernel
theorem dX10_init_254 : decode cX10_init 254 = .ok (.newarray .int, 2) := by decide +kernel
theorem dX10_init_256 : decode cX10_init 256 = .ok (.putfield 70, 3) := by decide +kernel
theorem dX10_init_259 : decode cX10_init 259 = .ok (.aload_n 0, 1) := by decide +kernel
theorem dX10_init_260 : decode cX10_init 260 = .ok (.iconst 5, 1) := by decide +kernel
theorem dX10_init_261 : decode cX10_init 261 = .ok (.newarray .int, 2) := by decide +kernel
theorem dX10_init_263 : decode cX10_init 263 = .ok (.putfield 73, 3) := by decide +kernel
theorem dX10_init_266 : decode cX10_init 266 = .ok (.aload_n 0, 1) := by decide +kernel
theorem dX10_init_267 : decode cX10_init 267 = .ok (.iconst 5, 1) := by decide +kernel
theorem dX10_init_268 : decode cX10_init 268 = .ok (.newarray .int, 2) := by decide +kernel
theorem dX10_init_270 : decode cX10_init 270 = .ok (.putfield 76, 3) := by decide +kernel
theorem dX10_init_273 : decode cX10_init 273 = .ok (.aload_n 0, 1) := by decide +kernel
theorem dX10_init_274 : decode cX10_init 274 = .ok (.bipush 120, 2) := by decide +kernel
theorem dX10_init_276 : decode cX10_init 276 = .ok (.newarray .int, 2) := by decide +kernel
theorem dX10_init_278 : decode cX10_init 278 = .ok (.putfield 79, 3) := by decide +kernel
theorem dX10_init_281 : decode cX10_init 281 = .ok (.aload_n 0, 1) := by decide +kernel
theorem dX10_init_282 : decode cX10_init 282 = .ok (.bipush 24, 2) := by decide +kernel
theorem dX10_init_284 : decode cX10_init 284 = .ok (.newarray .int, 2) := by decide +kernel
theorem dX10_init_286 : decode cX10_init 286 = .ok (.putfield 82, 3) := by decide +kernel
theorem dX10_init_289 : decode cX10_init 289 = .ok (.aload_n 0, 1) := by decide +kernel
theorem dX10_init_290 : decode cX10_init 290 = .ok (.bipush 60, 2) := by decide +kernel
theorem dX10_init_292 : decode cX10_init 292 = .ok (.newarray .int, 2) := by decide +kernel
theorem dX10_init_294 : decode cX10_init 294 = .ok (.putfield 85, 3) := by decide +kernel
theorem dX10_init_297 : decode cX10_init 297 = .ok (.aload_n 0, 1) := by decide +kernel
theorem dX10_init_298 : decode cX10_init 298 = .ok (.getfield 9, 3) := by decide +kernel
theorem dX10_init_301 : decode cX10_init 301 = .ok (.iconst 0, 1) := by decide +kernel
theorem dX10_init_302 : decode cX10_init 302 = .ok (.iconst 1, 1) := by decide +kernel
theorem dX10_init_303 : decode cX10_init 303 = .ok (.iastore, 1) := by decide +kernel
theorem dX10_init_304 : decode cX10_init 304 = .ok (.aload_n 0, 1) := by decide +kernel
theorem dX10_init_305 : decode cX10_init 305 = .ok (.getfield 9, 3) := by decide +kernel
theorem dX10_init_308 : decode cX10_init 308 = .ok (.iconst 4, 1) := by decide +kernel
theorem dX10_init_309 : decode cX10_init 309 = .ok (.bipush 10, 2) := by decide +kernel
theorem dX10_init_311 : decode cX10_init 311 = .ok (.iastore, 1) := by decide +kernel
theorem dX10_init_312 : decode cX10_init 312 = .ok (.aload_n 0, 1) := by decide +kernel
theorem dX10_init_313 : decode cX10_init 313 = .ok (.getfield 9, 3) := by decide +kernel
theorem dX10_init_316 : decode cX10_init 316 = .ok (.iconst 5, 1) := by decide +kernel
theorem dX10_init_317 : decode cX10_init 317 = .ok (.bipush 30, 2) := by decide +kernel
theorem dX10_init_319 : decode cX10_init 319 = .ok (.iastore, 1) := by decide +kernel
theorem dX10_init_320 : decode cX10_init 320 = .ok (.aload_n 0, 1) := by decide +kernel
theorem dX10_init_321 : decode cX10_init 321 = .ok (.getfield 9, 3) := by decide +kernel
theorem dX10_init_324 : decode cX10_init 324 = .ok (.bipush 6, 2) := by decide +kernel
theorem dX10_init_326 : decode cX10_init 326 = .ok (.bipush 20, 2) := by decide +kernel
theorem dX10_init_328 : decode cX10_init 328 = .ok (.iastore, 1) := by decide +kernel
theorem dX10_init_329 : decode cX10_init 329 = .ok (.return_, 1) := by decide +kernel
theorem dX10_in_0 : decode cX10_in 0 = .ok (.iload_n 0, 1) := by decide +kernel
theorem dX10_in_1 : decode cX10_in 1 = .ok (.iload_n 1, 1) := by decide +kernel
theorem dX10_in_2 : decode cX10_in 2 = .ok (.if_icmp .lt 12, 3) := by decide +kernel
theorem dX10_in_5 : decode cX10_in 5 = .ok (.iload_n 0, 1) := by decide +kernel
theorem dX10_in_6 : decode cX10_in 6 = .ok (.iload_n 2, 1) := by decide +kernel
theorem dX10_in_7 : decode cX10_in 7 = .ok (.if_icmp .gt 7, 3) := by decide +kernel
theorem dX10_in_10 : decode cX10_in 10 = .ok (.iconst 1, 1) := by decide +kernel
theorem dX10_in_11 : decode cX10_in 11 = .ok (.goto 4, 3) := by decide +kernel
theorem dX10_in_14 : decode cX10_in 14 = .ok (.iconst 0, 1) := by decide +kernel
theorem dX10_in_15 : decode cX10_in 15 = .ok (.ireturn, 1) := by decide +kernel
theorem dX10_within_0 : decode cX10_within 0 = .ok (.iload_n 0, 1) := by decide +kernel
theorem dX10_within_1 : decode cX10_within 1 = .ok (.iload_n 1, 1) := by decide +kernel
theorem dX10_within_2 : decode cX10_within 2 = .ok (.if_icmp .ge 7, 3) := by decide +kernel
theorem dX10_within_5 : decode cX10_within 5 = .ok (.iload_n 1, 1) := by decide +kernel
theorem dX10_within_6 : decode cX10_within 6 = .ok (.goto 13, 3) := by decide +kernel
theorem dX10_within_9 : decode cX10_within 9 = .ok (.iload_n 0, 1) := by decide +kernel
theorem dX10_within_10 : decode cX10_within 10 = .ok (.iload_n 2, 1) := by decide +kernel
theorem dX10_within_11 : decode cX10_within 11 = .ok (.if_icmp .le 7, 3) := by decide +kernel
theorem dX10_within_14 : decode cX10_within 14 = .ok (.iload_n 2, 1) := by decide +kernel
theorem dX10_within_15 : decode cX10_within 15 = .ok (.goto 4, 3) := by decide +kernel
theorem dX10_within_18 : decode cX10_within 18 = .ok (.iload_n 0, 1) := by decide +kernel
theorem dX10_within_19 : decode cX10_within 19 = .ok (.ireturn, 1) := by decide +kernel
theorem dX10_copyAll_0 : decode cX10_copyAll 0 = .ok (.iconst 0, 1) := by decide +kernel
theorem dX10_copyAll_1 : decode cX10_copyAll 1 = .ok (.istore_n 2, 1) := by decide +kernel
theorem dX10_copyAll_2 : decode cX10_copyAll 2 = .ok (.iload_n 2, 1) := by decide +kernel
theorem dX10_copyAll_3 : decode cX10_copyAll 3 = .ok (.sipush 1442, 3) := by decide +kernel
theorem dX10_copyAll_6 : decode cX10_copyAll 6 = .ok (.if_icmp .ge 15, 3) := by decide +kernel
theorem dX10_copyAll_9 : decode cX10_copyAll 9 = .ok (.aload_n 1, 1) := by decide +kernel
theorem dX10_copyAll_10 : decode cX10_copyAll 10 = .ok (.iload_n 2, 1) := by decide +kernel
theorem dX10_copyAll_11 : decode cX10_copyAll 11 = .ok (.aload_n 0, 1) := by decide +kernel
theorem dX10_copyAll_12 : decode cX10_copyAll 12 = .ok (.iload_n 2, 1) := by decide +kernel
theorem dX10_copyAll_13 : decode cX10_copyAll 13 = .ok (.iaload, 1) := by decide +kernel
theorem dX10_copyAll_14 : decode cX10_copyAll 14 = .ok (.iastore, 1) := by decide +kernel
theorem dX10_copyAll_15 : decode cX10_copyAll 15 = .ok (.iinc 2 1, 3) := by decide +kernel
theorem dX10_copyAll_18 : decode cX10_copyAll 18 = .ok (.goto (-16), 3) := by decide +kernel
theorem dX10_copyAll_21 : decode cX10_copyAll 21 = .ok (.return_, 1) := by decide +kernel
theorem dX10_told0_0 : decode cX10_told0 0 = .ok (.iload_n 0, 1) := by decide +kernel
theorem dX10_told0_1 : decode cX10_told0 1 = .ok (.ifCond .ge 8, 3) := by decide +kernel
theorem dX10_told0_4 : decode cX10_told0 4 = .ok (.ldc 88, 2) := by decide +kernel
theorem dX10_told0_6 : decode cX10_told0 6 = .ok (.goto 4, 3) := by decide +kernel
theorem dX10_told0_9 : decode cX10_told0 9 = .ok (.iload_n 0, 1) := by decide +kernel
theorem dX10_told0_10 : decode cX10_told0 10 = .ok (.ireturn, 1) := by decide +kernel
theorem dX10_isChimney_0 : decode cX10_isChimney 0 = .ok (.iload_n 1, 1) := by decide +kernel
theorem dX10_isChimney_1 : decode cX10_isChimney 1 = .ok (.iconst 0, 1) := by decide +kernel
theorem dX10_isChimney_2 : decode cX10_isChimney 2 = .ok (.aload_n 0, 1) := by decide +kernel
theorem dX10_isChimney_3 : decode cX10_isChimney 3 = .ok (.getfield 9, 3) := by decide +kernel
theorem dX10_isChimney_6 : decode cX10_isChimney 6 = .ok (.iconst 1, 1) := by decide +kernel
theorem dX10_isChimney_7 : decode cX10_isChimney 7 = .ok (.iaload, 1) := by decide +kernel
theorem dX10_isChimney_8 : decode cX10_isChimney 8 = .ok (.iconst 1, 1) := by decide +kernel
theorem dX10_isChimney_9 : decode cX10_isChimney 9 = .ok (.isub, 1) := by decide +kernel
theorem dX10_isChimney_10 : decode cX10_isChimney 10 = .ok (.invokestatic 89, 3) := by decide +kernel
theorem dX10_isChimney_13 : decode cX10_isChimney 13 = .ok (.ireturn, 1) := by decide +kernel
theorem dX10_isStork_0 : decode cX10_isStork 0 = .ok (.iload_n 1, 1) := by decide +kernel
theorem dX10_isStork_1 : decode cX10_isStork 1 = .ok (.iconst 0, 1) := by decide +kernel
theorem dX10_isStork_2 : decode cX10_isStork 2 = .ok (.aload_n 0, 1) := by decide +kernel
theorem dX10_isStork_3 : decode cX10_isStork 3 = .ok (.getfield 9, 3) := by decide +kernel
theorem dX10_isStork_6 : decode cX10_isStork 6 = .ok (.iconst 2, 1) := by decide +kernel
theorem dX10_isStork_7 : decode cX10_isStork 7 = .ok (.iaload, 1) := by decide +kernel
theorem dX10_isStork_8 : decode cX10_isStork 8 = .ok (.iconst 1, 1) := by decide +kernel
theorem dX10_isStork_9 : decode cX10_isStork 9 = .ok (.isub, 1) := by decide +kernel
theorem dX10_isStork_10 : decode cX10_isStork 10 = .ok (.invokestatic 89, 3) := by decide +kernel
theorem dX10_isStork_13 : decode cX10_isStork 13 = .ok (.ireturn, 1) := by decide +kernel
theorem dX10_isWard_0 : decode cX10_isWard 0 = .ok (.iload_n 0, 1) := by decide +kernel
theorem dX10_isWard_1 : decode cX10_isWard 1 = .ok (.iconst 0, 1) := by decide +kernel
theorem dX10_isWard_2 : decode cX10_isWard 2 = .ok (.iconst 3, 1) := by decide +kernel
theorem dX10_isWard_3 : decode cX10_isWard 3 = .ok (.invokestatic 89, 3) := by decide +kernel
theorem dX10_isWard_6 : decode cX10_isWard 6 = .ok (.ireturn, 1) := by decide +kernel
theorem dX10_of_0 : decode cX10_of 0 = .ok (.aload_n 0, 1) := by decide +kernel
theorem dX10_of_1 : decode cX10_of 1 = .ok (.getfield 9, 3) := by decide +kernel
theorem dX10_of_4 : decode cX10_of 4 = .ok (.bipush 38, 2) := by decide +kernel
theorem dX10_of_6 : decode cX10_of 6 = .ok (.iconst 4, 1) := by decide +kernel
theorem dX10_of_7 : decode cX10_of 7 = .ok (.iload_n 1, 1) := by decide +kernel
theorem dX10_of_8 : decode cX10_of 8 = .ok (.imul, 1) := by decide +kernel
theorem dX10_of_9 : decode cX10_of 9 = .ok (.iadd, 1) := by decide +kernel
theorem dX10_of_10 : decode cX10_of 10 = .ok (.iload_n 2, 1) := by decide +kernel
theorem dX10_of_11 : decode cX10_of 11 = .ok (.iadd, 1) := by decide +kernel
theorem dX10_of_12 : decode cX10_of 12 = .ok (.iaload, 1) := by decide +kernel
theorem dX10_of_13 : decode cX10_of 13 = .ok (.ireturn, 1) := by decide +kernel
theorem dX10_strong_0 : decode cX10_strong 0 = .ok (.aload_n 0, 1) := by decide +kernel
theorem dX10_strong_1 : decode cX10_strong 1 = .ok (.getfield 9, 3) := by decide +kernel
theorem dX10_strong_4 : decode cX10_strong 4 = .ok (.bipush 8, 2) := by decide +kernel
theorem dX10_strong_6 : decode cX10_strong 6 = .ok (.iconst 3, 1) := by decide +kernel
theorem dX10_strong_7 : decode cX10_strong 7 = .ok (.iload_n 1, 1) := by decide +kernel
theorem dX10_strong_8 : decode cX10_strong 8 = .ok (.imul, 1) := by decide +kernel
theorem dX10_strong_9 : decode cX10_strong 9 = .ok (.iadd, 1) := by decide +kernel
theorem dX10_strong_10 : decode cX10_strong 10 = .ok (.iaload, 1) := by decide +kernel
theorem dX10_strong_11 : decode cX10_strong 11 = .ok (.ireturn, 1) := by decide +kernel
theorem dX10_isAway_0 : decode cX10_isAway 0 = .ok (.aload_n 0, 1) := by decide +kernel
theorem dX10_isAway_1 : decode cX10_isAway 1 = .ok (.getfield 9, 3) := by decide +kernel
theorem dX10_isAway_4 : decode cX10_isAway 4 = .ok (.bipush 8, 2) := by decide +kernel
theorem dX10_isAway_6 : decode cX10_isAway 6 = .ok (.iconst 3, 1) := by decide +kernel
theorem dX10_isAway_7 : decode cX10_isAway 7 = .ok (.iload_n 1, 1) := by decide +kernel
theorem dX10_isAway_8 : decode cX10_isAway 8 = .ok (.imul, 1) := by decide +kernel
theorem dX10_isAway_9 : decode cX10_isAway 9 = .ok (.iadd, 1) := by decide +kernel
theorem dX10_isAway_10 : decode cX10_isAway 10 = .ok (.iconst 2, 1) := by decide +kernel
theorem dX10_isAway_11 : decode cX10_isAway 11 = .ok (.iadd, 1) := by decide +kernel
theorem dX10_isAway_12 : decode cX10_isAway 12 = .ok (.iaload, 1) := by decide +kernel
theorem dX10_isAway_13 : decode cX10_isAway 13 = .ok (.iconst 1, 1) := by decide +kernel
theorem dX10_isAway_14 : decode cX10_isAway 14 = .ok (.if_icmp .ne 7, 3) := by decide +kernel
theorem dX10_isAway_17 : decode cX10_isAway 17 = .ok (.iconst 1, 1) := by decide +kernel
theorem dX10_isAway_18 : decode cX10_isAway 18 = .ok (.goto 4, 3) := by decide +kernel
theorem dX10_isAway_21 : decode cX10_isAway 21 = .ok (.iconst 0, 1) := by decide +kernel
theorem dX10_isAway_22 : decode cX10_isAway 22 = .ok (.ireturn, 1) := by decide +kernel
theorem dX10_becomes_0 : decode cX10_becomes 0 = .ok (.aload_n 0, 1) := by decide +kernel
theorem dX10_becomes_1 : decode cX10_becomes 1 = .ok (.getfield 9, 3) := by decide +kernel
theorem dX10_becomes_4 : decode cX10_becomes 4 = .ok (.iload_n 1, 1) := by decide +kernel
theorem dX10_becomes_5 : decode cX10_becomes 5 = .ok (.iaload, 1) := by decide +kernel
theorem dX10_becomes_6 : decode cX10_becomes 6 = .ok (.istore_n 3, 1) := by decide +kernel
theorem dX10_becomes_7 : decode cX10_becomes 7 = .ok (.aload_n 0, 1) := by decide +kernel
theorem dX10_becomes_8 : decode cX10_becomes 8 = .ok (.getfield 9, 3) := by decide +kernel
theorem dX10_becomes_11 : decode cX10_becomes 11 = .ok (.iload_n 1, 1) := by decide +kernel
theorem dX10_becomes_12 : decode cX10_becomes 12 = .ok (.iload_n 2, 1) := by decide +kernel
theorem dX10_becomes_13 : decode cX10_becomes 13 = .ok (.iastore, 1) := by decide +kernel
theorem dX10_becomes_14 : decode cX10_becomes 14 = .ok (.iload_n 3, 1) := by decide +kernel
theorem dX10_becomes_15 : decode cX10_becomes 15 = .ok (.ireturn, 1) := by decide +kernel
theorem dX10_comes_0 : decode cX10_comes 0 = .ok (.bipush 38, 2) := by decide +kernel
theorem dX10_comes_2 : decode cX10_comes 2 = .ok (.iconst 4, 1) := by decide +kernel
theorem dX10_comes_3 : decode cX10_comes 3 = .ok (.aload_n 0, 1) := by decide +kernel
theorem dX10_comes_4 : decode cX10_comes 4 = .ok (.getfield 9, 3) := by decide +kernel
theorem dX10_comes_7 : decode cX10_comes 7 = .ok (.iconst 1, 1) := by decide +kernel
theorem dX10_comes_8 : decode cX10_comes 8 = .ok (.iaload, 1) := by decide +kernel
theorem dX10_comes_9 : decode cX10_comes 9 = .ok (.imul, 1) := by decide +kernel
theorem dX10_comes_10 : decode cX10_comes 10 = .ok (.iadd, 1) := by decide +kernel
theorem dX10_comes_11 : decode cX10_comes 11 = .ok (.istore 5, 2) := by decide +kernel
theorem dX10_comes_13 : decode cX10_comes 13 = .ok (.aload_n 0, 1) := by decide +kernel
theorem dX10_comes_14 : decode cX10_comes 14 = .ok (.getfield 9, 3) := by decide +kernel
theorem dX10_comes_17 : decode cX10_comes 17 = .ok (.iload 5, 2) := by decide +kernel
theorem dX10_comes_19 : decode cX10_comes 19 = .ok (.iload_n 1, 1) := by decide +kernel
theorem dX10_comes_20 : decode cX10_comes 20 = .ok (.iastore, 1) := by decide +kernel
theorem dX10_comes_21 : decode cX10_comes 21 = .ok (.aload_n 0, 1) := by decide +kernel
theorem dX10_comes_22 : decode cX10_comes 22 = .ok (.getfield 9, 3) := by decide +kernel
theorem dX10_comes_25 : decode cX10_comes 25 = .ok (.iload 5, 2) := by decide +kernel
theorem dX10_comes_27 : decode cX10_comes 27 = .ok (.iconst 1, 1) := by decide +kernel
theorem dX10_comes_28 : decode cX10_comes 28 = .ok (.iadd, 1) := by decide +kernel
theorem dX10_comes_29 : decode cX10_comes 29 = .ok (.iload_n 2, 1) := by decide +kernel
theorem dX10_comes_30 : decode cX10_comes 30 = .ok (.iastore, 1) := by decide +kernel
theorem dX10_comes_31 : decode cX10_comes 31 = .ok (.aload_n 0, 1) := by decide +kernel
theorem dX10_comes_32 : decode cX10_comes 32 = .ok (.getfield 9, 3) := by decide +kernel
theorem dX10_comes_35 : decode cX10_comes 35 = .ok (.iload 5, 2) := by decide +kernel
theorem dX10_comes_37 : decode cX10_comes 37 = .ok (.iconst 2, 1) := by decide +kernel
theorem dX10_comes_38 : decode cX10_comes 38 = .ok (.iadd, 1) := by decide +kernel
theorem dX10_comes_39 : decode cX10_comes 39 = .ok (.iload_n 3, 1) := by decide +kernel
theorem dX10_comes_40 : decode cX10_comes 40 = .ok (.iastore, 1) := by decide +kernel
theorem dX10_comes_41 : decode cX10_comes 41 = .ok (.aload_n 0, 1) := by decide +kernel
theorem dX10_comes_42 : decode cX10_comes 42 = .ok (.getfield 9, 3) := by decide +kernel
theorem dX10_comes_45 : decode cX10_comes 45 = .ok (.iload 5, 2) := by decide +kernel
theorem dX10_comes_47 : decode cX10_comes 47 = .ok (.iconst 3, 1) := by decide +kernel
theorem dX10_comes_48 : decode cX10_comes 48 = .ok (.iadd, 1) := by decide +kernel
theorem dX10_comes_49 : decode cX10_comes 49 = .ok (.iload 4, 2) := by decide +kernel
theorem dX10_comes_51 : decode cX10_comes 51 = .ok (.iastore, 1) := by decide +kernel
theorem dX10_comes_52 : decode cX10_comes 52 = .ok (.aload_n 0, 1) := by decide +kernel
theorem dX10_comes_53 : decode cX10_comes 53 = .ok (.getfield 9, 3) := by decide +kernel
theorem dX10_comes_56 : decode cX10_comes 56 = .ok (.iconst 1, 1) := by decide +kernel
theorem dX10_comes_57 : decode cX10_comes 57 = .ok (.dup2, 1) := by decide +kernel
theorem dX10_comes_58 : decode cX10_comes 58 = .ok (.iaload, 1) := by decide +kernel
theorem dX10_comes_59 : decode cX10_comes 59 = .ok (.iconst 1, 1) := by decide +kernel
theorem dX10_comes_60 : decode cX10_comes 60 = .ok (.iadd, 1) := by decide +kernel
theorem dX10_comes_61 : decode cX10_comes 61 = .ok (.iastore, 1) := by decide +kernel
theorem dX10_comes_62 : decode cX10_comes 62 = .ok (.aload_n 0, 1) := by decide +kernel
theorem dX10_comes_63 : decode cX10_comes 63 = .ok (.getfield 9, 3) := by decide +kernel
theorem dX10_comes_66 : decode cX10_comes 66 = .ok (.iconst 1, 1) := by decide +kernel
theorem dX10_comes_67 : decode cX10_comes 67 = .ok (.iaload, 1) := by decide +kernel
theorem dX10_comes_68 : decode cX10_comes 68 = .ok (.iconst 1, 1) := by decide +kernel
theorem dX10_comes_69 : decode cX10_comes 69 = .ok (.isub, 1) := by decide +kernel
theorem dX10_comes_70 : decode cX10_comes 70 = .ok (.ireturn, 1) := by decide +kernel
theorem dX10_chimney_0 : decode cX10_chimney 0 = .ok (.iload_n 1, 1) := by decide +kernel
theorem dX10_chimney_1 : decode cX10_chimney 1 = .ok (.iconst 0, 1) := by decide +kernel
theorem dX10_chimney_2 : decode cX10_chimney 2 = .ok (.iconst 5, 1) := by decide +kernel
theorem dX10_chimney_3 : decode cX10_chimney 3 = .ok (.invokestatic 89, 3) := by decide +kernel
theorem dX10_chimney_6 : decode cX10_chimney 6 = .ok (.ifCond .eq 31, 3) := by decide +kernel
theorem dX10_chimney_9 : decode cX10_chimney 9 = .ok (.iload_n 2, 1) := by decide +kernel
theorem dX10_chimney_10 : decode cX10_chimney 10 = .ok (.invokestatic 93, 3) := by decide +kernel
theorem dX10_chimney_13 : decode cX10_chimney 13 = .ok (.ifCond .eq 24, 3) := by decide +kernel
theorem dX10_chimney_16 : decode cX10_chimney 16 = .ok (.iload_n 3, 1) := by decide +kernel
theorem dX10_chimney_17 : decode cX10_chimney 17 = .ok (.iconst 0, 1) := by decide +kernel
theorem dX10_chimney_18 : decode cX10_chimney 18 = .ok (.bipush 99, 2) := by decide +kernel
theorem dX10_chimney_20 : decode cX10_chimney 20 = .ok (.invokestatic 89, 3) := by decide +kernel
theorem dX10_chimney_23 : decode cX10_chimney 23 = .ok (.ifCond .eq 14, 3) := by decide +kernel
theorem dX10_chimney_26 : decode cX10_chimney 26 = .ok (.iload 4, 2) := by decide +kernel
theorem dX10_chimney_28 : decode cX10_chimney 28 = .ok (.iconst 0, 1) := by decide +kernel
theorem dX10_chimney_29 : decode cX10_chimney 29 = .ok (.bipush 99, 2) := by decide +kernel
theorem dX10_chimney_31 : decode cX10_chimney 31 = .ok (.invokestatic 89, 3) := by decide +kernel
theorem dX10_chimney_34 : decode cX10_chimney 34 = .ok (.ifCond .ne 6, 3) := by decide +kernel
theorem dX10_chimney_37 : decode cX10_chimney 37 = .ok (.ldc 97, 2) := by decide +kernel
theorem dX10_chimney_39 : decode cX10_chimney 39 = .ok (.ireturn, 1) := by decide +kernel
theorem dX10_chimney_40 : decode cX10_chimney 40 = .ok (.aload_n 0, 1) := by decide +kernel
theorem dX10_chimney_41 : decode cX10_chimney 41 = .ok (.getfield 9, 3) := by decide +kernel
theorem dX10_chimney_44 : decode cX10_chimney 44 = .ok (.iconst 1, 1) := by decide +kernel
theorem dX10_chimney_45 : decode cX10_chimney 45 = .ok (.iaload, 1) := by decide +kernel
theorem dX10_chimney_46 : decode cX10_chimney 46 = .ok (.bipush 8, 2) := by decide +kernel
theorem dX10_chimney_48 : decode cX10_chimney 48 = .ok (.if_icmp .ne 8, 3) := by decide +kernel
theorem dX10_chimney_51 : decode cX10_chimney 51 = .ok (.ldc 98, 2) := by decide +kernel
theorem dX10_chimney_53 : decode cX10_chimney 53 = .ok (.goto 12, 3) := by decide +kernel
theorem dX10_chimney_56 : decode cX10_chimney 56 = .ok (.aload_n 0, 1) := by decide +kernel
theorem dX10_chimney_57 : decode cX10_chimney 57 = .ok (.iload_n 1, 1) := by decide +kernel
theorem dX10_chimney_58 : decode cX10_chimney 58 = .ok (.iload_n 2, 1) := by decide +kernel
theorem dX10_chimney_59 : decode cX10_chimney 59 = .ok (.iload_n 3, 1) := by decide +kernel
theorem dX10_chimney_60 : decode cX10_chimney 60 = .ok (.iload 4, 2) := by decide +kernel
theorem dX10_chimney_62 : decode cX10_chimney 62 = .ok (.invokevirtual 99, 3) := by decide +kernel
theorem dX10_chimney_65 : decode cX10_chimney 65 = .ok (.ireturn, 1) := by decide +kernel
theorem dX10_worthOf_0 : decode cX10_worthOf 0 = .ok (.aload_n 0, 1) := by decide +kernel
theorem dX10_worthOf_1 : decode cX10_worthOf 1 = .ok (.iload_n 1, 1) := by decide +kernel
theorem dX10_worthOf_2 : decode cX10_worthOf 2 = .ok (.iconst 2, 1) := by decide +kernel
theorem dX10_worthOf_3 : decode cX10_worthOf 3 = .ok (.invokevirtual 103, 3) := by decide +kernel
theorem dX10_worthOf_6 : decode cX10_worthOf 6 = .ok (.istore_n 2, 1) := by decide +kernel
theorem dX10_worthOf_7 : decode cX10_worthOf 7 = .ok (.aload_n 0, 1) := by decide +kernel
theorem dX10_worthOf_8 : decode cX10_worthOf 8 = .ok (.iload_n 1, 1) := by decide +kernel
theorem dX10_worthOf_9 : decode cX10_worthOf 9 = .ok (.iconst 0, 1) := by decide +kernel
theorem dX10_worthOf_10 : decode cX10_worthOf 10 = .ok (.invokevirtual 103, 3) := by decide +kernel
theorem dX10_worthOf_13 : decode cX10_worthOf 13 = .ok (.tableswitch 67 1 5 #[35, 44, 49, 60, 65], 35) := by decide +kernel
theorem dX10_worthOf_48 : decode cX10_worthOf 48 = .ok (.iload_n 2, 1) := by decide +kernel
theorem dX10_worthOf_49 : decode cX10_worthOf 49 = .ok (.aload_n 0, 1) := by decide +kernel
theorem dX10_worthOf_50 : decode cX10_worthOf 50 = .ok (.iload_n 1, 1) := by decide +kernel
theorem dX10_worthOf_51 : decode cX10_worthOf 51 = .ok (.iconst 3, 1) := by decide +kernel
theorem dX10_worthOf_52 : decode cX10_worthOf 52 = .ok (.invokevirtual 103, 3) := by decide +kernel
theorem dX10_worthOf_55 : decode cX10_worthOf 55 = .ok (.iadd, 1) := by decide +kernel
theorem dX10_worthOf_56 : decode cX10_worthOf 56 = .ok (.ireturn, 1) := by decide +kernel
theorem dX10_worthOf_57 : decode cX10_worthOf 57 = .ok (.bipush 99, 2) := by decide +kernel
theorem dX10_worthOf_59 : decode cX10_worthOf 59 = .ok (.iload_n 2, 1) := by decide +kernel
theorem dX10_worthOf_60 : decode cX10_worthOf 60 = .ok (.isub, 1) := by decide +kernel
theorem dX10_worthOf_61 : decode cX10_worthOf 61 = .ok (.ireturn, 1) := by decide +kernel
theorem dX10_worthOf_62 : decode cX10_worthOf 62 = .ok (.iconst 2, 1) := by decide +kernel
theorem dX10_worthOf_63 : decode cX10_worthOf 63 = .ok (.iload_n 2, 1) := by decide +kernel
theorem dX10_worthOf_64 : decode cX10_worthOf 64 = .ok (.aload_n 0, 1) := by decide +kernel
theorem dX10_worthOf_65 : decode cX10_worthOf 65 = .ok (.iload_n 1, 1) := by decide +kernel
theorem dX10_worthOf_66 : decode cX10_worthOf 66 = .ok (.iconst 3, 1) := by decide +kernel
theorem dX10_worthOf_67 : decode cX10_worthOf 67 = .ok (.invokevirtual 103, 3) := by decide +kernel
theorem dX10_worthOf_70 : decode cX10_worthOf 70 = .ok (.iadd, 1) := by decide +kernel
theorem dX10_worthOf_71 : decode cX10_worthOf 71 = .ok (.imul, 1) := by decide +kernel
theorem dX10_worthOf_72 : decode cX10_worthOf 72 = .ok (.ireturn, 1) := by decide +kernel
theorem dX10_worthOf_73 : decode cX10_worthOf 73 = .ok (.bipush 92, 2) := by decide +kernel
theorem dX10_worthOf_75 : decode cX10_worthOf 75 = .ok (.iload_n 2, 1) := by decide +kernel
theorem dX10_worthOf_76 : decode cX10_worthOf 76 = .ok (.isub, 1) := by decide +kernel
theorem dX10_worthOf_77 : decode cX10_worthOf 77 = .ok (.ireturn, 1) := by decide +kernel
theorem dX10_worthOf_78 : decode cX10_worthOf 78 = .ok (.iconst 2, 1) := by decide +kernel
theorem dX10_worthOf_79 : decode cX10_worthOf 79 = .ok (.ireturn, 1) := by decide +kernel
theorem dX10_worthOf_80 : decode cX10_worthOf 80 = .ok (.iload_n 2, 1) := by decide +kernel
theorem dX10_worthOf_81 : decode cX10_worthOf 81 = .ok (.ireturn, 1) := by decide +kernel
theorem dX10_told_0 : decode cX10_told 0 = .ok (.aload_n 0, 1) := by decide +kernel
theorem dX10_told_1 : decode cX10_told 1 = .ok (.iload_n 1, 1) := by decide +kernel
theorem dX10_told_2 : decode cX10_told 2 = .ok (.invokevirtual 107, 3) := by decide +kernel
theorem dX10_told_5 : decode cX10_told 5 = .ok (.ifCond .eq 12, 3) := by decide +kernel
theorem dX10_told_8 : decode cX10_told 8 = .ok (.iload_n 2, 1) := by decide +kernel
theorem dX10_told_9 : decode cX10_told 9 = .ok (.iconst 0, 1) := by decide +kernel
theorem dX10_told_10 : decode cX10_told 10 = .ok (.iconst 5, 1) := by decide +kernel
theorem dX10_told_11 : decode cX10_told 11 = .ok (.invokestatic 89, 3) := by decide +kernel
theorem dX10_told_14 : decode cX10_told 14 = .ok (.ifCond .ne 6, 3) := by decide +kernel
theorem dX10_told_17 : decode cX10_told 17 = .ok (.ldc 97, 2) := by decide +kernel
theorem dX10_told_19 : decode cX10_told 19 = .ok (.ireturn, 1) := by decide +kernel
theorem dX10_told_20 : decode cX10_told 20 = .ok (.iload_n 2, 1) := by decide +kernel
theorem dX10_told_21 : decode cX10_told 21 = .ok (.iconst 4, 1) := by decide +kernel
theorem dX10_told_22 : decode cX10_told 22 = .ok (.if_icmp .ge 10, 3) := by decide +kernel
theorem dX10_told_25 : decode cX10_told 25 = .ok (.aload_n 0, 1) := by decide +kernel
theorem dX10_told_26 : decode cX10_told 26 = .ok (.iload_n 1, 1) := by decide +kernel
theorem dX10_told_27 : decode cX10_told 27 = .ok (.iload_n 2, 1) := by decide +kernel
theorem dX10_told_28 : decode cX10_told 28 = .ok (.invokevirtual 103, 3) := by decide +kernel
theorem dX10_told_31 : decode cX10_told 31 = .ok (.ireturn, 1) := by decide +kernel
theorem dX10_told_32 : decode cX10_told 32 = .ok (.iload_n 2, 1) := by decide +kernel
theorem dX10_told_33 : decode cX10_told 33 = .ok (.iconst 4, 1) := by decide +kernel
theorem dX10_told_34 : decode cX10_told 34 = .ok (.if_icmp .ne 9, 3) := by decide +kernel
theorem dX10_told_37 : decode cX10_told 37 = .ok (.aload_n 0, 1) := by decide +kernel
theorem dX10_told_38 : decode cX10_told 38 = .ok (.iload_n 1, 1) := by decide +kernel
theorem dX10_told_39 : decode cX10_told 39 = .ok (.invokevirtual 110, 3) := by decide +kernel
theorem dX10_told_42 : decode cX10_told 42 = .ok (.ireturn, 1) := by decide +kernel
theorem dX10_told_43 : decode cX10_told 43 = .ok (.aload_n 0, 1) := by decide +kernel
theorem dX10_told_44 : decode cX10_told 44 = .ok (.invokevirtual 114, 3) := by decide +kernel
theorem dX10_told_47 : decode cX10_told 47 = .ok (.aload_n 0, 1) := by decide +kernel
theorem dX10_told_48 : decode cX10_told 48 = .ok (.getfield 23, 3) := by decide +kernel
theorem dX10_told_51 : decode cX10_told 51 = .ok (.iload_n 1, 1) := by decide +kernel
theorem dX10_told_52 : decode cX10_told 52 = .ok (.iaload, 1) := by decide +kernel
theorem dX10_told_53 : decode cX10_told 53 = .ok (.invokestatic 117, 3) := by decide +kernel
theorem dX10_told_56 : decode cX10_told 56 = .ok (.ireturn, 1) := by decide +kernel
theorem dX10_isUnder_0 : decode cX10_isUnder 0 = .ok (.iload_n 1, 1) := by decide +kernel
theorem dX10_isUnder_1 : decode cX10_isUnder 1 = .ok (.ifCond .eq 28, 3) := by decide +kernel
theorem dX10_isUnder_4 : decode cX10_isUnder 4 = .ok (.iload_n 0, 1) := by decide +kernel
theorem dX10_isUnder_5 : decode cX10_isUnder 5 = .ok (.iload_n 1, 1) := by decide +kernel
theorem dX10_isUnder_6 : decode cX10_isUnder 6 = .ok (.if_icmp .eq 23, 3) := by decide +kernel
theorem dX10_isUnder_9 : decode cX10_isUnder 9 = .ok (.iload_n 1, 1) := by decide +kernel
theorem dX10_isUnder_10 : decode cX10_isUnder 10 = .ok (.iconst 1, 1) := by decide +kernel
theorem dX10_isUnder_11 : decode cX10_isUnder 11 = .ok (.if_icmp .ne 8, 3) := by decide +kernel
theorem dX10_isUnder_14 : decode cX10_isUnder 14 = .ok (.iload_n 0, 1) := by decide +kernel
theorem dX10_isUnder_15 : decode cX10_isUnder 15 = .ok (.iconst 3, 1) := by decide +kernel
theorem dX10_isUnder_16 : decode cX10_isUnder 16 = .ok (.if_icmp .eq 13, 3) := by decide +kernel
theorem dX10_isUnder_19 : decode cX10_isUnder 19 = .ok (.iload_n 1, 1) := by decide +kernel
theorem dX10_isUnder_20 : decode cX10_isUnder 20 = .ok (.iconst 2, 1) := by decide +kernel
theorem dX10_isUnder_21 : decode cX10_isUnder 21 = .ok (.if_icmp .ne 12, 3) := by decide +kernel
theorem dX10_isUnder_24 : decode cX10_isUnder 24 = .ok (.iload_n 0, 1) := by decide +kernel
theorem dX10_isUnder_25 : decode cX10_isUnder 25 = .ok (.iconst 4, 1) := by decide +kernel
theorem dX10_isUnder_26 : decode cX10_isUnder 26 = .ok (.if_icmp .ne 7, 3) := by decide +kernel
theorem dX10_isUnder_29 : decode cX10_isUnder 29 = .ok (.iconst 1, 1) := by decide +kernel
theorem dX10_isUnder_30 : decode cX10_isUnder 30 = .ok (.goto 4, 3) := by decide +kernel
theorem dX10_isUnder_33 : decode cX10_isUnder 33 = .ok (.iconst 0, 1) := by decide +kernel
theorem dX10_isUnder_34 : decode cX10_isUnder 34 = .ok (.ireturn, 1) := by decide +kernel
theorem dX10_as_0 : decode cX10_as 0 = .ok (.aload_n 0, 1) := by decide +kernel
theorem dX10_as_1 : decode cX10_as 1 = .ok (.iload_n 1, 1) := by decide +kernel
theorem dX10_as_2 : decode cX10_as 2 = .ok (.invokevirtual 107, 3) := by decide +kernel
theorem dX10_as_5 : decode cX10_as 5 = .ok (.ifCond .eq 12, 3) := by decide +kernel
theorem dX10_as_8 : decode cX10_as 8 = .ok (.iload_n 2, 1) := by decide +kernel
theorem dX10_as_9 : decode cX10_as 9 = .ok (.iconst 0, 1) := by decide +kernel
theorem dX10_as_10 : decode cX10_as 10 = .ok (.iconst 5, 1) := by decide +kernel
theorem dX10_as_11 : decode cX10_as 11 = .ok (.invokestatic 89, 3) := by decide +kernel
theorem dX10_as_14 : decode cX10_as 14 = .ok (.ifCond .ne 6, 3) := by decide +kernel
theorem dX10_as_17 : decode cX10_as 17 = .ok (.ldc 97, 2) := by decide +kernel
theorem dX10_as_19 : decode cX10_as 19 = .ok (.ireturn, 1) := by decide +kernel
theorem dX10_as_20 : decode cX10_as 20 = .ok (.aload_n 0, 1) := by decide +kernel
theorem dX10_as_21 : decode cX10_as 21 = .ok (.iload_n 1, 1) := by decide +kernel
theorem dX10_as_22 : decode cX10_as 22 = .ok (.iconst 0, 1) := by decide +kernel
theorem dX10_as_23 : decode cX10_as 23 = .ok (.invokevirtual 103, 3) := by decide +kernel
theorem dX10_as_26 : decode cX10_as 26 = .ok (.iload_n 2, 1) := by decide +kernel
theorem dX10_as_27 : decode cX10_as 27 = .ok (.invokestatic 120, 3) := by decide +kernel
theorem dX10_as_30 : decode cX10_as 30 = .ok (.ifCond .eq 12, 3) := by decide +kernel
theorem dX10_as_33 : decode cX10_as 33 = .ok (.aload_n 0, 1) := by decide +kernel
theorem dX10_as_34 : decode cX10_as 34 = .ok (.iload_n 1, 1) := by decide +kernel
theorem dX10_as_35 : decode cX10_as 35 = .ok (.iconst 2, 1) := by decide +kernel
theorem dX10_as_36 : decode cX10_as 36 = .ok (.invokevirtual 103, 3) := by decide +kernel
theorem dX10_as_39 : decode cX10_as 39 = .ok (.goto 5, 3) := by decide +kernel
theorem dX10_as_42 : decode cX10_as 42 = .ok (.ldc 124, 2) := by decide +kernel
theorem dX10_as_44 : decode cX10_as 44 = .ok (.ireturn, 1) := by decide +kernel
theorem dX10_turns_0 : decode cX10_turns 0 = .ok (.aload_n 0, 1) := by decide +kernel
theorem dX10_turns_1 : decode cX10_turns 1 = .ok (.iload_n 1, 1) := by decide +kernel
theorem dX10_turns_2 : decode cX10_turns 2 = .ok (.invokevirtual 107, 3) := by decide +kernel
theorem dX10_turns_5 : decode cX10_turns 5 = .ok (.ifCond .eq 26, 3) := by decide +kernel
theorem dX10_turns_8 : decode cX10_turns 8 = .ok (.iload_n 2, 1) := by decide +kernel
theorem dX10_turns_9 : decode cX10_turns 9 = .ok (.iconst 0, 1) := by decide +kernel
theorem dX10_turns_10 : decode cX10_turns 10 = .ok (.iconst 5, 1) := by decide +kernel
theorem dX10_turns_11 : decode cX10_turns 11 = .ok (.invokestatic 89, 3) := by decide +kernel
theorem dX10_turns_14 : decode cX10_turns 14 = .ok (.ifCond .eq 17, 3) := by decide +kernel
theorem dX10_turns_17 : decode cX10_turns 17 = .ok (.aload_n 0, 1) := by decide +kernel
theorem dX10_turns_18 : decode cX10_turns 18 = .ok (.bipush 38, 2) := by decide +kernel
theorem dX10_turns_20 : decode cX10_turns 20 = .ok (.iconst 4, 1) := by decide +kernel
theorem dX10_turns_21 : decode cX10_turns 21 = .ok (.iload_n 1, 1) := by decide +kernel
theorem dX10_turns_22 : decode cX10_turns 22 = .ok (.imul, 1) := by decide +kernel
theorem dX10_turns_23 : decode cX10_turns 23 = .ok (.iadd, 1) := by decide +kernel
theorem dX10_turns_24 : decode cX10_turns 24 = .ok (.iload_n 2, 1) := by decide +kernel
theorem dX10_turns_25 : decode cX10_turns 25 = .ok (.invokevirtual 125, 3) := by decide +kernel
theorem dX10_turns_28 : decode cX10_turns 28 = .ok (.goto 5, 3) := by decide +kernel
theorem dX10_turns_31 : decode cX10_turns 31 = .ok (.ldc 97, 2) := by decide +kernel
theorem dX10_turns_33 : decode cX10_turns 33 = .ok (.ireturn, 1) := by decide +kernel
theorem dX10_set_0 : decode cX10_set 0 = .ok (.aload_n 0, 1) := by decide +kernel
theorem dX10_set_1 : decode cX10_set 1 = .ok (.iload_n 1, 1) := by decide +kernel
theorem dX10_set_2 : decode cX10_set 2 = .ok (.invokevirtual 107, 3) := by decide +kernel
theorem dX10_set_5 : decode cX10_set 5 = .ok (.ifCond .eq 47, 3) := by decide +kernel
theorem dX10_set_8 : decode cX10_set 8 = .ok (.iload_n 2, 1) := by decide +kernel
theorem dX10_set_9 : decode cX10_set 9 = .ok (.iconst 1, 1) := by decide +kernel
theorem dX10_set_10 : decode cX10_set 10 = .ok (.iconst 3, 1) := by decide +kernel
theorem dX10_set_11 : decode cX10_set 11 = .ok (.invokestatic 89, 3) := by decide +kernel
theorem dX10_set_14 : decode cX10_set 14 = .ok (.ifCond .eq 38, 3) := by decide +kernel
theorem dX10_set_17 : decode cX10_set 17 = .ok (.iload_n 3, 1) := by decide +kernel
theorem dX10_set_18 : decode cX10_set 18 = .ok (.iconst 0, 1) := by decide +kernel
theorem dX10_set_19 : decode cX10_set 19 = .ok (.iload_n 2, 1) := by decide +kernel
theorem dX10_set_20 : decode cX10_set 20 = .ok (.iconst 1, 1) := by decide +kernel
theorem dX10_set_21 : decode cX10_set 21 = .ok (.if_icmp .ne 7, 3) := by decide +kernel
theorem dX10_set_24 : decode cX10_set 24 = .ok (.iconst 3, 1) := by decide +kernel
theorem dX10_set_25 : decode cX10_set 25 = .ok (.goto 5, 3) := by decide +kernel
theorem dX10_set_28 : decode cX10_set 28 = .ok (.bipush 99, 2) := by decide +kernel
theorem dX10_set_30 : decode cX10_set 30 = .ok (.invokestatic 89, 3) := by decide +kernel
theorem dX10_set_33 : decode cX10_set 33 = .ok (.ifCond .eq 19, 3) := by decide +kernel
theorem dX10_set_36 : decode cX10_set 36 = .ok (.aload_n 0, 1) := by decide +kernel
theorem dX10_set_37 : decode cX10_set 37 = .ok (.bipush 38, 2) := by decide +kernel
theorem dX10_set_39 : decode cX10_set 39 = .ok (.iconst 4, 1) := by decide +kernel
theorem dX10_set_40 : decode cX10_set 40 = .ok (.iload_n 1, 1) := by decide +kernel
theorem dX10_set_41 : decode cX10_set 41 = .ok (.imul, 1) := by decide +kernel
theorem dX10_set_42 : decode cX10_set 42 = .ok (.iadd, 1) := by decide +kernel
theorem dX10_set_43 : decode cX10_set 43 = .ok (.iload_n 2, 1) := by decide +kernel
theorem dX10_set_44 : decode cX10_set 44 = .ok (.iadd, 1) := by decide +kernel
theorem dX10_set_45 : decode cX10_set 45 = .ok (.iload_n 3, 1) := by decide +kernel
theorem dX10_set_46 : decode cX10_set 46 = .ok (.invokevirtual 125, 3) := by decide +kernel
theorem dX10_set_49 : decode cX10_set 49 = .ok (.goto 5, 3) := by decide +kernel
theorem dX10_set_52 : decode cX10_set 52 = .ok (.ldc 97, 2) := by decide +kernel
theorem dX10_set_54 : decode cX10_set 54 = .ok (.ireturn, 1) := by decide +kernel
theorem dX10_hatches_0 : decode cX10_hatches 0 = .ok (.bipush 8, 2) := by decide +kernel
theorem dX10_hatches_2 : decode cX10_hatches 2 = .ok (.iconst 3, 1) := by decide +kernel
theorem dX10_hatches_3 : decode cX10_hatches 3 = .ok (.aload_n 0, 1) := by decide +kernel
theorem dX10_hatches_4 : decode cX10_hatches 4 = .ok (.getfield 9, 3) := by decide +kernel
theorem dX10_hatches_7 : decode cX10_hatches 7 = .ok (.iconst 2, 1) := by decide +kernel
theorem dX10_hatches_8 : decode cX10_hatches 8 = .ok (.iaload, 1) := by decide +kernel
theorem dX10_hatches_9 : decode cX10_hatches 9 = .ok (.imul, 1) := by decide +kernel
theorem dX10_hatches_10 : decode cX10_hatches 10 = .ok (.iadd, 1) := by decide +kernel
theorem dX10_hatches_11 : decode cX10_hatches 11 = .ok (.istore_n 3, 1) := by decide +kernel
theorem dX10_hatches_12 : decode cX10_hatches 12 = .ok (.aload_n 0, 1) := by decide +kernel
theorem dX10_hatches_13 : decode cX10_hatches 13 = .ok (.getfield 9, 3) := by decide +kernel
theorem dX10_hatches_16 : decode cX10_hatches 16 = .ok (.iload_n 3, 1) := by decide +kernel
theorem dX10_hatches_17 : decode cX10_hatches 17 = .ok (.iload_n 1, 1) := by decide +kernel
theorem dX10_hatches_18 : decode cX10_hatches 18 = .ok (.iastore, 1) := by decide +kernel
theorem dX10_hatches_19 : decode cX10_hatches 19 = .ok (.aload_n 0, 1) := by decide +kernel
theorem dX10_hatches_20 : decode cX10_hatches 20 = .ok (.getfield 9, 3) := by decide +kernel
theorem dX10_hatches_23 : decode cX10_hatches 23 = .ok (.iload_n 3, 1) := by decide +kernel
theorem dX10_hatches_24 : decode cX10_hatches 24 = .ok (.iconst 1, 1) := by decide +kernel
theorem dX10_hatches_25 : decode cX10_hatches 25 = .ok (.iadd, 1) := by decide +kernel
theorem dX10_hatches_26 : decode cX10_hatches 26 = .ok (.iload_n 2, 1) := by decide +kernel
theorem dX10_hatches_27 : decode cX10_hatches 27 = .ok (.iastore, 1) := by decide +kernel
theorem dX10_hatches_28 : decode cX10_hatches 28 = .ok (.aload_n 0, 1) := by decide +kernel
theorem dX10_hatches_29 : decode cX10_hatches 29 = .ok (.getfield 9, 3) := by decide +kernel
theorem dX10_hatches_32 : decode cX10_hatches 32 = .ok (.iload_n 3, 1) := by decide +kernel
theorem dX10_hatches_33 : decode cX10_hatches 33 = .ok (.iconst 2, 1) := by decide +kernel
theorem dX10_hatches_34 : decode cX10_hatches 34 = .ok (.iadd, 1) := by decide +kernel
theorem dX10_hatches_35 : decode cX10_hatches 35 = .ok (.iconst 0, 1) := by decide +kernel
theorem dX10_hatches_36 : decode cX10_hatches 36 = .ok (.iastore, 1) := by decide +kernel
theorem dX10_hatches_37 : decode cX10_hatches 37 = .ok (.aload_n 0, 1) := by decide +kernel
theorem dX10_hatches_38 : decode cX10_hatches 38 = .ok (.getfield 9, 3) := by decide +kernel
theorem dX10_hatches_41 : decode cX10_hatches 41 = .ok (.iconst 2, 1) := by decide +kernel
theorem dX10_hatches_42 : decode cX10_hatches 42 = .ok (.dup2, 1) := by decide +kernel
theorem dX10_hatches_43 : decode cX10_hatches 43 = .ok (.iaload, 1) := by decide +kernel
theorem dX10_hatches_44 : decode cX10_hatches 44 = .ok (.iconst 1, 1) := by decide +kernel
theorem dX10_hatches_45 : decode cX10_hatches 45 = .ok (.iadd, 1) := by decide +kernel
theorem dX10_hatches_46 : decode cX10_hatches 46 = .ok (.iastore, 1) := by decide +kernel
theorem dX10_hatches_47 : decode cX10_hatches 47 = .ok (.aload_n 0, 1) := by decide +kernel
theorem dX10_hatches_48 : decode cX10_hatches 48 = .ok (.getfield 9, 3) := by decide +kernel
theorem dX10_hatches_51 : decode cX10_hatches 51 = .ok (.iconst 2, 1) := by decide +kernel
theorem dX10_hatches_52 : decode cX10_hatches 52 = .ok (.iaload, 1) := by decide +kernel
theorem dX10_hatches_53 : decode cX10_hatches 53 = .ok (.iconst 1, 1) := by decide +kernel
theorem dX10_hatches_54 : decode cX10_hatches 54 = .ok (.isub, 1) := by decide +kernel
theorem dX10_hatches_55 : decode cX10_hatches 55 = .ok (.ireturn, 1) := by decide +kernel
theorem dX10_stork_0 : decode cX10_stork 0 = .ok (.iload_n 1, 1) := by decide +kernel
theorem dX10_stork_1 : decode cX10_stork 1 = .ok (.iconst 1, 1) := by decide +kernel
theorem dX10_stork_2 : decode cX10_stork 2 = .ok (.bipush 99, 2) := by decide +kernel
theorem dX10_stork_4 : decode cX10_stork 4 = .ok (.invokestatic 89, 3) := by decide +kernel
theorem dX10_stork_7 : decode cX10_stork 7 = .ok (.ifCond .eq 17, 3) := by decide +kernel
theorem dX10_stork_10 : decode cX10_stork 10 = .ok (.iload_n 2, 1) := by decide +kernel
theorem dX10_stork_11 : decode cX10_stork 11 = .ok (.ldc 88, 2) := by decide +kernel
theorem dX10_stork_13 : decode cX10_stork 13 = .ok (.if_icmp .eq 14, 3) := by decide +kernel
theorem dX10_stork_16 : decode cX10_stork 16 = .ok (.aload_n 0, 1) := by decide +kernel
theorem dX10_stork_17 : decode cX10_stork 17 = .ok (.iload_n 2, 1) := by decide +kernel
theorem dX10_stork_18 : decode cX10_stork 18 = .ok (.invokevirtual 107, 3) := by decide +kernel
theorem dX10_stork_21 : decode cX10_stork 21 = .ok (.ifCond .ne 6, 3) := by decide +kernel
theorem dX10_stork_24 : decode cX10_stork 24 = .ok (.ldc 97, 2) := by decide +kernel
theorem dX10_stork_26 : decode cX10_stork 26 = .ok (.ireturn, 1) := by decide +kernel
theorem dX10_stork_27 : decode cX10_stork 27 = .ok (.aload_n 0, 1) := by decide +kernel
theorem dX10_stork_28 : decode cX10_stork 28 = .ok (.getfield 9, 3) := by decide +kernel
theorem dX10_stork_31 : decode cX10_stork 31 = .ok (.iconst 2, 1) := by decide +kernel
theorem dX10_stork_32 : decode cX10_stork 32 = .ok (.iaload, 1) := by decide +kernel
theorem dX10_stork_33 : decode cX10_stork 33 = .ok (.bipush 10, 2) := by decide +kernel
theorem dX10_stork_35 : decode cX10_stork 35 = .ok (.if_icmp .ne 8, 3) := by decide +kernel
theorem dX10_stork_38 : decode cX10_stork 38 = .ok (.ldc 98, 2) := by decide +kernel
theorem dX10_stork_40 : decode cX10_stork 40 = .ok (.goto 19, 3) := by decide +kernel
theorem dX10_stork_43 : decode cX10_stork 43 = .ok (.aload_n 0, 1) := by decide +kernel
theorem dX10_stork_44 : decode cX10_stork 44 = .ok (.iload_n 1, 1) := by decide +kernel
theorem dX10_stork_45 : decode cX10_stork 45 = .ok (.iload_n 2, 1) := by decide +kernel
theorem dX10_stork_46 : decode cX10_stork 46 = .ok (.ldc 88, 2) := by decide +kernel
theorem dX10_stork_48 : decode cX10_stork 48 = .ok (.if_icmp .ne 7, 3) := by decide +kernel
theorem dX10_stork_51 : decode cX10_stork 51 = .ok (.iconst (-1), 1) := by decide +kernel
theorem dX10_stork_52 : decode cX10_stork 52 = .ok (.goto 4, 3) := by decide +kernel
theorem dX10_stork_55 : decode cX10_stork 55 = .ok (.iload_n 2, 1) := by decide +kernel
theorem dX10_stork_56 : decode cX10_stork 56 = .ok (.invokevirtual 128, 3) := by decide +kernel
theorem dX10_stork_59 : decode cX10_stork 59 = .ok (.ireturn, 1) := by decide +kernel
theorem dX10_storkTold_0 : decode cX10_storkTold 0 = .ok (.aload_n 0, 1) := by decide +kernel
theorem dX10_storkTold_1 : decode cX10_storkTold 1 = .ok (.iload_n 1, 1) := by decide +kernel
theorem dX10_storkTold_2 : decode cX10_storkTold 2 = .ok (.invokevirtual 131, 3) := by decide +kernel
theorem dX10_storkTold_5 : decode cX10_storkTold 5 = .ok (.ifCond .eq 12, 3) := by decide +kernel
theorem dX10_storkTold_8 : decode cX10_storkTold 8 = .ok (.iload_n 2, 1) := by decide +kernel
theorem dX10_storkTold_9 : decode cX10_storkTold 9 = .ok (.iconst 0, 1) := by decide +kernel
theorem dX10_storkTold_10 : decode cX10_storkTold 10 = .ok (.iconst 3, 1) := by decide +kernel
theorem dX10_storkTold_11 : decode cX10_storkTold 11 = .ok (.invokestatic 89, 3) := by decide +kernel
theorem dX10_storkTold_14 : decode cX10_storkTold 14 = .ok (.ifCond .ne 6, 3) := by decide +kernel
theorem dX10_storkTold_17 : decode cX10_storkTold 17 = .ok (.ldc 97, 2) := by decide +kernel
theorem dX10_storkTold_19 : decode cX10_storkTold 19 = .ok (.ireturn, 1) := by decide +kernel
theorem dX10_storkTold_20 : decode cX10_storkTold 20 = .ok (.iload_n 2, 1) := by decide +kernel
theorem dX10_storkTold_21 : decode cX10_storkTold 21 = .ok (.iconst 3, 1) := by decide +kernel
theorem dX10_storkTold_22 : decode cX10_storkTold 22 = .ok (.if_icmp .ne 17, 3) := by decide +kernel
theorem dX10_storkTold_25 : decode cX10_storkTold 25 = .ok (.aload_n 0, 1) := by decide +kernel
theorem dX10_storkTold_26 : decode cX10_storkTold 26 = .ok (.invokevirtual 114, 3) := by decide +kernel
theorem dX10_storkTold_29 : decode cX10_storkTold 29 = .ok (.aload_n 0, 1) := by decide +kernel
theorem dX10_storkTold_30 : decode cX10_storkTold 30 = .ok (.getfield 26, 3) := by decide +kernel
theorem dX10_storkTold_33 : decode cX10_storkTold 33 = .ok (.iload_n 1, 1) := by decide +kernel
theorem dX10_storkTold_34 : decode cX10_storkTold 34 = .ok (.iaload, 1) := by decide +kernel
theorem dX10_storkTold_35 : decode cX10_storkTold 35 = .ok (.invokestatic 117, 3) := by decide +kernel
theorem dX10_storkTold_38 : decode cX10_storkTold 38 = .ok (.ireturn, 1) := by decide +kernel
theorem dX10_storkTold_39 : decode cX10_storkTold 39 = .ok (.aload_n 0, 1) := by decide +kernel
theorem dX10_storkTold_40 : decode cX10_storkTold 40 = .ok (.getfield 9, 3) := by decide +kernel
theorem dX10_storkTold_43 : decode cX10_storkTold 43 = .ok (.bipush 8, 2) := by decide +kernel
theorem dX10_storkTold_45 : decode cX10_storkTold 45 = .ok (.iconst 3, 1) := by decide +kernel
theorem dX10_storkTold_46 : decode cX10_storkTold 46 = .ok (.iload_n 1, 1) := by decide +kernel
theorem dX10_storkTold_47 : decode cX10_storkTold 47 = .ok (.imul, 1) := by decide +kernel
theorem dX10_storkTold_48 : decode cX10_storkTold 48 = .ok (.iadd, 1) := by decide +kernel
theorem dX10_storkTold_49 : decode cX10_storkTold 49 = .ok (.iload_n 2, 1) := by decide +kernel
theorem dX10_storkTold_50 : decode cX10_storkTold 50 = .ok (.iadd, 1) := by decide +kernel
theorem dX10_storkTold_51 : decode cX10_storkTold 51 = .ok (.iaload, 1) := by decide +kernel
theorem dX10_storkTold_52 : decode cX10_storkTold 52 = .ok (.invokestatic 117, 3) := by decide +kernel
theorem dX10_storkTold_55 : decode cX10_storkTold 55 = .ok (.ireturn, 1) := by decide +kernel
theorem dX10_away_0 : decode cX10_away 0 = .ok (.aload_n 0, 1) := by decide +kernel
theorem dX10_away_1 : decode cX10_away 1 = .ok (.iload_n 1, 1) := by decide +kernel
theorem dX10_away_2 : decode cX10_away 2 = .ok (.invokevirtual 131, 3) := by decide +kernel
theorem dX10_away_5 : decode cX10_away 5 = .ok (.ifCond .eq 28, 3) := by decide +kernel
theorem dX10_away_8 : decode cX10_away 8 = .ok (.iload_n 2, 1) := by decide +kernel
theorem dX10_away_9 : decode cX10_away 9 = .ok (.iconst 0, 1) := by decide +kernel
theorem dX10_away_10 : decode cX10_away 10 = .ok (.iconst 1, 1) := by decide +kernel
theorem dX10_away_11 : decode cX10_away 11 = .ok (.invokestatic 89, 3) := by decide +kernel
theorem dX10_away_14 : decode cX10_away 14 = .ok (.ifCond .eq 19, 3) := by decide +kernel
theorem dX10_away_17 : decode cX10_away 17 = .ok (.aload_n 0, 1) := by decide +kernel
theorem dX10_away_18 : decode cX10_away 18 = .ok (.bipush 8, 2) := by decide +kernel
theorem dX10_away_20 : decode cX10_away 20 = .ok (.iconst 3, 1) := by decide +kernel
theorem dX10_away_21 : decode cX10_away 21 = .ok (.iload_n 1, 1) := by decide +kernel
theorem dX10_away_22 : decode cX10_away 22 = .ok (.imul, 1) := by decide +kernel
theorem dX10_away_23 : decode cX10_away 23 = .ok (.iadd, 1) := by decide +kernel
theorem dX10_away_24 : decode cX10_away 24 = .ok (.iconst 2, 1) := by decide +kernel
theorem dX10_away_25 : decode cX10_away 25 = .ok (.iadd, 1) := by decide +kernel
theorem dX10_away_26 : decode cX10_away 26 = .ok (.iload_n 2, 1) := by decide +kernel
theorem dX10_away_27 : decode cX10_away 27 = .ok (.invokevirtual 125, 3) := by decide +kernel
theorem dX10_away_30 : decode cX10_away 30 = .ok (.goto 5, 3) := by decide +kernel
theorem dX10_away_33 : decode cX10_away 33 = .ok (.ldc 97, 2) := by decide +kernel
theorem dX10_away_35 : decode cX10_away 35 = .ok (.ireturn, 1) := by decide +kernel
theorem dX10_likesOf_0 : decode cX10_likesOf 0 = .ok (.aload_n 0, 1) := by decide +kernel
theorem dX10_likesOf_1 : decode cX10_likesOf 1 = .ok (.getfield 9, 3) := by decide +kernel
theorem dX10_likesOf_4 : decode cX10_likesOf 4 = .ok (.bipush 8, 2) := by decide +kernel
theorem dX10_likesOf_6 : decode cX10_likesOf 6 = .ok (.iconst 3, 1) := by decide +kernel
theorem dX10_likesOf_7 : decode cX10_likesOf 7 = .ok (.iload_n 1, 1) := by decide +kernel
theorem dX10_likesOf_8 : decode cX10_likesOf 8 = .ok (.imul, 1) := by decide +kernel
theorem dX10_likesOf_9 : decode cX10_likesOf 9 = .ok (.iadd, 1) := by decide +kernel
theorem dX10_likesOf_10 : decode cX10_likesOf 10 = .ok (.iconst 1, 1) := by decide +kernel
theorem dX10_likesOf_11 : decode cX10_likesOf 11 = .ok (.iadd, 1) := by decide +kernel
theorem dX10_likesOf_12 : decode cX10_likesOf 12 = .ok (.iaload, 1) := by decide +kernel
theorem dX10_likesOf_13 : decode cX10_likesOf 13 = .ok (.iload_n 2, 1) := by decide +kernel
theorem dX10_likesOf_14 : decode cX10_likesOf 14 = .ok (.if_icmp .ne 7, 3) := by decide +kernel
theorem dX10_likesOf_17 : decode cX10_likesOf 17 = .ok (.iconst 1, 1) := by decide +kernel
theorem dX10_likesOf_18 : decode cX10_likesOf 18 = .ok (.goto 4, 3) := by decide +kernel
theorem dX10_likesOf_21 : decode cX10_likesOf 21 = .ok (.iconst 0, 1) := by decide +kernel
theorem dX10_likesOf_22 : decode cX10_likesOf 22 = .ok (.istore_n 3, 1) := by decide +kernel
theorem dX10_likesOf_23 : decode cX10_likesOf 23 = .ok (.aload_n 0, 1) := by decide +kernel
theorem dX10_likesOf_24 : decode cX10_likesOf 24 = .ok (.iconst 0, 1) := by decide +kernel
theorem dX10_likesOf_25 : decode cX10_likesOf 25 = .ok (.invokevirtual 134, 3) := by decide +kernel
theorem dX10_likesOf_28 : decode cX10_likesOf 28 = .ok (.istore 4, 2) := by decide +kernel
theorem dX10_likesOf_30 : decode cX10_likesOf 30 = .ok (.aload_n 0, 1) := by decide +kernel
theorem dX10_likesOf_31 : decode cX10_likesOf 31 = .ok (.getfield 58, 3) := by decide +kernel
theorem dX10_likesOf_34 : decode cX10_likesOf 34 = .ok (.iconst 0, 1) := by decide +kernel
theorem dX10_likesOf_35 : decode cX10_likesOf 35 = .ok (.aload_n 0, 1) := by decide +kernel
theorem dX10_likesOf_36 : decode cX10_likesOf 36 = .ok (.iload_n 2, 1) := by decide +kernel
theorem dX10_likesOf_37 : decode cX10_likesOf 37 = .ok (.iconst 2, 1) := by decide +kernel
theorem dX10_likesOf_38 : decode cX10_likesOf 38 = .ok (.invokevirtual 103, 3) := by decide +kernel
theorem dX10_likesOf_41 : decode cX10_likesOf 41 = .ok (.iastore, 1) := by decide +kernel
theorem dX10_likesOf_42 : decode cX10_likesOf 42 = .ok (.aload_n 0, 1) := by decide +kernel
theorem dX10_likesOf_43 : decode cX10_likesOf 43 = .ok (.getfield 58, 3) := by decide +kernel
theorem dX10_likesOf_46 : decode cX10_likesOf 46 = .ok (.iconst 1, 1) := by decide +kernel
theorem dX10_likesOf_47 : decode cX10_likesOf 47 = .ok (.aload_n 0, 1) := by decide +kernel
theorem dX10_likesOf_48 : decode cX10_likesOf 48 = .ok (.iload_n 2, 1) := by decide +kernel
theorem dX10_likesOf_49 : decode cX10_likesOf 49 = .ok (.iconst 3, 1) := by decide +kernel
theorem dX10_likesOf_50 : decode cX10_likesOf 50 = .ok (.invokevirtual 103, 3) := by decide +kernel
theorem dX10_likesOf_53 : decode cX10_likesOf 53 = .ok (.iastore, 1) := by decide +kernel
theorem dX10_likesOf_54 : decode cX10_likesOf 54 = .ok (.aload_n 0, 1) := by decide +kernel
theorem dX10_likesOf_55 : decode cX10_likesOf 55 = .ok (.getfield 58, 3) := by decide +kernel
theorem dX10_likesOf_58 : decode cX10_likesOf 58 = .ok (.iconst 2, 1) := by decide +kernel
theorem dX10_likesOf_59 : decode cX10_likesOf 59 = .ok (.iload_n 3, 1) := by decide +kernel
theorem dX10_likesOf_60 : decode cX10_likesOf 60 = .ok (.iastore, 1) := by decide +kernel
theorem dX10_likesOf_61 : decode cX10_likesOf 61 = .ok (.iload 4, 2) := by decide +kernel
theorem dX10_likesOf_63 : decode cX10_likesOf 63 = .ok (.ifCond .ge 24, 3) := by decide +kernel
theorem dX10_likesOf_66 : decode cX10_likesOf 66 = .ok (.aload_n 0, 1) := by decide +kernel
theorem dX10_likesOf_67 : decode cX10_likesOf 67 = .ok (.iload_n 2, 1) := by decide +kernel
theorem dX10_likesOf_68 : decode cX10_likesOf 68 = .ok (.iconst 2, 1) := by decide +kernel
theorem dX10_likesOf_69 : decode cX10_likesOf 69 = .ok (.invokevirtual 103, 3) := by decide +kernel
theorem dX10_likesOf_72 : decode cX10_likesOf 72 = .ok (.aload_n 0, 1) := by decide +kernel
theorem dX10_likesOf_73 : decode cX10_likesOf 73 = .ok (.iload_n 2, 1) := by decide +kernel
theorem dX10_likesOf_74 : decode cX10_likesOf 74 = .ok (.iconst 3, 1) := by decide +kernel
theorem dX10_likesOf_75 : decode cX10_likesOf 75 = .ok (.invokevirtual 103, 3) := by decide +kernel
theorem dX10_likesOf_78 : decode cX10_likesOf 78 = .ok (.iadd, 1) := by decide +kernel
theorem dX10_likesOf_79 : decode cX10_likesOf 79 = .ok (.bipush 20, 2) := by decide +kernel
theorem dX10_likesOf_81 : decode cX10_likesOf 81 = .ok (.iload_n 3, 1) := by decide +kernel
theorem dX10_likesOf_82 : decode cX10_likesOf 82 = .ok (.imul, 1) := by decide +kernel
theorem dX10_likesOf_83 : decode cX10_likesOf 83 = .ok (.iadd, 1) := by decide +kernel
theorem dX10_likesOf_84 : decode cX10_likesOf 84 = .ok (.goto 9, 3) := by decide +kernel
theorem dX10_likesOf_87 : decode cX10_likesOf 87 = .ok (.aload_n 0, 1) := by decide +kernel
theorem dX10_likesOf_88 : decode cX10_likesOf 88 = .ok (.iload 4, 2) := by decide +kernel
theorem dX10_likesOf_90 : decode cX10_likesOf 90 = .ok (.invokevirtual 137, 3) := by decide +kernel
theorem dX10_likesOf_93 : decode cX10_likesOf 93 = .ok (.iconst 0, 1) := by decide +kernel
theorem dX10_likesOf_94 : decode cX10_likesOf 94 = .ok (.sipush 999, 3) := by decide +kernel
theorem dX10_likesOf_97 : decode cX10_likesOf 97 = .ok (.invokestatic 140, 3) := by decide +kernel
theorem dX10_likesOf_100 : decode cX10_likesOf 100 = .ok (.istore 5, 2) := by decide +kernel
theorem dX10_likesOf_102 : decode cX10_likesOf 102 = .ok (.aload_n 0, 1) := by decide +kernel
theorem dX10_likesOf_103 : decode cX10_likesOf 103 = .ok (.iload_n 2, 1) := by decide +kernel
theorem dX10_likesOf_104 : decode cX10_likesOf 104 = .ok (.iconst 0, 1) := by decide +kernel
theorem dX10_likesOf_105 : decode cX10_likesOf 105 = .ok (.invokevirtual 103, 3) := by decide +kernel
theorem dX10_likesOf_108 : decode cX10_likesOf 108 = .ok (.tableswitch 79 1 5 #[36, 42, 47, 55, 67], 36) := by decide +kernel
theorem dX10_likesOf_144 : decode cX10_likesOf 144 = .ok (.iload 5, 2) := by decide +kernel
theorem dX10_likesOf_146 : decode cX10_likesOf 146 = .ok (.bipush 10, 2) := by decide +kernel
theorem dX10_likesOf_148 : decode cX10_likesOf 148 = .ok (.iadd, 1) := by decide +kernel
theorem dX10_likesOf_149 : decode cX10_likesOf 149 = .ok (.ireturn, 1) := by decide +kernel
theorem dX10_likesOf_150 : decode cX10_likesOf 150 = .ok (.iload 5, 2) := by decide +kernel
theorem dX10_likesOf_152 : decode cX10_likesOf 152 = .ok (.iconst 2, 1) := by decide +kernel
theorem dX10_likesOf_153 : decode cX10_likesOf 153 = .ok (.idiv, 1) := by decide +kernel
theorem dX10_likesOf_154 : decode cX10_likesOf 154 = .ok (.ireturn, 1) := by decide +kernel
theorem dX10_likesOf_155 : decode cX10_likesOf 155 = .ok (.iconst 2, 1) := by decide +kernel
theorem dX10_likesOf_156 : decode cX10_likesOf 156 = .ok (.iload 5, 2) := by decide +kernel
theorem dX10_likesOf_158 : decode cX10_likesOf 158 = .ok (.bipush 10, 2) := by decide +kernel
theorem dX10_likesOf_160 : decode cX10_likesOf 160 = .ok (.iadd, 1) := by decide +kernel
theorem dX10_likesOf_161 : decode cX10_likesOf 161 = .ok (.imul, 1) := by decide +kernel
theorem dX10_likesOf_162 : decode cX10_likesOf 162 = .ok (.ireturn, 1) := by decide +kernel
theorem dX10_likesOf_163 : decode cX10_likesOf 163 = .ok (.iload 5, 2) := by decide +kernel
theorem dX10_likesOf_165 : decode cX10_likesOf 165 = .ok (.iconst 2, 1) := by decide +kernel
theorem dX10_likesOf_166 : decode cX10_likesOf 166 = .ok (.idiv, 1) := by decide +kernel
theorem dX10_likesOf_167 : decode cX10_likesOf 167 = .ok (.aload_n 0, 1) := by decide +kernel
theorem dX10_likesOf_168 : decode cX10_likesOf 168 = .ok (.iload_n 2, 1) := by decide +kernel
theorem dX10_likesOf_169 : decode cX10_likesOf 169 = .ok (.iconst 2, 1) := by decide +kernel
theorem dX10_likesOf_170 : decode cX10_likesOf 170 = .ok (.invokevirtual 103, 3) := by decide +kernel
theorem dX10_likesOf_173 : decode cX10_likesOf 173 = .ok (.iadd, 1) := by decide +kernel
theorem dX10_likesOf_174 : decode cX10_likesOf 174 = .ok (.ireturn, 1) := by decide +kernel
theorem dX10_likesOf_175 : decode cX10_likesOf 175 = .ok (.aload_n 0, 1) := by decide +kernel
theorem dX10_likesOf_176 : decode cX10_likesOf 176 = .ok (.iload_n 2, 1) := by decide +kernel
theorem dX10_likesOf_177 : decode cX10_likesOf 177 = .ok (.iconst 3, 1) := by decide +kernel
theorem dX10_likesOf_178 : decode cX10_likesOf 178 = .ok (.invokevirtual 103, 3) := by decide +kernel
theorem dX10_likesOf_181 : decode cX10_likesOf 181 = .ok (.bipush 50, 2) := by decide +kernel
theorem dX10_likesOf_183 : decode cX10_likesOf 183 = .ok (.iload_n 3, 1) := by decide +kernel
theorem dX10_likesOf_184 : decode cX10_likesOf 184 = .ok (.imul, 1) := by decide +kernel
theorem dX10_likesOf_185 : decode cX10_likesOf 185 = .ok (.iadd, 1) := by decide +kernel
theorem dX10_likesOf_186 : decode cX10_likesOf 186 = .ok (.ireturn, 1) := by decide +kernel
theorem dX10_likesOf_187 : decode cX10_likesOf 187 = .ok (.iload 5, 2) := by decide +kernel
theorem dX10_likesOf_189 : decode cX10_likesOf 189 = .ok (.ireturn, 1) := by decide +kernel
theorem dX10_likes_0 : decode cX10_likes 0 = .ok (.aload_n 0, 1) := by decide +kernel
theorem dX10_likes_1 : decode cX10_likes 1 = .ok (.iload_n 1, 1) := by decide +kernel
theorem dX10_likes_2 : decode cX10_likes 2 = .ok (.invokevirtual 131, 3) := by decide +kernel
theorem dX10_likes_5 : decode cX10_likes 5 = .ok (.ifCond .eq 20, 3) := by decide +kernel
theorem dX10_likes_8 : decode cX10_likes 8 = .ok (.aload_n 0, 1) := by decide +kernel
theorem dX10_likes_9 : decode cX10_likes 9 = .ok (.iload_n 2, 1) := by decide +kernel
theorem dX10_likes_10 : decode cX10_likes 10 = .ok (.invokevirtual 107, 3) := by decide +kernel
theorem dX10_likes_13 : decode cX10_likes 13 = .ok (.ifCond .eq 12, 3) := by decide +kernel
theorem dX10_likes_16 : decode cX10_likes 16 = .ok (.aload_n 0, 1) := by decide +kernel
theorem dX10_likes_17 : decode cX10_likes 17 = .ok (.iload_n 1, 1) := by decide +kernel
theorem dX10_likes_18 : decode cX10_likes 18 = .ok (.iload_n 2, 1) := by decide +kernel
theorem dX10_likes_19 : decode cX10_likes 19 = .ok (.invokevirtual 144, 3) := by decide +kernel
theorem dX10_likes_22 : decode cX10_likes 22 = .ok (.goto 5, 3) := by decide +kernel
theorem dX10_likes_25 : decode cX10_likes 25 = .ok (.ldc 97, 2) := by decide +kernel
theorem dX10_likes_27 : decode cX10_likes 27 = .ok (.ireturn, 1) := by decide +kernel
theorem dX10_rule_0 : decode cX10_rule 0 = .ok (.iload_n 1, 1) := by decide +kernel
theorem dX10_rule_1 : decode cX10_rule 1 = .ok (.iconst 0, 1) := by decide +kernel
theorem dX10_rule_2 : decode cX10_rule 2 = .ok (.iconst 2, 1) := by decide +kernel
theorem dX10_rule_3 : decode cX10_rule 3 = .ok (.invokestatic 89, 3) := by decide +kernel
theorem dX10_rule_6 : decode cX10_rule 6 = .ok (.ifCond .eq 34, 3) := by decide +kernel
theorem dX10_rule_9 : decode cX10_rule 9 = .ok (.iload_n 2, 1) := by decide +kernel
theorem dX10_rule_10 : decode cX10_rule 10 = .ok (.iconst 0, 1) := by decide +kernel
theorem dX10_rule_11 : decode cX10_rule 11 = .ok (.iload_n 1, 1) := by decide +kernel
theorem dX10_rule_12 : decode cX10_rule 12 = .ok (.ifCond .ne 9, 3) := by decide +kernel
theorem dX10_rule_15 : decode cX10_rule 15 = .ok (.sipush 999, 3) := by decide +kernel
theorem dX10_rule_18 : decode cX10_rule 18 = .ok (.goto 5, 3) := by decide +kernel
theorem dX10_rule_21 : decode cX10_rule 21 = .ok (.bipush 100, 2) := by decide +kernel
theorem dX10_rule_23 : decode cX10_rule 23 = .ok (.invokestatic 89, 3) := by decide +kernel
theorem dX10_rule_26 : decode cX10_rule 26 = .ok (.ifCond .eq 14, 3) := by decide +kernel
theorem dX10_rule_29 : decode cX10_rule 29 = .ok (.aload_n 0, 1) := by decide +kernel
theorem dX10_rule_30 : decode cX10_rule 30 = .ok (.iconst 4, 1) := by decide +kernel
theorem dX10_rule_31 : decode cX10_rule 31 = .ok (.iload_n 1, 1) := by decide +kernel
theorem dX10_rule_32 : decode cX10_rule 32 = .ok (.iadd, 1) := by decide +kernel
theorem dX10_rule_33 : decode cX10_rule 33 = .ok (.iload_n 2, 1) := by decide +kernel
theorem dX10_rule_34 : decode cX10_rule 34 = .ok (.invokevirtual 125, 3) := by decide +kernel
theorem dX10_rule_37 : decode cX10_rule 37 = .ok (.goto 5, 3) := by decide +kernel
theorem dX10_rule_40 : decode cX10_rule 40 = .ok (.ldc 97, 2) := by decide +kernel
theorem dX10_rule_42 : decode cX10_rule 42 = .ok (.ireturn, 1) := by decide +kernel
theorem dX10_draw_0 : decode cX10_draw 0 = .ok (.aload_n 0, 1) := by decide +kernel
theorem dX10_draw_1 : decode cX10_draw 1 = .ok (.getfield 9, 3) := by decide +kernel
theorem dX10_draw_4 : decode cX10_draw 4 = .ok (.iconst 0, 1) := by decide +kernel
theorem dX10_draw_5 : decode cX10_draw 5 = .ok (.aload_n 0, 1) := by decide +kernel
theorem dX10_draw_6 : decode cX10_draw 6 = .ok (.getfield 9, 3) := by decide +kernel
theorem dX10_draw_9 : decode cX10_draw 9 = .ok (.iconst 0, 1) := by decide +kernel
theorem dX10_draw_10 : decode cX10_draw 10 = .ok (.iaload, 1) := by decide +kernel
theorem dX10_draw_11 : decode cX10_draw 11 = .ok (.ldc 147, 2) := by decide +kernel
theorem dX10_draw_13 : decode cX10_draw 13 = .ok (.imul, 1) := by decide +kernel
theorem dX10_draw_14 : decode cX10_draw 14 = .ok (.sipush 12345, 3) := by decide +kernel
theorem dX10_draw_17 : decode cX10_draw 17 = .ok (.iadd, 1) := by decide +kernel
theorem dX10_draw_18 : decode cX10_draw 18 = .ok (.iastore, 1) := by decide +kernel
theorem dX10_draw_19 : decode cX10_draw 19 = .ok (.aload_n 0, 1) := by decide +kernel
theorem dX10_draw_20 : decode cX10_draw 20 = .ok (.getfield 9, 3) := by decide +kernel
theorem dX10_draw_23 : decode cX10_draw 23 = .ok (.iconst 0, 1) := by decide +kernel
theorem dX10_draw_24 : decode cX10_draw 24 = .ok (.iaload, 1) := by decide +kernel
theorem dX10_draw_25 : decode cX10_draw 25 = .ok (.bipush 8, 2) := by decide +kernel
theorem dX10_draw_27 : decode cX10_draw 27 = .ok (.iushr, 1) := by decide +kernel
theorem dX10_draw_28 : decode cX10_draw 28 = .ok (.ireturn, 1) := by decide +kernel
theorem dX10_deal_0 : decode cX10_deal 0 = .ok (.iload_n 1, 1) := by decide +kernel
theorem dX10_deal_1 : decode cX10_deal 1 = .ok (.iconst 1, 1) := by decide +kernel
theorem dX10_deal_2 : decode cX10_deal 2 = .ok (.bipush 8, 2) := by decide +kernel
theorem dX10_deal_4 : decode cX10_deal 4 = .ok (.invokestatic 89, 3) := by decide +kernel
theorem dX10_deal_7 : decode cX10_deal 7 = .ok (.ifCond .ne 6, 3) := by decide +kernel
theorem dX10_deal_10 : decode cX10_deal 10 = .ok (.ldc 97, 2) := by decide +kernel
theorem dX10_deal_12 : decode cX10_deal 12 = .ok (.ireturn, 1) := by decide +kernel
theorem dX10_deal_13 : decode cX10_deal 13 = .ok (.iconst 0, 1) := by decide +kernel
theorem dX10_deal_14 : decode cX10_deal 14 = .ok (.istore_n 2, 1) := by decide +kernel
theorem dX10_deal_15 : decode cX10_deal 15 = .ok (.iload_n 2, 1) := by decide +kernel
theorem dX10_deal_16 : decode cX10_deal 16 = .ok (.iload_n 1, 1) := by decide +kernel
theorem dX10_deal_17 : decode cX10_deal 17 = .ok (.if_icmp .ge 63, 3) := by decide +kernel
theorem dX10_deal_20 : decode cX10_deal 20 = .ok (.aload_n 0, 1) := by decide +kernel
theorem dX10_deal_21 : decode cX10_deal 21 = .ok (.getfield 9, 3) := by decide +kernel
theorem dX10_deal_24 : decode cX10_deal 24 = .ok (.iconst 1, 1) := by decide +kernel
theorem dX10_deal_25 : decode cX10_deal 25 = .ok (.iaload, 1) := by decide +kernel
theorem dX10_deal_26 : decode cX10_deal 26 = .ok (.bipush 8, 2) := by decide +kernel
theorem dX10_deal_28 : decode cX10_deal 28 = .ok (.if_icmp .ge 52, 3) := by decide +kernel
theorem dX10_deal_31 : decode cX10_deal 31 = .ok (.aload_n 0, 1) := by decide +kernel
theorem dX10_deal_32 : decode cX10_deal 32 = .ok (.invokevirtual 148, 3) := by decide +kernel
theorem dX10_deal_35 : decode cX10_deal 35 = .ok (.bipush 6, 2) := by decide +kernel
theorem dX10_deal_37 : decode cX10_deal 37 = .ok (.irem, 1) := by decide +kernel
theorem dX10_deal_38 : decode cX10_deal 38 = .ok (.istore_n 3, 1) := by decide +kernel
theorem dX10_deal_39 : decode cX10_deal 39 = .ok (.aload_n 0, 1) := by decide +kernel
theorem dX10_deal_40 : decode cX10_deal 40 = .ok (.invokevirtual 148, 3) := by decide +kernel
theorem dX10_deal_43 : decode cX10_deal 43 = .ok (.iconst 4, 1) := by decide +kernel
theorem dX10_deal_44 : decode cX10_deal 44 = .ok (.irem, 1) := by decide +kernel
theorem dX10_deal_45 : decode cX10_deal 45 = .ok (.istore 4, 2) := by decide +kernel
theorem dX10_deal_47 : decode cX10_deal 47 = .ok (.aload_n 0, 1) := by decide +kernel
theorem dX10_deal_48 : decode cX10_deal 48 = .ok (.invokevirtual 148, 3) := by decide +kernel
theorem dX10_deal_51 : decode cX10_deal 51 = .ok (.bipush 60, 2) := by decide +kernel
theorem dX10_deal_53 : decode cX10_deal 53 = .ok (.irem, 1) := by decide +kernel
theorem dX10_deal_54 : decode cX10_deal 54 = .ok (.istore 5, 2) := by decide +kernel
theorem dX10_deal_56 : decode cX10_deal 56 = .ok (.aload_n 0, 1) := by decide +kernel
theorem dX10_deal_57 : decode cX10_deal 57 = .ok (.iload_n 3, 1) := by decide +kernel
theorem dX10_deal_58 : decode cX10_deal 58 = .ok (.iload 4, 2) := by decide +kernel
theorem dX10_deal_60 : decode cX10_deal 60 = .ok (.iload 5, 2) := by decide +kernel
theorem dX10_deal_62 : decode cX10_deal 62 = .ok (.aload_n 0, 1) := by decide +kernel
theorem dX10_deal_63 : decode cX10_deal 63 = .ok (.invokevirtual 148, 3) := by decide +kernel
theorem dX10_deal_66 : decode cX10_deal 66 = .ok (.bipush 60, 2) := by decide +kernel
theorem dX10_deal_68 : decode cX10_deal 68 = .ok (.irem, 1) := by decide +kernel
theorem dX10_deal_69 : decode cX10_deal 69 = .ok (.invokevirtual 99, 3) := by decide +kernel
theorem dX10_deal_72 : decode cX10_deal 72 = .ok (.istore 6, 2) := by decide +kernel
theorem dX10_deal_74 : decode cX10_deal 74 = .ok (.iinc 2 1, 3) := by decide +kernel
theorem dX10_deal_77 : decode cX10_deal 77 = .ok (.goto (-62), 3) := by decide +kernel
theorem dX10_deal_80 : decode cX10_deal 80 = .ok (.iload_n 2, 1) := by decide +kernel
theorem dX10_deal_81 : decode cX10_deal 81 = .ok (.ireturn, 1) := by decide +kernel
theorem dX10_seed_0 : decode cX10_seed 0 = .ok (.aload_n 0, 1) := by decide +kernel
theorem dX10_seed_1 : decode cX10_seed 1 = .ok (.iconst 0, 1) := by decide +kernel
theorem dX10_seed_2 : decode cX10_seed 2 = .ok (.iload_n 1, 1) := by decide +kernel
theorem dX10_seed_3 : decode cX10_seed 3 = .ok (.invokevirtual 125, 3) := by decide +kernel
theorem dX10_seed_6 : decode cX10_seed 6 = .ok (.ireturn, 1) := by decide +kernel
theorem dX10_nextStork_0 : decode cX10_nextStork 0 = .ok (.iconst (-1), 1) := by decide +kernel
theorem dX10_nextStork_1 : decode cX10_nextStork 1 = .ok (.istore_n 1, 1) := by decide +kernel
theorem dX10_nextStork_2 : decode cX10_nextStork 2 = .ok (.iconst 0, 1) := by decide +kernel
theorem dX10_nextStork_3 : decode cX10_nextStork 3 = .ok (.istore_n 2, 1) := by decide +kernel
theorem dX10_nextStork_4 : decode cX10_nextStork 4 = .ok (.iload_n 2, 1) := by decide +kernel
theorem dX10_nextStork_5 : decode cX10_nextStork 5 = .ok (.aload_n 0, 1) := by decide +kernel
theorem dX10_nextStork_6 : decode cX10_nextStork 6 = .ok (.getfield 9, 3) := by decide +kernel
theorem dX10_nextStork_9 : decode cX10_nextStork 9 = .ok (.iconst 2, 1) := by decide +kernel
theorem dX10_nextStork_10 : decode cX10_nextStork 10 = .ok (.iaload, 1) := by decide +kernel
theorem dX10_nextStork_11 : decode cX10_nextStork 11 = .ok (.if_icmp .ge 49, 3) := by decide +kernel
theorem dX10_nextStork_14 : decode cX10_nextStork 14 = .ok (.aload_n 0, 1) := by decide +kernel
theorem dX10_nextStork_15 : decode cX10_nextStork 15 = .ok (.getfield 29, 3) := by decide +kernel
theorem dX10_nextStork_18 : decode cX10_nextStork 18 = .ok (.iload_n 2, 1) := by decide +kernel
theorem dX10_nextStork_19 : decode cX10_nextStork 19 = .ok (.baload, 1) := by decide +kernel
theorem dX10_nextStork_20 : decode cX10_nextStork 20 = .ok (.ifCond .ne 34, 3) := by decide +kernel
theorem dX10_nextStork_23 : decode cX10_nextStork 23 = .ok (.aload_n 0, 1) := by decide +kernel
theorem dX10_nextStork_24 : decode cX10_nextStork 24 = .ok (.iload_n 2, 1) := by decide +kernel
theorem dX10_nextStork_25 : decode cX10_nextStork 25 = .ok (.invokevirtual 152, 3) := by decide +kernel
theorem dX10_nextStork_28 : decode cX10_nextStork 28 = .ok (.ifCond .ne 26, 3) := by decide +kernel
theorem dX10_nextStork_31 : decode cX10_nextStork 31 = .ok (.iload_n 1, 1) := by decide +kernel
theorem dX10_nextStork_32 : decode cX10_nextStork 32 = .ok (.ifCond .lt 16, 3) := by decide +kernel
theorem dX10_nextStork_35 : decode cX10_nextStork 35 = .ok (.aload_n 0, 1) := by decide +kernel
theorem dX10_nextStork_36 : decode cX10_nextStork 36 = .ok (.iload_n 2, 1) := by decide +kernel
theorem dX10_nextStork_37 : decode cX10_nextStork 37 = .ok (.invokevirtual 155, 3) := by decide +kernel
theorem dX10_nextStork_40 : decode cX10_nextStork 40 = .ok (.aload_n 0, 1) := by decide +kernel
theorem dX10_nextStork_41 : decode cX10_nextStork 41 = .ok (.iload_n 1, 1) := by decide +kernel
theorem dX10_nextStork_42 : decode cX10_nextStork 42 = .ok (.invokevirtual 155, 3) := by decide +kernel
theorem dX10_nextStork_45 : decode cX10_nextStork 45 = .ok (.if_icmp .le 7, 3) := by decide +kernel
theorem dX10_nextStork_48 : decode cX10_nextStork 48 = .ok (.iload_n 2, 1) := by decide +kernel
theorem dX10_nextStork_49 : decode cX10_nextStork 49 = .ok (.goto 4, 3) := by decide +kernel
theorem dX10_nextStork_52 : decode cX10_nextStork 52 = .ok (.iload_n 1, 1) := by decide +kernel
theorem dX10_nextStork_53 : decode cX10_nextStork 53 = .ok (.istore_n 1, 1) := by decide +kernel
theorem dX10_nextStork_54 : decode cX10_nextStork 54 = .ok (.iinc 2 1, 3) := by decide +kernel
theorem dX10_nextStork_57 : decode cX10_nextStork 57 = .ok (.goto (-53), 3) := by decide +kernel
theorem dX10_nextStork_60 : decode cX10_nextStork 60 = .ok (.iload_n 1, 1) := by decide +kernel
theorem dX10_nextStork_61 : decode cX10_nextStork 61 = .ok (.ireturn, 1) := by decide +kernel
theorem dX10_choiceOf_0 : decode cX10_choiceOf 0 = .ok (.iconst (-1), 1) := by decide +kernel
theorem dX10_choiceOf_1 : decode cX10_choiceOf 1 = .ok (.istore_n 2, 1) := by decide +kernel
theorem dX10_choiceOf_2 : decode cX10_choiceOf 2 = .ok (.iconst 0, 1) := by decide +kernel
theorem dX10_choiceOf_3 : decode cX10_choiceOf 3 = .ok (.istore_n 3, 1) := by decide +kernel
theorem dX10_choiceOf_4 : decode cX10_choiceOf 4 = .ok (.iconst 0, 1) := by decide +kernel
theorem dX10_choiceOf_5 : decode cX10_choiceOf 5 = .ok (.istore 4, 2) := by decide +kernel
theorem dX10_choiceOf_7 : decode cX10_choiceOf 7 = .ok (.iload 4, 2) := by decide +kernel
theorem dX10_choiceOf_9 : decode cX10_choiceOf 9 = .ok (.aload_n 0, 1) := by decide +kernel
theorem dX10_choiceOf_10 : decode cX10_choiceOf 10 = .ok (.getfield 9, 3) := by decide +kernel
theorem dX10_choiceOf_13 : decode cX10_choiceOf 13 = .ok (.iconst 1, 1) := by decide +kernel
theorem dX10_choiceOf_14 : decode cX10_choiceOf 14 = .ok (.iaload, 1) := by decide +kernel
theorem dX10_choiceOf_15 : decode cX10_choiceOf 15 = .ok (.if_icmp .ge 67, 3) := by decide +kernel
theorem dX10_choiceOf_18 : decode cX10_choiceOf 18 = .ok (.aload_n 0, 1) := by decide +kernel
theorem dX10_choiceOf_19 : decode cX10_choiceOf 19 = .ok (.getfield 23, 3) := by decide +kernel
theorem dX10_choiceOf_22 : decode cX10_choiceOf 22 = .ok (.iload 4, 2) := by decide +kernel
theorem dX10_choiceOf_24 : decode cX10_choiceOf 24 = .ok (.iaload, 1) := by decide +kernel
theorem dX10_choiceOf_25 : decode cX10_choiceOf 25 = .ok (.ifCond .ge 51, 3) := by decide +kernel
theorem dX10_choiceOf_28 : decode cX10_choiceOf 28 = .ok (.iload 4, 2) := by decide +kernel
theorem dX10_choiceOf_30 : decode cX10_choiceOf 30 = .ok (.aload_n 0, 1) := by decide +kernel
theorem dX10_choiceOf_31 : decode cX10_choiceOf 31 = .ok (.getfield 19, 3) := by decide +kernel
theorem dX10_choiceOf_34 : decode cX10_choiceOf 34 = .ok (.if_icmp .ne 6, 3) := by decide +kernel
theorem dX10_choiceOf_37 : decode cX10_choiceOf 37 = .ok (.goto 39, 3) := by decide +kernel
theorem dX10_choiceOf_40 : decode cX10_choiceOf 40 = .ok (.aload_n 0, 1) := by decide +kernel
theorem dX10_choiceOf_41 : decode cX10_choiceOf 41 = .ok (.iload_n 1, 1) := by decide +kernel
theorem dX10_choiceOf_42 : decode cX10_choiceOf 42 = .ok (.iload 4, 2) := by decide +kernel
theorem dX10_choiceOf_44 : decode cX10_choiceOf 44 = .ok (.invokevirtual 144, 3) := by decide +kernel
theorem dX10_choiceOf_47 : decode cX10_choiceOf 47 = .ok (.istore 5, 2) := by decide +kernel
theorem dX10_choiceOf_49 : decode cX10_choiceOf 49 = .ok (.iload 5, 2) := by decide +kernel
theorem dX10_choiceOf_51 : decode cX10_choiceOf 51 = .ok (.aload_n 0, 1) := by decide +kernel
theorem dX10_choiceOf_52 : decode cX10_choiceOf 52 = .ok (.getfield 9, 3) := by decide +kernel
theorem dX10_choiceOf_55 : decode cX10_choiceOf 55 = .ok (.iconst 4, 1) := by decide +kernel
theorem dX10_choiceOf_56 : decode cX10_choiceOf 56 = .ok (.iaload, 1) := by decide +kernel
theorem dX10_choiceOf_57 : decode cX10_choiceOf 57 = .ok (.if_icmp .lt 19, 3) := by decide +kernel
theorem dX10_choiceOf_60 : decode cX10_choiceOf 60 = .ok (.iload_n 2, 1) := by decide +kernel
theorem dX10_choiceOf_61 : decode cX10_choiceOf 61 = .ok (.ifCond .lt 9, 3) := by decide +kernel
theorem dX10_choiceOf_64 : decode cX10_choiceOf 64 = .ok (.iload 5, 2) := by decide +kernel
theorem dX10_choiceOf_66 : decode cX10_choiceOf 66 = .ok (.iload_n 3, 1) := by decide +kernel
theorem dX10_choiceOf_67 : decode cX10_choiceOf 67 = .ok (.if_icmp .le 9, 3) := by decide +kernel
theorem dX10_choiceOf_70 : decode cX10_choiceOf 70 = .ok (.iload 4, 2) := by decide +kernel
theorem dX10_choiceOf_72 : decode cX10_choiceOf 72 = .ok (.istore_n 2, 1) := by decide +kernel
theorem dX10_choiceOf_73 : decode cX10_choiceOf 73 = .ok (.iload 5, 2) := by decide +kernel
theorem dX10_choiceOf_75 : decode cX10_choiceOf 75 = .ok (.istore_n 3, 1) := by decide +kernel
theorem dX10_choiceOf_76 : decode cX10_choiceOf 76 = .ok (.iinc 4 1, 3) := by decide +kernel
theorem dX10_choiceOf_79 : decode cX10_choiceOf 79 = .ok (.goto (-72), 3) := by decide +kernel
theorem dX10_choiceOf_82 : decode cX10_choiceOf 82 = .ok (.iload_n 2, 1) := by decide +kernel
theorem dX10_choiceOf_83 : decode cX10_choiceOf 83 = .ok (.ireturn, 1) := by decide +kernel
theorem dX10_spring_0 : decode cX10_spring 0 = .ok (.iconst 0, 1) := by decide +kernel
theorem dX10_spring_1 : decode cX10_spring 1 = .ok (.istore_n 1, 1) := by decide +kernel
theorem dX10_spring_2 : decode cX10_spring 2 = .ok (.iload_n 1, 1) := by decide +kernel
theorem dX10_spring_3 : decode cX10_spring 3 = .ok (.bipush 8, 2) := by decide +kernel
theorem dX10_spring_5 : decode cX10_spring 5 = .ok (.if_icmp .ge 16, 3) := by decide +kernel
theorem dX10_spring_8 : decode cX10_spring 8 = .ok (.aload_n 0, 1) := by decide +kernel
theorem dX10_spring_9 : decode cX10_spring 9 = .ok (.getfield 23, 3) := by decide +kernel
theorem dX10_spring_12 : decode cX10_spring 12 = .ok (.iload_n 1, 1) := by decide +kernel
theorem dX10_spring_13 : decode cX10_spring 13 = .ok (.iconst (-1), 1) := by decide +kernel
theorem dX10_spring_14 : decode cX10_spring 14 = .ok (.iastore, 1) := by decide +kernel
theorem dX10_spring_15 : decode cX10_spring 15 = .ok (.iinc 1 1, 3) := by decide +kernel
theorem dX10_spring_18 : decode cX10_spring 18 = .ok (.goto (-16), 3) := by decide +kernel
theorem dX10_spring_21 : decode cX10_spring 21 = .ok (.iconst 0, 1) := by decide +kernel
theorem dX10_spring_22 : decode cX10_spring 22 = .ok (.istore_n 1, 1) := by decide +kernel
theorem dX10_spring_23 : decode cX10_spring 23 = .ok (.iload_n 1, 1) := by decide +kernel
theorem dX10_spring_24 : decode cX10_spring 24 = .ok (.bipush 10, 2) := by decide +kernel
theorem dX10_spring_26 : decode cX10_spring 26 = .ok (.if_icmp .ge 23, 3) := by decide +kernel
theorem dX10_spring_29 : decode cX10_spring 29 = .ok (.aload_n 0, 1) := by decide +kernel
theorem dX10_spring_30 : decode cX10_spring 30 = .ok (.getfield 26, 3) := by decide +kernel
theorem dX10_spring_33 : decode cX10_spring 33 = .ok (.iload_n 1, 1) := by decide +kernel
theorem dX10_spring_34 : decode cX10_spring 34 = .ok (.iconst (-1), 1) := by decide +kernel
theorem dX10_spring_35 : decode cX10_spring 35 = .ok (.iastore, 1) := by decide +kernel
theorem dX10_spring_36 : decode cX10_spring 36 = .ok (.aload_n 0, 1) := by decide +kernel
theorem dX10_spring_37 : decode cX10_spring 37 = .ok (.getfield 29, 3) := by decide +kernel
theorem dX10_spring_40 : decode cX10_spring 40 = .ok (.iload_n 1, 1) := by decide +kernel
theorem dX10_spring_41 : decode cX10_spring 41 = .ok (.iconst 0, 1) := by decide +kernel
theorem dX10_spring_42 : decode cX10_spring 42 = .ok (.bastore, 1) := by decide +kernel
theorem dX10_spring_43 : decode cX10_spring 43 = .ok (.iinc 1 1, 3) := by decide +kernel
theorem dX10_spring_46 : decode cX10_spring 46 = .ok (.goto (-23), 3) := by decide +kernel
theorem dX10_spring_49 : decode cX10_spring 49 = .ok (.aload_n 0, 1) := by decide +kernel
theorem dX10_spring_50 : decode cX10_spring 50 = .ok (.invokevirtual 158, 3) := by decide +kernel
theorem dX10_spring_53 : decode cX10_spring 53 = .ok (.istore_n 1, 1) := by decide +kernel
theorem dX10_spring_54 : decode cX10_spring 54 = .ok (.iload_n 1, 1) := by decide +kernel
theorem dX10_spring_55 : decode cX10_spring 55 = .ok (.ifCond .lt 50, 3) := by decide +kernel
theorem dX10_spring_58 : decode cX10_spring 58 = .ok (.aload_n 0, 1) := by decide +kernel
theorem dX10_spring_59 : decode cX10_spring 59 = .ok (.getfield 29, 3) := by decide +kernel
theorem dX10_spring_62 : decode cX10_spring 62 = .ok (.iload_n 1, 1) := by decide +kernel
theorem dX10_spring_63 : decode cX10_spring 63 = .ok (.iconst 1, 1) := by decide +kernel
theorem dX10_spring_64 : decode cX10_spring 64 = .ok (.bastore, 1) := by decide +kernel
theorem dX10_spring_65 : decode cX10_spring 65 = .ok (.aload_n 0, 1) := by decide +kernel
theorem dX10_spring_66 : decode cX10_spring 66 = .ok (.getfield 26, 3) := by decide +kernel
theorem dX10_spring_69 : decode cX10_spring 69 = .ok (.iload_n 1, 1) := by decide +kernel
theorem dX10_spring_70 : decode cX10_spring 70 = .ok (.aload_n 0, 1) := by decide +kernel
theorem dX10_spring_71 : decode cX10_spring 71 = .ok (.iload_n 1, 1) := by decide +kernel
theorem dX10_spring_72 : decode cX10_spring 72 = .ok (.invokevirtual 161, 3) := by decide +kernel
theorem dX10_spring_75 : decode cX10_spring 75 = .ok (.iastore, 1) := by decide +kernel
theorem dX10_spring_76 : decode cX10_spring 76 = .ok (.aload_n 0, 1) := by decide +kernel
theorem dX10_spring_77 : decode cX10_spring 77 = .ok (.getfield 26, 3) := by decide +kernel
theorem dX10_spring_80 : decode cX10_spring 80 = .ok (.iload_n 1, 1) := by decide +kernel
theorem dX10_spring_81 : decode cX10_spring 81 = .ok (.iaload, 1) := by decide +kernel
theorem dX10_spring_82 : decode cX10_spring 82 = .ok (.ifCond .lt 15, 3) := by decide +kernel
theorem dX10_spring_85 : decode cX10_spring 85 = .ok (.aload_n 0, 1) := by decide +kernel
theorem dX10_spring_86 : decode cX10_spring 86 = .ok (.getfield 23, 3) := by decide +kernel
theorem dX10_spring_89 : decode cX10_spring 89 = .ok (.aload_n 0, 1) := by decide +kernel
theorem dX10_spring_90 : decode cX10_spring 90 = .ok (.getfield 26, 3) := by decide +kernel
theorem dX10_spring_93 : decode cX10_spring 93 = .ok (.iload_n 1, 1) := by decide +kernel
theorem dX10_spring_94 : decode cX10_spring 94 = .ok (.iaload, 1) := by decide +kernel
theorem dX10_spring_95 : decode cX10_spring 95 = .ok (.iload_n 1, 1) := by decide +kernel
theorem dX10_spring_96 : decode cX10_spring 96 = .ok (.iastore, 1) := by decide +kernel
theorem dX10_spring_97 : decode cX10_spring 97 = .ok (.aload_n 0, 1) := by decide +kernel
theorem dX10_spring_98 : decode cX10_spring 98 = .ok (.invokevirtual 158, 3) := by decide +kernel
theorem dX10_spring_101 : decode cX10_spring 101 = .ok (.istore_n 1, 1) := by decide +kernel
theorem dX10_spring_102 : decode cX10_spring 102 = .ok (.goto (-48), 3) := by decide +kernel
theorem dX10_spring_105 : decode cX10_spring 105 = .ok (.return_, 1) := by decide +kernel
theorem dX10_nestsIn_0 : decode cX10_nestsIn 0 = .ok (.iconst 0, 1) := by decide +kernel
theorem dX10_nestsIn_1 : decode cX10_nestsIn 1 = .ok (.istore_n 2, 1) := by decide +kernel
theorem dX10_nestsIn_2 : decode cX10_nestsIn 2 = .ok (.iconst 0, 1) := by decide +kernel
theorem dX10_nestsIn_3 : decode cX10_nestsIn 3 = .ok (.istore_n 3, 1) := by decide +kernel
theorem dX10_nestsIn_4 : decode cX10_nestsIn 4 = .ok (.iload_n 3, 1) := by decide +kernel
theorem dX10_nestsIn_5 : decode cX10_nestsIn 5 = .ok (.aload_n 0, 1) := by decide +kernel
theorem dX10_nestsIn_6 : decode cX10_nestsIn 6 = .ok (.getfield 9, 3) := by decide +kernel
theorem dX10_nestsIn_9 : decode cX10_nestsIn 9 = .ok (.iconst 1, 1) := by decide +kernel
theorem dX10_nestsIn_10 : decode cX10_nestsIn 10 = .ok (.iaload, 1) := by decide +kernel
theorem dX10_nestsIn_11 : decode cX10_nestsIn 11 = .ok (.if_icmp .ge 36, 3) := by decide +kernel
theorem dX10_nestsIn_14 : decode cX10_nestsIn 14 = .ok (.iload_n 2, 1) := by decide +kernel
theorem dX10_nestsIn_15 : decode cX10_nestsIn 15 = .ok (.aload_n 0, 1) := by decide +kernel
theorem dX10_nestsIn_16 : decode cX10_nestsIn 16 = .ok (.iload_n 3, 1) := by decide +kernel
theorem dX10_nestsIn_17 : decode cX10_nestsIn 17 = .ok (.iconst 1, 1) := by decide +kernel
theorem dX10_nestsIn_18 : decode cX10_nestsIn 18 = .ok (.invokevirtual 103, 3) := by decide +kernel
theorem dX10_nestsIn_21 : decode cX10_nestsIn 21 = .ok (.iload_n 1, 1) := by decide +kernel
theorem dX10_nestsIn_22 : decode cX10_nestsIn 22 = .ok (.if_icmp .ne 16, 3) := by decide +kernel
theorem dX10_nestsIn_25 : decode cX10_nestsIn 25 = .ok (.aload_n 0, 1) := by decide +kernel
theorem dX10_nestsIn_26 : decode cX10_nestsIn 26 = .ok (.getfield 23, 3) := by decide +kernel
theorem dX10_nestsIn_29 : decode cX10_nestsIn 29 = .ok (.iload_n 3, 1) := by decide +kernel
theorem dX10_nestsIn_30 : decode cX10_nestsIn 30 = .ok (.iaload, 1) := by decide +kernel
theorem dX10_nestsIn_31 : decode cX10_nestsIn 31 = .ok (.ifCond .lt 7, 3) := by decide +kernel
theorem dX10_nestsIn_34 : decode cX10_nestsIn 34 = .ok (.iconst 1, 1) := by decide +kernel
theorem dX10_nestsIn_35 : decode cX10_nestsIn 35 = .ok (.goto 4, 3) := by decide +kernel
theorem dX10_nestsIn_38 : decode cX10_nestsIn 38 = .ok (.iconst 0, 1) := by decide +kernel
theorem dX10_nestsIn_39 : decode cX10_nestsIn 39 = .ok (.iadd, 1) := by decide +kernel
theorem dX10_nestsIn_40 : decode cX10_nestsIn 40 = .ok (.istore_n 2, 1) := by decide +kernel
theorem dX10_nestsIn_41 : decode cX10_nestsIn 41 = .ok (.iinc 3 1, 3) := by decide +kernel
theorem dX10_nestsIn_44 : decode cX10_nestsIn 44 = .ok (.goto (-40), 3) := by decide +kernel
theorem dX10_nestsIn_47 : decode cX10_nestsIn 47 = .ok (.iload_n 2, 1) := by decide +kernel
theorem dX10_nestsIn_48 : decode cX10_nestsIn 48 = .ok (.ireturn, 1) := by decide +kernel
theorem dX10_seatsOf_0 : decode cX10_seatsOf 0 = .ok (.aload_n 0, 1) := by decide +kernel
theorem dX10_seatsOf_1 : decode cX10_seatsOf 1 = .ok (.iload_n 1, 1) := by decide +kernel
theorem dX10_seatsOf_2 : decode cX10_seatsOf 2 = .ok (.invokevirtual 164, 3) := by decide +kernel
theorem dX10_seatsOf_5 : decode cX10_seatsOf 5 = .ok (.istore_n 2, 1) := by decide +kernel
theorem dX10_seatsOf_6 : decode cX10_seatsOf 6 = .ok (.aload_n 0, 1) := by decide +kernel
theorem dX10_seatsOf_7 : decode cX10_seatsOf 7 = .ok (.iconst 1, 1) := by decide +kernel
theorem dX10_seatsOf_8 : decode cX10_seatsOf 8 = .ok (.invokevirtual 134, 3) := by decide +kernel
theorem dX10_seatsOf_11 : decode cX10_seatsOf 11 = .ok (.istore_n 3, 1) := by decide +kernel
theorem dX10_seatsOf_12 : decode cX10_seatsOf 12 = .ok (.aload_n 0, 1) := by decide +kernel
theorem dX10_seatsOf_13 : decode cX10_seatsOf 13 = .ok (.getfield 58, 3) := by decide +kernel
theorem dX10_seatsOf_16 : decode cX10_seatsOf 16 = .ok (.iconst 0, 1) := by decide +kernel
theorem dX10_seatsOf_17 : decode cX10_seatsOf 17 = .ok (.iload_n 2, 1) := by decide +kernel
theorem dX10_seatsOf_18 : decode cX10_seatsOf 18 = .ok (.iastore, 1) := by decide +kernel
theorem dX10_seatsOf_19 : decode cX10_seatsOf 19 = .ok (.aload_n 0, 1) := by decide +kernel
theorem dX10_seatsOf_20 : decode cX10_seatsOf 20 = .ok (.getfield 58, 3) := by decide +kernel
theorem dX10_seatsOf_23 : decode cX10_seatsOf 23 = .ok (.iconst 1, 1) := by decide +kernel
theorem dX10_seatsOf_24 : decode cX10_seatsOf 24 = .ok (.iload_n 1, 1) := by decide +kernel
theorem dX10_seatsOf_25 : decode cX10_seatsOf 25 = .ok (.iastore, 1) := by decide +kernel
theorem dX10_seatsOf_26 : decode cX10_seatsOf 26 = .ok (.iload_n 3, 1) := by decide +kernel
theorem dX10_seatsOf_27 : decode cX10_seatsOf 27 = .ok (.ifCond .ge 7, 3) := by decide +kernel
theorem dX10_seatsOf_30 : decode cX10_seatsOf 30 = .ok (.iload_n 2, 1) := by decide +kernel
theorem dX10_seatsOf_31 : decode cX10_seatsOf 31 = .ok (.goto 15, 3) := by decide +kernel
theorem dX10_seatsOf_34 : decode cX10_seatsOf 34 = .ok (.aload_n 0, 1) := by decide +kernel
theorem dX10_seatsOf_35 : decode cX10_seatsOf 35 = .ok (.iload_n 3, 1) := by decide +kernel
theorem dX10_seatsOf_36 : decode cX10_seatsOf 36 = .ok (.invokevirtual 137, 3) := by decide +kernel
theorem dX10_seatsOf_39 : decode cX10_seatsOf 39 = .ok (.iconst 0, 1) := by decide +kernel
theorem dX10_seatsOf_40 : decode cX10_seatsOf 40 = .ok (.sipush 999, 3) := by decide +kernel
theorem dX10_seatsOf_43 : decode cX10_seatsOf 43 = .ok (.invokestatic 140, 3) := by decide +kernel
theorem dX10_seatsOf_46 : decode cX10_seatsOf 46 = .ok (.ireturn, 1) := by decide +kernel
theorem dX10_electedNow_0 : decode cX10_electedNow 0 = .ok (.aload_n 0, 1) := by decide +kernel
theorem dX10_electedNow_1 : decode cX10_electedNow 1 = .ok (.invokevirtual 114, 3) := by decide +kernel
theorem dX10_electedNow_4 : decode cX10_electedNow 4 = .ok (.iconst 0, 1) := by decide +kernel
theorem dX10_electedNow_5 : decode cX10_electedNow 5 = .ok (.istore_n 1, 1) := by decide +kernel
theorem dX10_electedNow_6 : decode cX10_electedNow 6 = .ok (.aload_n 0, 1) := by decide +kernel
theorem dX10_electedNow_7 : decode cX10_electedNow 7 = .ok (.iconst 0, 1) := by decide +kernel
theorem dX10_electedNow_8 : decode cX10_electedNow 8 = .ok (.invokevirtual 167, 3) := by decide +kernel
theorem dX10_electedNow_11 : decode cX10_electedNow 11 = .ok (.istore_n 2, 1) := by decide +kernel
theorem dX10_electedNow_12 : decode cX10_electedNow 12 = .ok (.iconst 1, 1) := by decide +kernel
theorem dX10_electedNow_13 : decode cX10_electedNow 13 = .ok (.istore_n 3, 1) := by decide +kernel
theorem dX10_electedNow_14 : decode cX10_electedNow 14 = .ok (.iload_n 3, 1) := by decide +kernel
theorem dX10_electedNow_15 : decode cX10_electedNow 15 = .ok (.iconst 4, 1) := by decide +kernel
theorem dX10_electedNow_16 : decode cX10_electedNow 16 = .ok (.if_icmp .ge 41, 3) := by decide +kernel
theorem dX10_electedNow_19 : decode cX10_electedNow 19 = .ok (.aload_n 0, 1) := by decide +kernel
theorem dX10_electedNow_20 : decode cX10_electedNow 20 = .ok (.iload_n 3, 1) := by decide +kernel
theorem dX10_electedNow_21 : decode cX10_electedNow 21 = .ok (.invokevirtual 167, 3) := by decide +kernel
theorem dX10_electedNow_24 : decode cX10_electedNow 24 = .ok (.istore 4, 2) := by decide +kernel
theorem dX10_electedNow_26 : decode cX10_electedNow 26 = .ok (.iload 4, 2) := by decide +kernel
theorem dX10_electedNow_28 : decode cX10_electedNow 28 = .ok (.iload_n 2, 1) := by decide +kernel
theorem dX10_electedNow_29 : decode cX10_electedNow 29 = .ok (.if_icmp .le 7, 3) := by decide +kernel
theorem dX10_electedNow_32 : decode cX10_electedNow 32 = .ok (.iload_n 3, 1) := by decide +kernel
theorem dX10_electedNow_33 : decode cX10_electedNow 33 = .ok (.goto 4, 3) := by decide +kernel
theorem dX10_electedNow_36 : decode cX10_electedNow 36 = .ok (.iload_n 1, 1) := by decide +kernel
theorem dX10_electedNow_37 : decode cX10_electedNow 37 = .ok (.istore_n 1, 1) := by decide +kernel
theorem dX10_electedNow_38 : decode cX10_electedNow 38 = .ok (.iload 4, 2) := by decide +kernel
theorem dX10_electedNow_40 : decode cX10_electedNow 40 = .ok (.iload_n 2, 1) := by decide +kernel
theorem dX10_electedNow_41 : decode cX10_electedNow 41 = .ok (.if_icmp .le 8, 3) := by decide +kernel
theorem dX10_electedNow_44 : decode cX10_electedNow 44 = .ok (.iload 4, 2) := by decide +kernel
theorem dX10_electedNow_46 : decode cX10_electedNow 46 = .ok (.goto 4, 3) := by decide +kernel
theorem dX10_electedNow_49 : decode cX10_electedNow 49 = .ok (.iload_n 2, 1) := by decide +kernel
theorem dX10_electedNow_50 : decode cX10_electedNow 50 = .ok (.istore_n 2, 1) := by decide +kernel
theorem dX10_electedNow_51 : decode cX10_electedNow 51 = .ok (.iinc 3 1, 3) := by decide +kernel
theorem dX10_electedNow_54 : decode cX10_electedNow 54 = .ok (.goto (-40), 3) := by decide +kernel
theorem dX10_electedNow_57 : decode cX10_electedNow 57 = .ok (.iload_n 1, 1) := by decide +kernel
theorem dX10_electedNow_58 : decode cX10_electedNow 58 = .ok (.ireturn, 1) := by decide +kernel
theorem dX10_ward_0 : decode cX10_ward 0 = .ok (.iload_n 1, 1) := by decide +kernel
theorem dX10_ward_1 : decode cX10_ward 1 = .ok (.invokestatic 93, 3) := by decide +kernel
theorem dX10_ward_4 : decode cX10_ward 4 = .ok (.ifCond .eq 12, 3) := by decide +kernel
theorem dX10_ward_7 : decode cX10_ward 7 = .ok (.iload_n 2, 1) := by decide +kernel
theorem dX10_ward_8 : decode cX10_ward 8 = .ok (.iconst 0, 1) := by decide +kernel
theorem dX10_ward_9 : decode cX10_ward 9 = .ok (.iconst 1, 1) := by decide +kernel
theorem dX10_ward_10 : decode cX10_ward 10 = .ok (.invokestatic 89, 3) := by decide +kernel
theorem dX10_ward_13 : decode cX10_ward 13 = .ok (.ifCond .ne 6, 3) := by decide +kernel
theorem dX10_ward_16 : decode cX10_ward 16 = .ok (.ldc 97, 2) := by decide +kernel
theorem dX10_ward_18 : decode cX10_ward 18 = .ok (.ireturn, 1) := by decide +kernel
theorem dX10_ward_19 : decode cX10_ward 19 = .ok (.aload_n 0, 1) := by decide +kernel
theorem dX10_ward_20 : decode cX10_ward 20 = .ok (.invokevirtual 114, 3) := by decide +kernel
theorem dX10_ward_23 : decode cX10_ward 23 = .ok (.iload_n 2, 1) := by decide +kernel
theorem dX10_ward_24 : decode cX10_ward 24 = .ok (.ifCond .ne 11, 3) := by decide +kernel
theorem dX10_ward_27 : decode cX10_ward 27 = .ok (.aload_n 0, 1) := by decide +kernel
theorem dX10_ward_28 : decode cX10_ward 28 = .ok (.iload_n 1, 1) := by decide +kernel
theorem dX10_ward_29 : decode cX10_ward 29 = .ok (.invokevirtual 164, 3) := by decide +kernel
theorem dX10_ward_32 : decode cX10_ward 32 = .ok (.goto 8, 3) := by decide +kernel
theorem dX10_ward_35 : decode cX10_ward 35 = .ok (.aload_n 0, 1) := by decide +kernel
theorem dX10_ward_36 : decode cX10_ward 36 = .ok (.iload_n 1, 1) := by decide +kernel
theorem dX10_ward_37 : decode cX10_ward 37 = .ok (.invokevirtual 167, 3) := by decide +kernel
theorem dX10_ward_40 : decode cX10_ward 40 = .ok (.ireturn, 1) := by decide +kernel
theorem dX10_elected_0 : decode cX10_elected 0 = .ok (.aload_n 0, 1) := by decide +kernel
theorem dX10_elected_1 : decode cX10_elected 1 = .ok (.invokevirtual 170, 3) := by decide +kernel
theorem dX10_elected_4 : decode cX10_elected 4 = .ok (.ireturn, 1) := by decide +kernel
theorem dX10_year_0 : decode cX10_year 0 = .ok (.aload_n 0, 1) := by decide +kernel
theorem dX10_year_1 : decode cX10_year 1 = .ok (.invokevirtual 114, 3) := by decide +kernel
theorem dX10_year_4 : decode cX10_year 4 = .ok (.aload_n 0, 1) := by decide +kernel
theorem dX10_year_5 : decode cX10_year 5 = .ok (.getfield 9, 3) := by decide +kernel
theorem dX10_year_8 : decode cX10_year 8 = .ok (.iconst 2, 1) := by decide +kernel
theorem dX10_year_9 : decode cX10_year 9 = .ok (.iaload, 1) := by decide +kernel
theorem dX10_year_10 : decode cX10_year 10 = .ok (.istore_n 1, 1) := by decide +kernel
theorem dX10_year_11 : decode cX10_year 11 = .ok (.iconst 0, 1) := by decide +kernel
theorem dX10_year_12 : decode cX10_year 12 = .ok (.istore_n 2, 1) := by decide +kernel
theorem dX10_year_13 : decode cX10_year 13 = .ok (.iconst 0, 1) := by decide +kernel
theorem dX10_year_14 : decode cX10_year 14 = .ok (.istore_n 3, 1) := by decide +kernel
theorem dX10_year_15 : decode cX10_year 15 = .ok (.iload_n 3, 1) := by decide +kernel
theorem dX10_year_16 : decode cX10_year 16 = .ok (.iload_n 1, 1) := by decide +kernel
theorem dX10_year_17 : decode cX10_year 17 = .ok (.if_icmp .ge 117, 3) := by decide +kernel
theorem dX10_year_20 : decode cX10_year 20 = .ok (.aload_n 0, 1) := by decide +kernel
theorem dX10_year_21 : decode cX10_year 21 = .ok (.iload_n 3, 1) := by decide +kernel
theorem dX10_year_22 : decode cX10_year 22 = .ok (.invokevirtual 152, 3) := by decide +kernel
theorem dX10_year_25 : decode cX10_year 25 = .ok (.ifCond .eq 6, 3) := by decide +kernel
theorem dX10_year_28 : decode cX10_year 28 = .ok (.goto 100, 3) := by decide +kernel
theorem dX10_year_31 : decode cX10_year 31 = .ok (.aload_n 0, 1) := by decide +kernel
theorem dX10_year_32 : decode cX10_year 32 = .ok (.invokevirtual 148, 3) := by decide +kernel
theorem dX10_year_35 : decode cX10_year 35 = .ok (.bipush 100, 2) := by decide +kernel
theorem dX10_year_37 : decode cX10_year 37 = .ok (.irem, 1) := by decide +kernel
theorem dX10_year_38 : decode cX10_year 38 = .ok (.istore 4, 2) := by decide +kernel
theorem dX10_year_40 : decode cX10_year 40 = .ok (.aload_n 0, 1) := by decide +kernel
theorem dX10_year_41 : decode cX10_year 41 = .ok (.getfield 26, 3) := by decide +kernel
theorem dX10_year_44 : decode cX10_year 44 = .ok (.iload_n 3, 1) := by decide +kernel
theorem dX10_year_45 : decode cX10_year 45 = .ok (.iaload, 1) := by decide +kernel
theorem dX10_year_46 : decode cX10_year 46 = .ok (.ifCond .ge 36, 3) := by decide +kernel
theorem dX10_year_49 : decode cX10_year 49 = .ok (.aload_n 0, 1) := by decide +kernel
theorem dX10_year_50 : decode cX10_year 50 = .ok (.getfield 9, 3) := by decide +kernel
theorem dX10_year_53 : decode cX10_year 53 = .ok (.bipush 8, 2) := by decide +kernel
theorem dX10_year_55 : decode cX10_year 55 = .ok (.iconst 3, 1) := by decide +kernel
theorem dX10_year_56 : decode cX10_year 56 = .ok (.iload_n 3, 1) := by decide +kernel
theorem dX10_year_57 : decode cX10_year 57 = .ok (.imul, 1) := by decide +kernel
theorem dX10_year_58 : decode cX10_year 58 = .ok (.iadd, 1) := by decide +kernel
theorem dX10_year_59 : decode cX10_year 59 = .ok (.iconst 2, 1) := by decide +kernel
theorem dX10_year_60 : decode cX10_year 60 = .ok (.iadd, 1) := by decide +kernel
theorem dX10_year_61 : decode cX10_year 61 = .ok (.iload 4, 2) := by decide +kernel
theorem dX10_year_63 : decode cX10_year 63 = .ok (.aload_n 0, 1) := by decide +kernel
theorem dX10_year_64 : decode cX10_year 64 = .ok (.getfield 9, 3) := by decide +kernel
theorem dX10_year_67 : decode cX10_year 67 = .ok (.bipush 6, 2) := by decide +kernel
theorem dX10_year_69 : decode cX10_year 69 = .ok (.iaload, 1) := by decide +kernel
theorem dX10_year_70 : decode cX10_year 70 = .ok (.if_icmp .ge 7, 3) := by decide +kernel
theorem dX10_year_73 : decode cX10_year 73 = .ok (.iconst 1, 1) := by decide +kernel
theorem dX10_year_74 : decode cX10_year 74 = .ok (.goto 4, 3) := by decide +kernel
theorem dX10_year_77 : decode cX10_year 77 = .ok (.iconst 0, 1) := by decide +kernel
theorem dX10_year_78 : decode cX10_year 78 = .ok (.iastore, 1) := by decide +kernel
theorem dX10_year_79 : decode cX10_year 79 = .ok (.goto 49, 3) := by decide +kernel
theorem dX10_year_82 : decode cX10_year 82 = .ok (.iload 4, 2) := by decide +kernel
theorem dX10_year_84 : decode cX10_year 84 = .ok (.aload_n 0, 1) := by decide +kernel
theorem dX10_year_85 : decode cX10_year 85 = .ok (.getfield 9, 3) := by decide +kernel
theorem dX10_year_88 : decode cX10_year 88 = .ok (.iconst 5, 1) := by decide +kernel
theorem dX10_year_89 : decode cX10_year 89 = .ok (.iaload, 1) := by decide +kernel
theorem dX10_year_90 : decode cX10_year 90 = .ok (.if_icmp .ge 38, 3) := by decide +kernel
theorem dX10_year_93 : decode cX10_year 93 = .ok (.aload_n 0, 1) := by decide +kernel
theorem dX10_year_94 : decode cX10_year 94 = .ok (.getfield 9, 3) := by decide +kernel
theorem dX10_year_97 : decode cX10_year 97 = .ok (.iconst 2, 1) := by decide +kernel
theorem dX10_year_98 : decode cX10_year 98 = .ok (.iaload, 1) := by decide +kernel
theorem dX10_year_99 : decode cX10_year 99 = .ok (.bipush 10, 2) := by decide +kernel
theorem dX10_year_101 : decode cX10_year 101 = .ok (.if_icmp .ge 27, 3) := by decide +kernel
theorem dX10_year_104 : decode cX10_year 104 = .ok (.aload_n 0, 1) := by decide +kernel
theorem dX10_year_105 : decode cX10_year 105 = .ok (.iconst 1, 1) := by decide +kernel
theorem dX10_year_106 : decode cX10_year 106 = .ok (.aload_n 0, 1) := by decide +kernel
theorem dX10_year_107 : decode cX10_year 107 = .ok (.invokevirtual 148, 3) := by decide +kernel
theorem dX10_year_110 : decode cX10_year 110 = .ok (.bipush 20, 2) := by decide +kernel
theorem dX10_year_112 : decode cX10_year 112 = .ok (.irem, 1) := by decide +kernel
theorem dX10_year_113 : decode cX10_year 113 = .ok (.iadd, 1) := by decide +kernel
theorem dX10_year_114 : decode cX10_year 114 = .ok (.aload_n 0, 1) := by decide +kernel
theorem dX10_year_115 : decode cX10_year 115 = .ok (.getfield 26, 3) := by decide +kernel
theorem dX10_year_118 : decode cX10_year 118 = .ok (.iload_n 3, 1) := by decide +kernel
theorem dX10_year_119 : decode cX10_year 119 = .ok (.iaload, 1) := by decide +kernel
theorem dX10_year_120 : decode cX10_year 120 = .ok (.invokevirtual 128, 3) := by decide +kernel
theorem dX10_year_123 : decode cX10_year 123 = .ok (.istore 5, 2) := by decide +kernel
theorem dX10_year_125 : decode cX10_year 125 = .ok (.iinc 2 1, 3) := by decide +kernel
theorem dX10_year_128 : decode cX10_year 128 = .ok (.iinc 3 1, 3) := by decide +kernel
theorem dX10_year_131 : decode cX10_year 131 = .ok (.goto (-116), 3) := by decide +kernel
theorem dX10_year_134 : decode cX10_year 134 = .ok (.aload_n 0, 1) := by decide +kernel
theorem dX10_year_135 : decode cX10_year 135 = .ok (.getfield 9, 3) := by decide +kernel
theorem dX10_year_138 : decode cX10_year 138 = .ok (.iconst 3, 1) := by decide +kernel
theorem dX10_year_139 : decode cX10_year 139 = .ok (.dup2, 1) := by decide +kernel
theorem dX10_year_140 : decode cX10_year 140 = .ok (.iaload, 1) := by decide +kernel
theorem dX10_year_141 : decode cX10_year 141 = .ok (.iconst 1, 1) := by decide +kernel
theorem dX10_year_142 : decode cX10_year 142 = .ok (.iadd, 1) := by decide +kernel
theorem dX10_year_143 : decode cX10_year 143 = .ok (.iastore, 1) := by decide +kernel
theorem dX10_year_144 : decode cX10_year 144 = .ok (.iload_n 2, 1) := by decide +kernel
theorem dX10_year_145 : decode cX10_year 145 = .ok (.ireturn, 1) := by decide +kernel
theorem dX10_goesOn_0 : decode cX10_goesOn 0 = .ok (.iconst 0, 1) := by decide +kernel
theorem dX10_goesOn_1 : decode cX10_goesOn 1 = .ok (.istore_n 2, 1) := by decide +kernel
theorem dX10_goesOn_2 : decode cX10_goesOn 2 = .ok (.iconst 0, 1) := by decide +kernel
theorem dX10_goesOn_3 : decode cX10_goesOn 3 = .ok (.istore_n 3, 1) := by decide +kernel
theorem dX10_goesOn_4 : decode cX10_goesOn 4 = .ok (.iload_n 3, 1) := by decide +kernel
theorem dX10_goesOn_5 : decode cX10_goesOn 5 = .ok (.iload_n 1, 1) := by decide +kernel
theorem dX10_goesOn_6 : decode cX10_goesOn 6 = .ok (.if_icmp .ge 16, 3) := by decide +kernel
theorem dX10_goesOn_9 : decode cX10_goesOn 9 = .ok (.iload_n 2, 1) := by decide +kernel
theorem dX10_goesOn_10 : decode cX10_goesOn 10 = .ok (.aload_n 0, 1) := by decide +kernel
theorem dX10_goesOn_11 : decode cX10_goesOn 11 = .ok (.invokevirtual 173, 3) := by decide +kernel
theorem dX10_goesOn_14 : decode cX10_goesOn 14 = .ok (.iadd, 1) := by decide +kernel
theorem dX10_goesOn_15 : decode cX10_goesOn 15 = .ok (.istore_n 2, 1) := by decide +kernel
theorem dX10_goesOn_16 : decode cX10_goesOn 16 = .ok (.iinc 3 1, 3) := by decide +kernel
theorem dX10_goesOn_19 : decode cX10_goesOn 19 = .ok (.goto (-15), 3) := by decide +kernel
theorem dX10_goesOn_22 : decode cX10_goesOn 22 = .ok (.iload_n 2, 1) := by decide +kernel
theorem dX10_goesOn_23 : decode cX10_goesOn 23 = .ok (.ireturn, 1) := by decide +kernel
theorem dX10_years_0 : decode cX10_years 0 = .ok (.iload_n 1, 1) := by decide +kernel
theorem dX10_years_1 : decode cX10_years 1 = .ok (.iconst 1, 1) := by decide +kernel
theorem dX10_years_2 : decode cX10_years 2 = .ok (.bipush 60, 2) := by decide +kernel
theorem dX10_years_4 : decode cX10_years 4 = .ok (.invokestatic 89, 3) := by decide +kernel
theorem dX10_years_7 : decode cX10_years 7 = .ok (.ifCond .eq 25, 3) := by decide +kernel
theorem dX10_years_10 : decode cX10_years 10 = .ok (.aload_n 0, 1) := by decide +kernel
theorem dX10_years_11 : decode cX10_years 11 = .ok (.sipush 999, 3) := by decide +kernel
theorem dX10_years_14 : decode cX10_years 14 = .ok (.aload_n 0, 1) := by decide +kernel
theorem dX10_years_15 : decode cX10_years 15 = .ok (.getfield 9, 3) := by decide +kernel
theorem dX10_years_18 : decode cX10_years 18 = .ok (.iconst 3, 1) := by decide +kernel
theorem dX10_years_19 : decode cX10_years 19 = .ok (.iaload, 1) := by decide +kernel
theorem dX10_years_20 : decode cX10_years 20 = .ok (.isub, 1) := by decide +kernel
theorem dX10_years_21 : decode cX10_years 21 = .ok (.iconst 0, 1) := by decide +kernel
theorem dX10_years_22 : decode cX10_years 22 = .ok (.iload_n 1, 1) := by decide +kernel
theorem dX10_years_23 : decode cX10_years 23 = .ok (.invokestatic 140, 3) := by decide +kernel
theorem dX10_years_26 : decode cX10_years 26 = .ok (.invokevirtual 176, 3) := by decide +kernel
theorem dX10_years_29 : decode cX10_years 29 = .ok (.goto 5, 3) := by decide +kernel
theorem dX10_years_32 : decode cX10_years 32 = .ok (.ldc 97, 2) := by decide +kernel
theorem dX10_years_34 : decode cX10_years 34 = .ok (.ireturn, 1) := by decide +kernel
theorem dX10_thinks_0 : decode cX10_thinks 0 = .ok (.iconst 0, 1) := by decide +kernel
theorem dX10_thinks_1 : decode cX10_thinks 1 = .ok (.istore_n 1, 1) := by decide +kernel
theorem dX10_thinks_2 : decode cX10_thinks 2 = .ok (.iload_n 1, 1) := by decide +kernel
theorem dX10_thinks_3 : decode cX10_thinks 3 = .ok (.bipush 70, 2) := by decide +kernel
theorem dX10_thinks_5 : decode cX10_thinks 5 = .ok (.if_icmp .ge 21, 3) := by decide +kernel
theorem dX10_thinks_8 : decode cX10_thinks 8 = .ok (.aload_n 0, 1) := by decide +kernel
theorem dX10_thinks_9 : decode cX10_thinks 9 = .ok (.getfield 33, 3) := by decide +kernel
theorem dX10_thinks_12 : decode cX10_thinks 12 = .ok (.iload_n 1, 1) := by decide +kernel
theorem dX10_thinks_13 : decode cX10_thinks 13 = .ok (.aload_n 0, 1) := by decide +kernel
theorem dX10_thinks_14 : decode cX10_thinks 14 = .ok (.getfield 9, 3) := by decide +kernel
theorem dX10_thinks_17 : decode cX10_thinks 17 = .ok (.iload_n 1, 1) := by decide +kernel
theorem dX10_thinks_18 : decode cX10_thinks 18 = .ok (.iaload, 1) := by decide +kernel
theorem dX10_thinks_19 : decode cX10_thinks 19 = .ok (.iastore, 1) := by decide +kernel
theorem dX10_thinks_20 : decode cX10_thinks 20 = .ok (.iinc 1 1, 3) := by decide +kernel
theorem dX10_thinks_23 : decode cX10_thinks 23 = .ok (.goto (-21), 3) := by decide +kernel
theorem dX10_thinks_26 : decode cX10_thinks 26 = .ok (.return_, 1) := by decide +kernel
theorem dX10_putsBack_0 : decode cX10_putsBack 0 = .ok (.iconst 0, 1) := by decide +kernel
theorem dX10_putsBack_1 : decode cX10_putsBack 1 = .ok (.istore_n 1, 1) := by decide +kernel
theorem dX10_putsBack_2 : decode cX10_putsBack 2 = .ok (.iload_n 1, 1) := by decide +kernel
theorem dX10_putsBack_3 : decode cX10_putsBack 3 = .ok (.bipush 70, 2) := by decide +kernel
theorem dX10_putsBack_5 : decode cX10_putsBack 5 = .ok (.if_icmp .ge 21, 3) := by decide +kernel
theorem dX10_putsBack_8 : decode cX10_putsBack 8 = .ok (.aload_n 0, 1) := by decide +kernel
theorem dX10_putsBack_9 : decode cX10_putsBack 9 = .ok (.getfield 9, 3) := by decide +kernel
theorem dX10_putsBack_12 : decode cX10_putsBack 12 = .ok (.iload_n 1, 1) := by decide +kernel
theorem dX10_putsBack_13 : decode cX10_putsBack 13 = .ok (.aload_n 0, 1) := by decide +kernel
theorem dX10_putsBack_14 : decode cX10_putsBack 14 = .ok (.getfield 33, 3) := by decide +kernel
theorem dX10_putsBack_17 : decode cX10_putsBack 17 = .ok (.iload_n 1, 1) := by decide +kernel
theorem dX10_putsBack_18 : decode cX10_putsBack 18 = .ok (.iaload, 1) := by decide +kernel
theorem dX10_putsBack_19 : decode cX10_putsBack 19 = .ok (.iastore, 1) := by decide +kernel
theorem dX10_putsBack_20 : decode cX10_putsBack 20 = .ok (.iinc 1 1, 3) := by decide +kernel
theorem dX10_putsBack_23 : decode cX10_putsBack 23 = .ok (.goto (-21), 3) := by decide +kernel
theorem dX10_putsBack_26 : decode cX10_putsBack 26 = .ok (.return_, 1) := by decide +kernel
theorem dX10_frogs_0 : decode cX10_frogs 0 = .ok (.aload_n 0, 1) := by decide +kernel
theorem dX10_frogs_1 : decode cX10_frogs 1 = .ok (.iload_n 1, 1) := by decide +kernel
theorem dX10_frogs_2 : decode cX10_frogs 2 = .ok (.invokevirtual 107, 3) := by decide +kernel
theorem dX10_frogs_5 : decode cX10_frogs 5 = .ok (.ifCond .eq 10, 3) := by decide +kernel
theorem dX10_frogs_8 : decode cX10_frogs 8 = .ok (.iload_n 2, 1) := by decide +kernel
theorem dX10_frogs_9 : decode cX10_frogs 9 = .ok (.invokestatic 93, 3) := by decide +kernel
theorem dX10_frogs_12 : decode cX10_frogs 12 = .ok (.ifCond .ne 6, 3) := by decide +kernel
theorem dX10_frogs_15 : decode cX10_frogs 15 = .ok (.ldc 97, 2) := by decide +kernel
theorem dX10_frogs_17 : decode cX10_frogs 17 = .ok (.ireturn, 1) := by decide +kernel
theorem dX10_frogs_18 : decode cX10_frogs 18 = .ok (.aload_n 0, 1) := by decide +kernel
theorem dX10_frogs_19 : decode cX10_frogs 19 = .ok (.invokevirtual 179, 3) := by decide +kernel
theorem dX10_frogs_22 : decode cX10_frogs 22 = .ok (.ldc 88, 2) := by decide +kernel
theorem dX10_frogs_24 : decode cX10_frogs 24 = .ok (.istore_n 3, 1) := by decide +kernel
theorem dX10_frogs_25 : decode cX10_frogs 25 = .ok (.iconst 0, 1) := by decide +kernel
theorem dX10_frogs_26 : decode cX10_frogs 26 = .ok (.istore 4, 2) := by decide +kernel
theorem dX10_frogs_28 : decode cX10_frogs 28 = .ok (.aload_n 0, 1) := by decide +kernel
theorem dX10_frogs_29 : decode cX10_frogs 29 = .ok (.iload_n 1, 1) := by decide +kernel
theorem dX10_frogs_30 : decode cX10_frogs 30 = .ok (.iconst 3, 1) := by decide +kernel
theorem dX10_frogs_31 : decode cX10_frogs 31 = .ok (.invokevirtual 103, 3) := by decide +kernel
theorem dX10_frogs_34 : decode cX10_frogs 34 = .ok (.bipush 99, 2) := by decide +kernel
theorem dX10_frogs_36 : decode cX10_frogs 36 = .ok (.if_icmp .gt 48, 3) := by decide +kernel
theorem dX10_frogs_39 : decode cX10_frogs 39 = .ok (.iload_n 3, 1) := by decide +kernel
theorem dX10_frogs_40 : decode cX10_frogs 40 = .ok (.ldc 88, 2) := by decide +kernel
theorem dX10_frogs_42 : decode cX10_frogs 42 = .ok (.if_icmp .ne 42, 3) := by decide +kernel
theorem dX10_frogs_45 : decode cX10_frogs 45 = .ok (.aload_n 0, 1) := by decide +kernel
theorem dX10_frogs_46 : decode cX10_frogs 46 = .ok (.invokevirtual 170, 3) := by decide +kernel
theorem dX10_frogs_49 : decode cX10_frogs 49 = .ok (.iload_n 2, 1) := by decide +kernel
theorem dX10_frogs_50 : decode cX10_frogs 50 = .ok (.if_icmp .ne 8, 3) := by decide +kernel
theorem dX10_frogs_53 : decode cX10_frogs 53 = .ok (.iload 4, 2) := by decide +kernel
theorem dX10_frogs_55 : decode cX10_frogs 55 = .ok (.goto 5, 3) := by decide +kernel
theorem dX10_frogs_58 : decode cX10_frogs 58 = .ok (.ldc 88, 2) := by decide +kernel
theorem dX10_frogs_60 : decode cX10_frogs 60 = .ok (.istore_n 3, 1) := by decide +kernel
theorem dX10_frogs_61 : decode cX10_frogs 61 = .ok (.aload_n 0, 1) := by decide +kernel
theorem dX10_frogs_62 : decode cX10_frogs 62 = .ok (.getfield 9, 3) := by decide +kernel
theorem dX10_frogs_65 : decode cX10_frogs 65 = .ok (.bipush 38, 2) := by decide +kernel
theorem dX10_frogs_67 : decode cX10_frogs 67 = .ok (.iconst 4, 1) := by decide +kernel
theorem dX10_frogs_68 : decode cX10_frogs 68 = .ok (.iload_n 1, 1) := by decide +kernel
theorem dX10_frogs_69 : decode cX10_frogs 69 = .ok (.imul, 1) := by decide +kernel
theorem dX10_frogs_70 : decode cX10_frogs 70 = .ok (.iadd, 1) := by decide +kernel
theorem dX10_frogs_71 : decode cX10_frogs 71 = .ok (.iconst 3, 1) := by decide +kernel
theorem dX10_frogs_72 : decode cX10_frogs 72 = .ok (.iadd, 1) := by decide +kernel
theorem dX10_frogs_73 : decode cX10_frogs 73 = .ok (.dup2, 1) := by decide +kernel
theorem dX10_frogs_74 : decode cX10_frogs 74 = .ok (.iaload, 1) := by decide +kernel
theorem dX10_frogs_75 : decode cX10_frogs 75 = .ok (.iconst 1, 1) := by decide +kernel
theorem dX10_frogs_76 : decode cX10_frogs 76 = .ok (.iadd, 1) := by decide +kernel
theorem dX10_frogs_77 : decode cX10_frogs 77 = .ok (.iastore, 1) := by decide +kernel
theorem dX10_frogs_78 : decode cX10_frogs 78 = .ok (.iinc 4 1, 3) := by decide +kernel
theorem dX10_frogs_81 : decode cX10_frogs 81 = .ok (.goto (-53), 3) := by decide +kernel
theorem dX10_frogs_84 : decode cX10_frogs 84 = .ok (.aload_n 0, 1) := by decide +kernel
theorem dX10_frogs_85 : decode cX10_frogs 85 = .ok (.invokevirtual 182, 3) := by decide +kernel
theorem dX10_frogs_88 : decode cX10_frogs 88 = .ok (.iload_n 3, 1) := by decide +kernel
theorem dX10_frogs_89 : decode cX10_frogs 89 = .ok (.ireturn, 1) := by decide +kernel
theorem dX10_driven_0 : decode cX10_driven 0 = .ok (.iload_n 1, 1) := by decide +kernel
theorem dX10_driven_1 : decode cX10_driven 1 = .ok (.invokestatic 93, 3) := by decide +kernel
theorem dX10_driven_4 : decode cX10_driven 4 = .ok (.ifCond .ne 6, 3) := by decide +kernel
theorem dX10_driven_7 : decode cX10_driven 7 = .ok (.ldc 97, 2) := by decide +kernel
theorem dX10_driven_9 : decode cX10_driven 9 = .ok (.ireturn, 1) := by decide +kernel
theorem dX10_driven_10 : decode cX10_driven 10 = .ok (.aload_n 0, 1) := by decide +kernel
theorem dX10_driven_11 : decode cX10_driven 11 = .ok (.invokevirtual 179, 3) := by decide +kernel
theorem dX10_driven_14 : decode cX10_driven 14 = .ok (.ldc 88, 2) := by decide +kernel
theorem dX10_driven_16 : decode cX10_driven 16 = .ok (.istore_n 2, 1) := by decide +kernel
theorem dX10_driven_17 : decode cX10_driven 17 = .ok (.iconst 0, 1) := by decide +kernel
theorem dX10_driven_18 : decode cX10_driven 18 = .ok (.istore_n 3, 1) := by decide +kernel
theorem dX10_driven_19 : decode cX10_driven 19 = .ok (.iload_n 3, 1) := by decide +kernel
theorem dX10_driven_20 : decode cX10_driven 20 = .ok (.aload_n 0, 1) := by decide +kernel
theorem dX10_driven_21 : decode cX10_driven 21 = .ok (.getfield 9, 3) := by decide +kernel
theorem dX10_driven_24 : decode cX10_driven 24 = .ok (.iconst 2, 1) := by decide +kernel
theorem dX10_driven_25 : decode cX10_driven 25 = .ok (.iaload, 1) := by decide +kernel
theorem dX10_driven_26 : decode cX10_driven 26 = .ok (.if_icmp .ge 48, 3) := by decide +kernel
theorem dX10_driven_29 : decode cX10_driven 29 = .ok (.iload_n 2, 1) := by decide +kernel
theorem dX10_driven_30 : decode cX10_driven 30 = .ok (.ldc 88, 2) := by decide +kernel
theorem dX10_driven_32 : decode cX10_driven 32 = .ok (.if_icmp .ne 42, 3) := by decide +kernel
theorem dX10_driven_35 : decode cX10_driven 35 = .ok (.aload_n 0, 1) := by decide +kernel
theorem dX10_driven_36 : decode cX10_driven 36 = .ok (.getfield 9, 3) := by decide +kernel
theorem dX10_driven_39 : decode cX10_driven 39 = .ok (.bipush 8, 2) := by decide +kernel
theorem dX10_driven_41 : decode cX10_driven 41 = .ok (.iconst 3, 1) := by decide +kernel
theorem dX10_driven_42 : decode cX10_driven 42 = .ok (.iload_n 3, 1) := by decide +kernel
theorem dX10_driven_43 : decode cX10_driven 43 = .ok (.imul, 1) := by decide +kernel
theorem dX10_driven_44 : decode cX10_driven 44 = .ok (.iadd, 1) := by decide +kernel
theorem dX10_driven_45 : decode cX10_driven 45 = .ok (.iconst 2, 1) := by decide +kernel
theorem dX10_driven_46 : decode cX10_driven 46 = .ok (.iadd, 1) := by decide +kernel
theorem dX10_driven_47 : decode cX10_driven 47 = .ok (.iconst 1, 1) := by decide +kernel
theorem dX10_driven_48 : decode cX10_driven 48 = .ok (.iastore, 1) := by decide +kernel
theorem dX10_driven_49 : decode cX10_driven 49 = .ok (.aload_n 0, 1) := by decide +kernel
theorem dX10_driven_50 : decode cX10_driven 50 = .ok (.invokevirtual 170, 3) := by decide +kernel
theorem dX10_driven_53 : decode cX10_driven 53 = .ok (.iload_n 1, 1) := by decide +kernel
theorem dX10_driven_54 : decode cX10_driven 54 = .ok (.if_icmp .ne 7, 3) := by decide +kernel
theorem dX10_driven_57 : decode cX10_driven 57 = .ok (.iload_n 3, 1) := by decide +kernel
theorem dX10_driven_58 : decode cX10_driven 58 = .ok (.goto 5, 3) := by decide +kernel
theorem dX10_driven_61 : decode cX10_driven 61 = .ok (.ldc 88, 2) := by decide +kernel
theorem dX10_driven_63 : decode cX10_driven 63 = .ok (.istore_n 2, 1) := by decide +kernel
theorem dX10_driven_64 : decode cX10_driven 64 = .ok (.aload_n 0, 1) := by decide +kernel
theorem dX10_driven_65 : decode cX10_driven 65 = .ok (.invokevirtual 182, 3) := by decide +kernel
theorem dX10_driven_68 : decode cX10_driven 68 = .ok (.iinc 3 1, 3) := by decide +kernel
theorem dX10_driven_71 : decode cX10_driven 71 = .ok (.goto (-52), 3) := by decide +kernel
theorem dX10_driven_74 : decode cX10_driven 74 = .ok (.iload_n 2, 1) := by decide +kernel
theorem dX10_driven_75 : decode cX10_driven 75 = .ok (.ireturn, 1) := by decide +kernel
theorem dX10_brings_0 : decode cX10_brings 0 = .ok (.aload_n 0, 1) := by decide +kernel
theorem dX10_brings_1 : decode cX10_brings 1 = .ok (.iload_n 1, 1) := by decide +kernel
theorem dX10_brings_2 : decode cX10_brings 2 = .ok (.invokevirtual 107, 3) := by decide +kernel
theorem dX10_brings_5 : decode cX10_brings 5 = .ok (.ifCond .ne 6, 3) := by decide +kernel
theorem dX10_brings_8 : decode cX10_brings 8 = .ok (.ldc 97, 2) := by decide +kernel
theorem dX10_brings_10 : decode cX10_brings 10 = .ok (.ireturn, 1) := by decide +kernel
theorem dX10_brings_11 : decode cX10_brings 11 = .ok (.aload_n 0, 1) := by decide +kernel
theorem dX10_brings_12 : decode cX10_brings 12 = .ok (.invokevirtual 114, 3) := by decide +kernel
theorem dX10_brings_15 : decode cX10_brings 15 = .ok (.aload_n 0, 1) := by decide +kernel
theorem dX10_brings_16 : decode cX10_brings 16 = .ok (.aload_n 0, 1) := by decide +kernel
theorem dX10_brings_17 : decode cX10_brings 17 = .ok (.iload_n 1, 1) := by decide +kernel
theorem dX10_brings_18 : decode cX10_brings 18 = .ok (.iconst 1, 1) := by decide +kernel
theorem dX10_brings_19 : decode cX10_brings 19 = .ok (.invokevirtual 103, 3) := by decide +kernel
theorem dX10_brings_22 : decode cX10_brings 22 = .ok (.invokevirtual 167, 3) := by decide +kernel
theorem dX10_brings_25 : decode cX10_brings 25 = .ok (.istore_n 2, 1) := by decide +kernel
theorem dX10_brings_26 : decode cX10_brings 26 = .ok (.aload_n 0, 1) := by decide +kernel
theorem dX10_brings_27 : decode cX10_brings 27 = .ok (.iload_n 1, 1) := by decide +kernel
theorem dX10_brings_28 : decode cX10_brings 28 = .ok (.putfield 19, 3) := by decide +kernel
theorem dX10_brings_31 : decode cX10_brings 31 = .ok (.aload_n 0, 1) := by decide +kernel
theorem dX10_brings_32 : decode cX10_brings 32 = .ok (.invokevirtual 114, 3) := by decide +kernel
theorem dX10_brings_35 : decode cX10_brings 35 = .ok (.aload_n 0, 1) := by decide +kernel
theorem dX10_brings_36 : decode cX10_brings 36 = .ok (.iconst (-1), 1) := by decide +kernel
theorem dX10_brings_37 : decode cX10_brings 37 = .ok (.putfield 19, 3) := by decide +kernel
theorem dX10_brings_40 : decode cX10_brings 40 = .ok (.iload_n 2, 1) := by decide +kernel
theorem dX10_brings_41 : decode cX10_brings 41 = .ok (.aload_n 0, 1) := by decide +kernel
theorem dX10_brings_42 : decode cX10_brings 42 = .ok (.aload_n 0, 1) := by decide +kernel
theorem dX10_brings_43 : decode cX10_brings 43 = .ok (.iload_n 1, 1) := by decide +kernel
theorem dX10_brings_44 : decode cX10_brings 44 = .ok (.iconst 1, 1) := by decide +kernel
theorem dX10_brings_45 : decode cX10_brings 45 = .ok (.invokevirtual 103, 3) := by decide +kernel
theorem dX10_brings_48 : decode cX10_brings 48 = .ok (.invokevirtual 167, 3) := by decide +kernel
theorem dX10_brings_51 : decode cX10_brings 51 = .ok (.isub, 1) := by decide +kernel
theorem dX10_brings_52 : decode cX10_brings 52 = .ok (.ireturn, 1) := by decide +kernel
theorem dX10_hereMany_0 : decode cX10_hereMany 0 = .ok (.iconst 0, 1) := by decide +kernel
theorem dX10_hereMany_1 : decode cX10_hereMany 1 = .ok (.istore_n 1, 1) := by decide +kernel
theorem dX10_hereMany_2 : decode cX10_hereMany 2 = .ok (.iconst 0, 1) := by decide +kernel
theorem dX10_hereMany_3 : decode cX10_hereMany 3 = .ok (.istore_n 2, 1) := by decide +kernel
theorem dX10_hereMany_4 : decode cX10_hereMany 4 = .ok (.iload_n 2, 1) := by decide +kernel
theorem dX10_hereMany_5 : decode cX10_hereMany 5 = .ok (.aload_n 0, 1) := by decide +kernel
theorem dX10_hereMany_6 : decode cX10_hereMany 6 = .ok (.getfield 9, 3) := by decide +kernel
theorem dX10_hereMany_9 : decode cX10_hereMany 9 = .ok (.iconst 2, 1) := by decide +kernel
theorem dX10_hereMany_10 : decode cX10_hereMany 10 = .ok (.iaload, 1) := by decide +kernel
theorem dX10_hereMany_11 : decode cX10_hereMany 11 = .ok (.if_icmp .ge 25, 3) := by decide +kernel
theorem dX10_hereMany_14 : decode cX10_hereMany 14 = .ok (.iload_n 1, 1) := by decide +kernel
theorem dX10_hereMany_15 : decode cX10_hereMany 15 = .ok (.aload_n 0, 1) := by decide +kernel
theorem dX10_hereMany_16 : decode cX10_hereMany 16 = .ok (.iload_n 2, 1) := by decide +kernel
theorem dX10_hereMany_17 : decode cX10_hereMany 17 = .ok (.invokevirtual 152, 3) := by decide +kernel
theorem dX10_hereMany_20 : decode cX10_hereMany 20 = .ok (.ifCond .eq 7, 3) := by decide +kernel
theorem dX10_hereMany_23 : decode cX10_hereMany 23 = .ok (.iconst 0, 1) := by decide +kernel
theorem dX10_hereMany_24 : decode cX10_hereMany 24 = .ok (.goto 4, 3) := by decide +kernel
theorem dX10_hereMany_27 : decode cX10_hereMany 27 = .ok (.iconst 1, 1) := by decide +kernel
theorem dX10_hereMany_28 : decode cX10_hereMany 28 = .ok (.iadd, 1) := by decide +kernel
theorem dX10_hereMany_29 : decode cX10_hereMany 29 = .ok (.istore_n 1, 1) := by decide +kernel
theorem dX10_hereMany_30 : decode cX10_hereMany 30 = .ok (.iinc 2 1, 3) := by decide +kernel
theorem dX10_hereMany_33 : decode cX10_hereMany 33 = .ok (.goto (-29), 3) := by decide +kernel
theorem dX10_hereMany_36 : decode cX10_hereMany 36 = .ok (.iload_n 1, 1) := by decide +kernel
theorem dX10_hereMany_37 : decode cX10_hereMany 37 = .ok (.ireturn, 1) := by decide +kernel
theorem dX10_behind_0 : decode cX10_behind 0 = .ok (.iload_n 1, 1) := by decide +kernel
theorem dX10_behind_1 : decode cX10_behind 1 = .ok (.iconst 0, 1) := by decide +kernel
theorem dX10_behind_2 : decode cX10_behind 2 = .ok (.bipush 60, 2) := by decide +kernel
theorem dX10_behind_4 : decode cX10_behind 4 = .ok (.invokestatic 89, 3) := by decide +kernel
theorem dX10_behind_7 : decode cX10_behind 7 = .ok (.ifCond .eq 12, 3) := by decide +kernel
theorem dX10_behind_10 : decode cX10_behind 10 = .ok (.iload_n 2, 1) := by decide +kernel
theorem dX10_behind_11 : decode cX10_behind 11 = .ok (.iconst 0, 1) := by decide +kernel
theorem dX10_behind_12 : decode cX10_behind 12 = .ok (.iconst 2, 1) := by decide +kernel
theorem dX10_behind_13 : decode cX10_behind 13 = .ok (.invokestatic 89, 3) := by decide +kernel
theorem dX10_behind_16 : decode cX10_behind 16 = .ok (.ifCond .ne 6, 3) := by decide +kernel
theorem dX10_behind_19 : decode cX10_behind 19 = .ok (.ldc 97, 2) := by decide +kernel
theorem dX10_behind_21 : decode cX10_behind 21 = .ok (.ireturn, 1) := by decide +kernel
theorem dX10_behind_22 : decode cX10_behind 22 = .ok (.aload_n 0, 1) := by decide +kernel
theorem dX10_behind_23 : decode cX10_behind 23 = .ok (.invokevirtual 179, 3) := by decide +kernel
theorem dX10_behind_26 : decode cX10_behind 26 = .ok (.aload_n 0, 1) := by decide +kernel
theorem dX10_behind_27 : decode cX10_behind 27 = .ok (.iload_n 1, 1) := by decide +kernel
theorem dX10_behind_28 : decode cX10_behind 28 = .ok (.invokevirtual 176, 3) := by decide +kernel
theorem dX10_behind_31 : decode cX10_behind 31 = .ok (.istore_n 3, 1) := by decide +kernel
theorem dX10_behind_32 : decode cX10_behind 32 = .ok (.aload_n 0, 1) := by decide +kernel
theorem dX10_behind_33 : decode cX10_behind 33 = .ok (.invokevirtual 170, 3) := by decide +kernel
theorem dX10_behind_36 : decode cX10_behind 36 = .ok (.istore 4, 2) := by decide +kernel
theorem dX10_behind_38 : decode cX10_behind 38 = .ok (.iload_n 2, 1) := by decide +kernel
theorem dX10_behind_39 : decode cX10_behind 39 = .ok (.ifCond .ne 8, 3) := by decide +kernel
theorem dX10_behind_42 : decode cX10_behind 42 = .ok (.iload 4, 2) := by decide +kernel
theorem dX10_behind_44 : decode cX10_behind 44 = .ok (.goto 38, 3) := by decide +kernel
theorem dX10_behind_47 : decode cX10_behind 47 = .ok (.iload_n 2, 1) := by decide +kernel
theorem dX10_behind_48 : decode cX10_behind 48 = .ok (.iconst 1, 1) := by decide +kernel
theorem dX10_behind_49 : decode cX10_behind 49 = .ok (.if_icmp .ne 10, 3) := by decide +kernel
theorem dX10_behind_52 : decode cX10_behind 52 = .ok (.aload_n 0, 1) := by decide +kernel
theorem dX10_behind_53 : decode cX10_behind 53 = .ok (.invokevirtual 185, 3) := by decide +kernel
theorem dX10_behind_56 : decode cX10_behind 56 = .ok (.goto 26, 3) := by decide +kernel
theorem dX10_behind_59 : decode cX10_behind 59 = .ok (.aload_n 0, 1) := by decide +kernel
theorem dX10_behind_60 : decode cX10_behind 60 = .ok (.iconst 0, 1) := by decide +kernel
theorem dX10_behind_61 : decode cX10_behind 61 = .ok (.invokevirtual 167, 3) := by decide +kernel
theorem dX10_behind_64 : decode cX10_behind 64 = .ok (.aload_n 0, 1) := by decide +kernel
theorem dX10_behind_65 : decode cX10_behind 65 = .ok (.iconst 1, 1) := by decide +kernel
theorem dX10_behind_66 : decode cX10_behind 66 = .ok (.invokevirtual 167, 3) := by decide +kernel
theorem dX10_behind_69 : decode cX10_behind 69 = .ok (.iadd, 1) := by decide +kernel
theorem dX10_behind_70 : decode cX10_behind 70 = .ok (.aload_n 0, 1) := by decide +kernel
theorem dX10_behind_71 : decode cX10_behind 71 = .ok (.iconst 2, 1) := by decide +kernel
theorem dX10_behind_72 : decode cX10_behind 72 = .ok (.invokevirtual 167, 3) := by decide +kernel
theorem dX10_behind_75 : decode cX10_behind 75 = .ok (.iadd, 1) := by decide +kernel
theorem dX10_behind_76 : decode cX10_behind 76 = .ok (.aload_n 0, 1) := by decide +kernel
theorem dX10_behind_77 : decode cX10_behind 77 = .ok (.iconst 3, 1) := by decide +kernel
theorem dX10_behind_78 : decode cX10_behind 78 = .ok (.invokevirtual 167, 3) := by decide +kernel
theorem dX10_behind_81 : decode cX10_behind 81 = .ok (.iadd, 1) := by decide +kernel
theorem dX10_behind_82 : decode cX10_behind 82 = .ok (.istore 5, 2) := by decide +kernel
theorem dX10_behind_84 : decode cX10_behind 84 = .ok (.aload_n 0, 1) := by decide +kernel
theorem dX10_behind_85 : decode cX10_behind 85 = .ok (.invokevirtual 182, 3) := by decide +kernel
theorem dX10_behind_88 : decode cX10_behind 88 = .ok (.iload 5, 2) := by decide +kernel
theorem dX10_behind_90 : decode cX10_behind 90 = .ok (.ireturn, 1) := by decide +kernel
theorem dX10_nestsBy_0 : decode cX10_nestsBy 0 = .ok (.iconst 0, 1) := by decide +kernel
theorem dX10_nestsBy_1 : decode cX10_nestsBy 1 = .ok (.istore_n 2, 1) := by decide +kernel
theorem dX10_nestsBy_2 : decode cX10_nestsBy 2 = .ok (.iload_n 2, 1) := by decide +kernel
theorem dX10_nestsBy_3 : decode cX10_nestsBy 3 = .ok (.bipush 8, 2) := by decide +kernel
theorem dX10_nestsBy_5 : decode cX10_nestsBy 5 = .ok (.if_icmp .ge 16, 3) := by decide +kernel
theorem dX10_nestsBy_8 : decode cX10_nestsBy 8 = .ok (.aload_n 0, 1) := by decide +kernel
theorem dX10_nestsBy_9 : decode cX10_nestsBy 9 = .ok (.getfield 23, 3) := by decide +kernel
theorem dX10_nestsBy_12 : decode cX10_nestsBy 12 = .ok (.iload_n 2, 1) := by decide +kernel
theorem dX10_nestsBy_13 : decode cX10_nestsBy 13 = .ok (.iconst (-1), 1) := by decide +kernel
theorem dX10_nestsBy_14 : decode cX10_nestsBy 14 = .ok (.iastore, 1) := by decide +kernel
theorem dX10_nestsBy_15 : decode cX10_nestsBy 15 = .ok (.iinc 2 1, 3) := by decide +kernel
theorem dX10_nestsBy_18 : decode cX10_nestsBy 18 = .ok (.goto (-16), 3) := by decide +kernel
theorem dX10_nestsBy_21 : decode cX10_nestsBy 21 = .ok (.iconst 0, 1) := by decide +kernel
theorem dX10_nestsBy_22 : decode cX10_nestsBy 22 = .ok (.istore_n 2, 1) := by decide +kernel
theorem dX10_nestsBy_23 : decode cX10_nestsBy 23 = .ok (.iload_n 2, 1) := by decide +kernel
theorem dX10_nestsBy_24 : decode cX10_nestsBy 24 = .ok (.aload_n 0, 1) := by decide +kernel
theorem dX10_nestsBy_25 : decode cX10_nestsBy 25 = .ok (.getfield 9, 3) := by decide +kernel
theorem dX10_nestsBy_28 : decode cX10_nestsBy 28 = .ok (.iconst 2, 1) := by decide +kernel
theorem dX10_nestsBy_29 : decode cX10_nestsBy 29 = .ok (.iaload, 1) := by decide +kernel
theorem dX10_nestsBy_30 : decode cX10_nestsBy 30 = .ok (.if_icmp .ge 95, 3) := by decide +kernel
theorem dX10_nestsBy_33 : decode cX10_nestsBy 33 = .ok (.iload_n 2, 1) := by decide +kernel
theorem dX10_nestsBy_34 : decode cX10_nestsBy 34 = .ok (.aload_n 0, 1) := by decide +kernel
theorem dX10_nestsBy_35 : decode cX10_nestsBy 35 = .ok (.getfield 64, 3) := by decide +kernel
theorem dX10_nestsBy_38 : decode cX10_nestsBy 38 = .ok (.iload_n 1, 1) := by decide +kernel
theorem dX10_nestsBy_39 : decode cX10_nestsBy 39 = .ok (.iaload, 1) := by decide +kernel
theorem dX10_nestsBy_40 : decode cX10_nestsBy 40 = .ok (.if_icmp .ge 17, 3) := by decide +kernel
theorem dX10_nestsBy_43 : decode cX10_nestsBy 43 = .ok (.aload_n 0, 1) := by decide +kernel
theorem dX10_nestsBy_44 : decode cX10_nestsBy 44 = .ok (.getfield 67, 3) := by decide +kernel
theorem dX10_nestsBy_47 : decode cX10_nestsBy 47 = .ok (.bipush 24, 2) := by decide +kernel
theorem dX10_nestsBy_49 : decode cX10_nestsBy 49 = .ok (.iload_n 1, 1) := by decide +kernel
theorem dX10_nestsBy_50 : decode cX10_nestsBy 50 = .ok (.imul, 1) := by decide +kernel
theorem dX10_nestsBy_51 : decode cX10_nestsBy 51 = .ok (.iload_n 2, 1) := by decide +kernel
theorem dX10_nestsBy_52 : decode cX10_nestsBy 52 = .ok (.iadd, 1) := by decide +kernel
theorem dX10_nestsBy_53 : decode cX10_nestsBy 53 = .ok (.iaload, 1) := by decide +kernel
theorem dX10_nestsBy_54 : decode cX10_nestsBy 54 = .ok (.goto 4, 3) := by decide +kernel
theorem dX10_nestsBy_57 : decode cX10_nestsBy 57 = .ok (.iconst (-1), 1) := by decide +kernel
theorem dX10_nestsBy_58 : decode cX10_nestsBy 58 = .ok (.istore_n 3, 1) := by decide +kernel
theorem dX10_nestsBy_59 : decode cX10_nestsBy 59 = .ok (.aload_n 0, 1) := by decide +kernel
theorem dX10_nestsBy_60 : decode cX10_nestsBy 60 = .ok (.iload_n 3, 1) := by decide +kernel
theorem dX10_nestsBy_61 : decode cX10_nestsBy 61 = .ok (.invokevirtual 107, 3) := by decide +kernel
theorem dX10_nestsBy_64 : decode cX10_nestsBy 64 = .ok (.ifCond .eq 24, 3) := by decide +kernel
theorem dX10_nestsBy_67 : decode cX10_nestsBy 67 = .ok (.aload_n 0, 1) := by decide +kernel
theorem dX10_nestsBy_68 : decode cX10_nestsBy 68 = .ok (.iload_n 2, 1) := by decide +kernel
theorem dX10_nestsBy_69 : decode cX10_nestsBy 69 = .ok (.invokevirtual 152, 3) := by decide +kernel
theorem dX10_nestsBy_72 : decode cX10_nestsBy 72 = .ok (.ifCond .ne 16, 3) := by decide +kernel
theorem dX10_nestsBy_75 : decode cX10_nestsBy 75 = .ok (.aload_n 0, 1) := by decide +kernel
theorem dX10_nestsBy_76 : decode cX10_nestsBy 76 = .ok (.getfield 23, 3) := by decide +kernel
theorem dX10_nestsBy_79 : decode cX10_nestsBy 79 = .ok (.iload_n 3, 1) := by decide +kernel
theorem dX10_nestsBy_80 : decode cX10_nestsBy 80 = .ok (.iaload, 1) := by decide +kernel
theorem dX10_nestsBy_81 : decode cX10_nestsBy 81 = .ok (.ifCond .ge 7, 3) := by decide +kernel
theorem dX10_nestsBy_84 : decode cX10_nestsBy 84 = .ok (.iconst 1, 1) := by decide +kernel
theorem dX10_nestsBy_85 : decode cX10_nestsBy 85 = .ok (.goto 4, 3) := by decide +kernel
theorem dX10_nestsBy_88 : decode cX10_nestsBy 88 = .ok (.iconst 0, 1) := by decide +kernel
theorem dX10_nestsBy_89 : decode cX10_nestsBy 89 = .ok (.istore 4, 2) := by decide +kernel
theorem dX10_nestsBy_91 : decode cX10_nestsBy 91 = .ok (.aload_n 0, 1) := by decide +kernel
theorem dX10_nestsBy_92 : decode cX10_nestsBy 92 = .ok (.getfield 26, 3) := by decide +kernel
theorem dX10_nestsBy_95 : decode cX10_nestsBy 95 = .ok (.iload_n 2, 1) := by decide +kernel
theorem dX10_nestsBy_96 : decode cX10_nestsBy 96 = .ok (.iload 4, 2) := by decide +kernel
theorem dX10_nestsBy_98 : decode cX10_nestsBy 98 = .ok (.ifCond .eq 7, 3) := by decide +kernel
theorem dX10_nestsBy_101 : decode cX10_nestsBy 101 = .ok (.iload_n 3, 1) := by decide +kernel
theorem dX10_nestsBy_102 : decode cX10_nestsBy 102 = .ok (.goto 4, 3) := by decide +kernel
theorem dX10_nestsBy_105 : decode cX10_nestsBy 105 = .ok (.iconst (-1), 1) := by decide +kernel
theorem dX10_nestsBy_106 : decode cX10_nestsBy 106 = .ok (.iastore, 1) := by decide +kernel
theorem dX10_nestsBy_107 : decode cX10_nestsBy 107 = .ok (.iload 4, 2) := by decide +kernel
theorem dX10_nestsBy_109 : decode cX10_nestsBy 109 = .ok (.ifCond .eq 10, 3) := by decide +kernel
theorem dX10_nestsBy_112 : decode cX10_nestsBy 112 = .ok (.aload_n 0, 1) := by decide +kernel
theorem dX10_nestsBy_113 : decode cX10_nestsBy 113 = .ok (.getfield 23, 3) := by decide +kernel
theorem dX10_nestsBy_116 : decode cX10_nestsBy 116 = .ok (.iload_n 3, 1) := by decide +kernel
theorem dX10_nestsBy_117 : decode cX10_nestsBy 117 = .ok (.iload_n 2, 1) := by decide +kernel
theorem dX10_nestsBy_118 : decode cX10_nestsBy 118 = .ok (.iastore, 1) := by decide +kernel
theorem dX10_nestsBy_119 : decode cX10_nestsBy 119 = .ok (.iinc 2 1, 3) := by decide +kernel
theorem dX10_nestsBy_122 : decode cX10_nestsBy 122 = .ok (.goto (-99), 3) := by decide +kernel
theorem dX10_nestsBy_125 : decode cX10_nestsBy 125 = .ok (.return_, 1) := by decide +kernel
theorem dX10_wouldRather_0 : decode cX10_wouldRather 0 = .ok (.aload_n 0, 1) := by decide +kernel
theorem dX10_wouldRather_1 : decode cX10_wouldRather 1 = .ok (.getfield 26, 3) := by decide +kernel
theorem dX10_wouldRather_4 : decode cX10_wouldRather 4 = .ok (.iload_n 1, 1) := by decide +kernel
theorem dX10_wouldRather_5 : decode cX10_wouldRather 5 = .ok (.iaload, 1) := by decide +kernel
theorem dX10_wouldRather_6 : decode cX10_wouldRather 6 = .ok (.istore_n 3, 1) := by decide +kernel
theorem dX10_wouldRather_7 : decode cX10_wouldRather 7 = .ok (.aload_n 0, 1) := by decide +kernel
theorem dX10_wouldRather_8 : decode cX10_wouldRather 8 = .ok (.iload_n 1, 1) := by decide +kernel
theorem dX10_wouldRather_9 : decode cX10_wouldRather 9 = .ok (.iload_n 2, 1) := by decide +kernel
theorem dX10_wouldRather_10 : decode cX10_wouldRather 10 = .ok (.invokevirtual 144, 3) := by decide +kernel
theorem dX10_wouldRather_13 : decode cX10_wouldRather 13 = .ok (.istore 4, 2) := by decide +kernel
theorem dX10_wouldRather_15 : decode cX10_wouldRather 15 = .ok (.iload_n 3, 1) := by decide +kernel
theorem dX10_wouldRather_16 : decode cX10_wouldRather 16 = .ok (.iload_n 2, 1) := by decide +kernel
theorem dX10_wouldRather_17 : decode cX10_wouldRather 17 = .ok (.if_icmp .eq 29, 3) := by decide +kernel
theorem dX10_wouldRather_20 : decode cX10_wouldRather 20 = .ok (.iload 4, 2) := by decide +kernel
theorem dX10_wouldRather_22 : decode cX10_wouldRather 22 = .ok (.aload_n 0, 1) := by decide +kernel
theorem dX10_wouldRather_23 : decode cX10_wouldRather 23 = .ok (.getfield 9, 3) := by decide +kernel
theorem dX10_wouldRather_26 : decode cX10_wouldRather 26 = .ok (.iconst 4, 1) := by decide +kernel
theorem dX10_wouldRather_27 : decode cX10_wouldRather 27 = .ok (.iaload, 1) := by decide +kernel
theorem dX10_wouldRather_28 : decode cX10_wouldRather 28 = .ok (.if_icmp .lt 18, 3) := by decide +kernel
theorem dX10_wouldRather_31 : decode cX10_wouldRather 31 = .ok (.iload_n 3, 1) := by decide +kernel
theorem dX10_wouldRather_32 : decode cX10_wouldRather 32 = .ok (.ifCond .lt 16, 3) := by decide +kernel
theorem dX10_wouldRather_35 : decode cX10_wouldRather 35 = .ok (.iload 4, 2) := by decide +kernel
theorem dX10_wouldRather_37 : decode cX10_wouldRather 37 = .ok (.aload_n 0, 1) := by decide +kernel
theorem dX10_wouldRather_38 : decode cX10_wouldRather 38 = .ok (.iload_n 1, 1) := by decide +kernel
theorem dX10_wouldRather_39 : decode cX10_wouldRather 39 = .ok (.iload_n 3, 1) := by decide +kernel
theorem dX10_wouldRather_40 : decode cX10_wouldRather 40 = .ok (.invokevirtual 144, 3) := by decide +kernel
theorem dX10_wouldRather_43 : decode cX10_wouldRather 43 = .ok (.if_icmp .gt 5, 3) := by decide +kernel
theorem dX10_wouldRather_46 : decode cX10_wouldRather 46 = .ok (.iconst 0, 1) := by decide +kernel
theorem dX10_wouldRather_47 : decode cX10_wouldRather 47 = .ok (.ireturn, 1) := by decide +kernel
theorem dX10_wouldRather_48 : decode cX10_wouldRather 48 = .ok (.aload_n 0, 1) := by decide +kernel
theorem dX10_wouldRather_49 : decode cX10_wouldRather 49 = .ok (.getfield 23, 3) := by decide +kernel
theorem dX10_wouldRather_52 : decode cX10_wouldRather 52 = .ok (.iload_n 2, 1) := by decide +kernel
theorem dX10_wouldRather_53 : decode cX10_wouldRather 53 = .ok (.iaload, 1) := by decide +kernel
theorem dX10_wouldRather_54 : decode cX10_wouldRather 54 = .ok (.istore 5, 2) := by decide +kernel
theorem dX10_wouldRather_56 : decode cX10_wouldRather 56 = .ok (.iload 5, 2) := by decide +kernel
theorem dX10_wouldRather_58 : decode cX10_wouldRather 58 = .ok (.ifCond .lt 37, 3) := by decide +kernel
theorem dX10_wouldRather_61 : decode cX10_wouldRather 61 = .ok (.aload_n 0, 1) := by decide +kernel
theorem dX10_wouldRather_62 : decode cX10_wouldRather 62 = .ok (.iload_n 1, 1) := by decide +kernel
theorem dX10_wouldRather_63 : decode cX10_wouldRather 63 = .ok (.invokevirtual 155, 3) := by decide +kernel
theorem dX10_wouldRather_66 : decode cX10_wouldRather 66 = .ok (.aload_n 0, 1) := by decide +kernel
theorem dX10_wouldRather_67 : decode cX10_wouldRather 67 = .ok (.iload 5, 2) := by decide +kernel
theorem dX10_wouldRather_69 : decode cX10_wouldRather 69 = .ok (.invokevirtual 155, 3) := by decide +kernel
theorem dX10_wouldRather_72 : decode cX10_wouldRather 72 = .ok (.if_icmp .gt 23, 3) := by decide +kernel
theorem dX10_wouldRather_75 : decode cX10_wouldRather 75 = .ok (.aload_n 0, 1) := by decide +kernel
theorem dX10_wouldRather_76 : decode cX10_wouldRather 76 = .ok (.iload_n 1, 1) := by decide +kernel
theorem dX10_wouldRather_77 : decode cX10_wouldRather 77 = .ok (.invokevirtual 155, 3) := by decide +kernel
theorem dX10_wouldRather_80 : decode cX10_wouldRather 80 = .ok (.aload_n 0, 1) := by decide +kernel
theorem dX10_wouldRather_81 : decode cX10_wouldRather 81 = .ok (.iload 5, 2) := by decide +kernel
theorem dX10_wouldRather_83 : decode cX10_wouldRather 83 = .ok (.invokevirtual 155, 3) := by decide +kernel
theorem dX10_wouldRather_86 : decode cX10_wouldRather 86 = .ok (.if_icmp .ne 13, 3) := by decide +kernel
theorem dX10_wouldRather_89 : decode cX10_wouldRather 89 = .ok (.iload_n 1, 1) := by decide +kernel
theorem dX10_wouldRather_90 : decode cX10_wouldRather 90 = .ok (.iload 5, 2) := by decide +kernel
theorem dX10_wouldRather_92 : decode cX10_wouldRather 92 = .ok (.if_icmp .ge 7, 3) := by decide +kernel
theorem dX10_wouldRather_95 : decode cX10_wouldRather 95 = .ok (.iconst 1, 1) := by decide +kernel
theorem dX10_wouldRather_96 : decode cX10_wouldRather 96 = .ok (.goto 4, 3) := by decide +kernel
theorem dX10_wouldRather_99 : decode cX10_wouldRather 99 = .ok (.iconst 0, 1) := by decide +kernel
theorem dX10_wouldRather_100 : decode cX10_wouldRather 100 = .ok (.ireturn, 1) := by decide +kernel
theorem dX10_rather_0 : decode cX10_rather 0 = .ok (.iload_n 1, 1) := by decide +kernel
theorem dX10_rather_1 : decode cX10_rather 1 = .ok (.invokestatic 188, 3) := by decide +kernel
theorem dX10_rather_4 : decode cX10_rather 4 = .ok (.ifCond .ne 6, 3) := by decide +kernel
theorem dX10_rather_7 : decode cX10_rather 7 = .ok (.ldc 97, 2) := by decide +kernel
theorem dX10_rather_9 : decode cX10_rather 9 = .ok (.ireturn, 1) := by decide +kernel
theorem dX10_rather_10 : decode cX10_rather 10 = .ok (.aload_n 0, 1) := by decide +kernel
theorem dX10_rather_11 : decode cX10_rather 11 = .ok (.getfield 61, 3) := by decide +kernel
theorem dX10_rather_14 : decode cX10_rather 14 = .ok (.iload_n 1, 1) := by decide +kernel
theorem dX10_rather_15 : decode cX10_rather 15 = .ok (.iaload, 1) := by decide +kernel
theorem dX10_rather_16 : decode cX10_rather 16 = .ok (.ifCond .ge 6, 3) := by decide +kernel
theorem dX10_rather_19 : decode cX10_rather 19 = .ok (.ldc 191, 2) := by decide +kernel
theorem dX10_rather_21 : decode cX10_rather 21 = .ok (.ireturn, 1) := by decide +kernel
theorem dX10_rather_22 : decode cX10_rather 22 = .ok (.aload_n 0, 1) := by decide +kernel
theorem dX10_rather_23 : decode cX10_rather 23 = .ok (.iload_n 1, 1) := by decide +kernel
theorem dX10_rather_24 : decode cX10_rather 24 = .ok (.invokevirtual 192, 3) := by decide +kernel
theorem dX10_rather_27 : decode cX10_rather 27 = .ok (.iconst 0, 1) := by decide +kernel
theorem dX10_rather_28 : decode cX10_rather 28 = .ok (.istore_n 2, 1) := by decide +kernel
theorem dX10_rather_29 : decode cX10_rather 29 = .ok (.iload_n 2, 1) := by decide +kernel
theorem dX10_rather_30 : decode cX10_rather 30 = .ok (.aload_n 0, 1) := by decide +kernel
theorem dX10_rather_31 : decode cX10_rather 31 = .ok (.getfield 9, 3) := by decide +kernel
theorem dX10_rather_34 : decode cX10_rather 34 = .ok (.iconst 2, 1) := by decide +kernel
theorem dX10_rather_35 : decode cX10_rather 35 = .ok (.iaload, 1) := by decide +kernel
theorem dX10_rather_36 : decode cX10_rather 36 = .ok (.if_icmp .ge 51, 3) := by decide +kernel
theorem dX10_rather_39 : decode cX10_rather 39 = .ok (.iconst 0, 1) := by decide +kernel
theorem dX10_rather_40 : decode cX10_rather 40 = .ok (.istore_n 3, 1) := by decide +kernel
theorem dX10_rather_41 : decode cX10_rather 41 = .ok (.iload_n 3, 1) := by decide +kernel
theorem dX10_rather_42 : decode cX10_rather 42 = .ok (.aload_n 0, 1) := by decide +kernel
theorem dX10_rather_43 : decode cX10_rather 43 = .ok (.getfield 9, 3) := by decide +kernel
theorem dX10_rather_46 : decode cX10_rather 46 = .ok (.iconst 1, 1) := by decide +kernel
theorem dX10_rather_47 : decode cX10_rather 47 = .ok (.iaload, 1) := by decide +kernel
theorem dX10_rather_48 : decode cX10_rather 48 = .ok (.if_icmp .ge 33, 3) := by decide +kernel
theorem dX10_rather_51 : decode cX10_rather 51 = .ok (.aload_n 0, 1) := by decide +kernel
theorem dX10_rather_52 : decode cX10_rather 52 = .ok (.iload_n 2, 1) := by decide +kernel
theorem dX10_rather_53 : decode cX10_rather 53 = .ok (.invokevirtual 152, 3) := by decide +kernel
theorem dX10_rather_56 : decode cX10_rather 56 = .ok (.ifCond .ne 25, 3) := by decide +kernel
theorem dX10_rather_59 : decode cX10_rather 59 = .ok (.aload_n 0, 1) := by decide +kernel
theorem dX10_rather_60 : decode cX10_rather 60 = .ok (.iload_n 2, 1) := by decide +kernel
theorem dX10_rather_61 : decode cX10_rather 61 = .ok (.iload_n 3, 1) := by decide +kernel
theorem dX10_rather_62 : decode cX10_rather 62 = .ok (.invokevirtual 196, 3) := by decide +kernel
theorem dX10_rather_65 : decode cX10_rather 65 = .ok (.ifCond .eq 10, 3) := by decide +kernel
theorem dX10_rather_68 : decode cX10_rather 68 = .ok (.bipush 10, 2) := by decide +kernel
theorem dX10_rather_70 : decode cX10_rather 70 = .ok (.iload_n 2, 1) := by decide +kernel
theorem dX10_rather_71 : decode cX10_rather 71 = .ok (.imul, 1) := by decide +kernel
theorem dX10_rather_72 : decode cX10_rather 72 = .ok (.iload_n 3, 1) := by decide +kernel
theorem dX10_rather_73 : decode cX10_rather 73 = .ok (.iadd, 1) := by decide +kernel
theorem dX10_rather_74 : decode cX10_rather 74 = .ok (.ireturn, 1) := by decide +kernel
theorem dX10_rather_75 : decode cX10_rather 75 = .ok (.iinc 3 1, 3) := by decide +kernel
theorem dX10_rather_78 : decode cX10_rather 78 = .ok (.goto (-37), 3) := by decide +kernel
theorem dX10_rather_81 : decode cX10_rather 81 = .ok (.iinc 2 1, 3) := by decide +kernel
theorem dX10_rather_84 : decode cX10_rather 84 = .ok (.goto (-55), 3) := by decide +kernel
theorem dX10_rather_87 : decode cX10_rather 87 = .ok (.ldc 88, 2) := by decide +kernel
theorem dX10_rather_89 : decode cX10_rather 89 = .ok (.ireturn, 1) := by decide +kernel
theorem dX10_fine_0 : decode cX10_fine 0 = .ok (.aload_n 0, 1) := by decide +kernel
theorem dX10_fine_1 : decode cX10_fine 1 = .ok (.iconst 2, 1) := by decide +kernel
theorem dX10_fine_2 : decode cX10_fine 2 = .ok (.invokevirtual 134, 3) := by decide +kernel
theorem dX10_fine_5 : decode cX10_fine 5 = .ok (.istore_n 1, 1) := by decide +kernel
theorem dX10_fine_6 : decode cX10_fine 6 = .ok (.aload_n 0, 1) := by decide +kernel
theorem dX10_fine_7 : decode cX10_fine 7 = .ok (.getfield 58, 3) := by decide +kernel
theorem dX10_fine_10 : decode cX10_fine 10 = .ok (.iconst 0, 1) := by decide +kernel
theorem dX10_fine_11 : decode cX10_fine 11 = .ok (.aload_n 0, 1) := by decide +kernel
theorem dX10_fine_12 : decode cX10_fine 12 = .ok (.getfield 9, 3) := by decide +kernel
theorem dX10_fine_15 : decode cX10_fine 15 = .ok (.iconst 3, 1) := by decide +kernel
theorem dX10_fine_16 : decode cX10_fine 16 = .ok (.iaload, 1) := by decide +kernel
theorem dX10_fine_17 : decode cX10_fine 17 = .ok (.iastore, 1) := by decide +kernel
theorem dX10_fine_18 : decode cX10_fine 18 = .ok (.aload_n 0, 1) := by decide +kernel
theorem dX10_fine_19 : decode cX10_fine 19 = .ok (.getfield 58, 3) := by decide +kernel
theorem dX10_fine_22 : decode cX10_fine 22 = .ok (.iconst 1, 1) := by decide +kernel
theorem dX10_fine_23 : decode cX10_fine 23 = .ok (.aload_n 0, 1) := by decide +kernel
theorem dX10_fine_24 : decode cX10_fine 24 = .ok (.invokevirtual 185, 3) := by decide +kernel
theorem dX10_fine_27 : decode cX10_fine 27 = .ok (.iastore, 1) := by decide +kernel
theorem dX10_fine_28 : decode cX10_fine 28 = .ok (.iload_n 1, 1) := by decide +kernel
theorem dX10_fine_29 : decode cX10_fine 29 = .ok (.ifCond .ge 7, 3) := by decide +kernel
theorem dX10_fine_32 : decode cX10_fine 32 = .ok (.iconst 0, 1) := by decide +kernel
theorem dX10_fine_33 : decode cX10_fine 33 = .ok (.goto 8, 3) := by decide +kernel
theorem dX10_fine_36 : decode cX10_fine 36 = .ok (.aload_n 0, 1) := by decide +kernel
theorem dX10_fine_37 : decode cX10_fine 37 = .ok (.iload_n 1, 1) := by decide +kernel
theorem dX10_fine_38 : decode cX10_fine 38 = .ok (.invokevirtual 137, 3) := by decide +kernel
theorem dX10_fine_41 : decode cX10_fine 41 = .ok (.ireturn, 1) := by decide +kernel
theorem dX10_feed_0 : decode cX10_feed 0 = .ok (.aload_n 0, 1) := by decide +kernel
theorem dX10_feed_1 : decode cX10_feed 1 = .ok (.getfield 199, 3) := by decide +kernel
theorem dX10_feed_4 : decode cX10_feed 4 = .ok (.bipush 12, 2) := by decide +kernel
theorem dX10_feed_6 : decode cX10_feed 6 = .ok (.iadd, 1) := by decide +kernel
theorem dX10_feed_7 : decode cX10_feed 7 = .ok (.bipush 96, 2) := by decide +kernel
theorem dX10_feed_9 : decode cX10_feed 9 = .ok (.if_icmp .le 6, 3) := by decide +kernel
theorem dX10_feed_12 : decode cX10_feed 12 = .ok (.ldc 98, 2) := by decide +kernel
theorem dX10_feed_14 : decode cX10_feed 14 = .ok (.ireturn, 1) := by decide +kernel
theorem dX10_feed_15 : decode cX10_feed 15 = .ok (.iconst 0, 1) := by decide +kernel
theorem dX10_feed_16 : decode cX10_feed 16 = .ok (.istore 4, 2) := by decide +kernel
theorem dX10_feed_18 : decode cX10_feed 18 = .ok (.iload 4, 2) := by decide +kernel
theorem dX10_feed_20 : decode cX10_feed 20 = .ok (.bipush 12, 2) := by decide +kernel
theorem dX10_feed_22 : decode cX10_feed 22 = .ok (.if_icmp .ge 62, 3) := by decide +kernel
theorem dX10_feed_25 : decode cX10_feed 25 = .ok (.iload 4, 2) := by decide +kernel
theorem dX10_feed_27 : decode cX10_feed 27 = .ok (.iconst 4, 1) := by decide +kernel
theorem dX10_feed_28 : decode cX10_feed 28 = .ok (.if_icmp .ge 7, 3) := by decide +kernel
theorem dX10_feed_31 : decode cX10_feed 31 = .ok (.iload_n 1, 1) := by decide +kernel
theorem dX10_feed_32 : decode cX10_feed 32 = .ok (.goto 15, 3) := by decide +kernel
theorem dX10_feed_35 : decode cX10_feed 35 = .ok (.iload 4, 2) := by decide +kernel
theorem dX10_feed_37 : decode cX10_feed 37 = .ok (.bipush 8, 2) := by decide +kernel
theorem dX10_feed_39 : decode cX10_feed 39 = .ok (.if_icmp .ge 7, 3) := by decide +kernel
theorem dX10_feed_42 : decode cX10_feed 42 = .ok (.iload_n 2, 1) := by decide +kernel
theorem dX10_feed_43 : decode cX10_feed 43 = .ok (.goto 4, 3) := by decide +kernel
theorem dX10_feed_46 : decode cX10_feed 46 = .ok (.iload_n 3, 1) := by decide +kernel
theorem dX10_feed_47 : decode cX10_feed 47 = .ok (.istore 5, 2) := by decide +kernel
theorem dX10_feed_49 : decode cX10_feed 49 = .ok (.aload_n 0, 1) := by decide +kernel
theorem dX10_feed_50 : decode cX10_feed 50 = .ok (.getfield 36, 3) := by decide +kernel
theorem dX10_feed_53 : decode cX10_feed 53 = .ok (.aload_n 0, 1) := by decide +kernel
theorem dX10_feed_54 : decode cX10_feed 54 = .ok (.getfield 199, 3) := by decide +kernel
theorem dX10_feed_57 : decode cX10_feed 57 = .ok (.iload 4, 2) := by decide +kernel
theorem dX10_feed_59 : decode cX10_feed 59 = .ok (.iadd, 1) := by decide +kernel
theorem dX10_feed_60 : decode cX10_feed 60 = .ok (.iload 5, 2) := by decide +kernel
theorem dX10_feed_62 : decode cX10_feed 62 = .ok (.bipush 24, 2) := by decide +kernel
theorem dX10_feed_64 : decode cX10_feed 64 = .ok (.bipush 8, 2) := by decide +kernel
theorem dX10_feed_66 : decode cX10_feed 66 = .ok (.iload 4, 2) := by decide +kernel
theorem dX10_feed_68 : decode cX10_feed 68 = .ok (.iconst 4, 1) := by decide +kernel
theorem dX10_feed_69 : decode cX10_feed 69 = .ok (.irem, 1) := by decide +kernel
theorem dX10_feed_70 : decode cX10_feed 70 = .ok (.imul, 1) := by decide +kernel
theorem dX10_feed_71 : decode cX10_feed 71 = .ok (.isub, 1) := by decide +kernel
theorem dX10_feed_72 : decode cX10_feed 72 = .ok (.ishr, 1) := by decide +kernel
theorem dX10_feed_73 : decode cX10_feed 73 = .ok (.sipush 255, 3) := by decide +kernel
theorem dX10_feed_76 : decode cX10_feed 76 = .ok (.iand, 1) := by decide +kernel
theorem dX10_feed_77 : decode cX10_feed 77 = .ok (.iastore, 1) := by decide +kernel
theorem dX10_feed_78 : decode cX10_feed 78 = .ok (.iinc 4 1, 3) := by decide +kernel
theorem dX10_feed_81 : decode cX10_feed 81 = .ok (.goto (-63), 3) := by decide +kernel
theorem dX10_feed_84 : decode cX10_feed 84 = .ok (.aload_n 0, 1) := by decide +kernel
theorem dX10_feed_85 : decode cX10_feed 85 = .ok (.dup, 1) := by decide +kernel
theorem dX10_feed_86 : decode cX10_feed 86 = .ok (.getfield 199, 3) := by decide +kernel
theorem dX10_feed_89 : decode cX10_feed 89 = .ok (.bipush 12, 2) := by decide +kernel
theorem dX10_feed_91 : decode cX10_feed 91 = .ok (.iadd, 1) := by decide +kernel
theorem dX10_feed_92 : decode cX10_feed 92 = .ok (.putfield 199, 3) := by decide +kernel
theorem dX10_feed_95 : decode cX10_feed 95 = .ok (.aload_n 0, 1) := by decide +kernel
theorem dX10_feed_96 : decode cX10_feed 96 = .ok (.getfield 199, 3) := by decide +kernel
theorem dX10_feed_99 : decode cX10_feed 99 = .ok (.ireturn, 1) := by decide +kernel
theorem dX10_trim_0 : decode cX10_trim 0 = .ok (.iload_n 1, 1) := by decide +kernel
theorem dX10_trim_1 : decode cX10_trim 1 = .ok (.iconst 0, 1) := by decide +kernel
theorem dX10_trim_2 : decode cX10_trim 2 = .ok (.aload_n 0, 1) := by decide +kernel
theorem dX10_trim_3 : decode cX10_trim 3 = .ok (.getfield 199, 3) := by decide +kernel
theorem dX10_trim_6 : decode cX10_trim 6 = .ok (.invokestatic 89, 3) := by decide +kernel
theorem dX10_trim_9 : decode cX10_trim 9 = .ok (.ifCond .ne 6, 3) := by decide +kernel
theorem dX10_trim_12 : decode cX10_trim 12 = .ok (.ldc 97, 2) := by decide +kernel
theorem dX10_trim_14 : decode cX10_trim 14 = .ok (.ireturn, 1) := by decide +kernel
theorem dX10_trim_15 : decode cX10_trim 15 = .ok (.aload_n 0, 1) := by decide +kernel
theorem dX10_trim_16 : decode cX10_trim 16 = .ok (.iload_n 1, 1) := by decide +kernel
theorem dX10_trim_17 : decode cX10_trim 17 = .ok (.putfield 199, 3) := by decide +kernel
theorem dX10_trim_20 : decode cX10_trim 20 = .ok (.iload_n 1, 1) := by decide +kernel
theorem dX10_trim_21 : decode cX10_trim 21 = .ok (.ireturn, 1) := by decide +kernel
theorem dX10_isLetter_0 : decode cX10_isLetter 0 = .ok (.iload_n 1, 1) := by decide +kernel
theorem dX10_isLetter_1 : decode cX10_isLetter 1 = .ok (.aload_n 0, 1) := by decide +kernel
theorem dX10_isLetter_2 : decode cX10_isLetter 2 = .ok (.getfield 199, 3) := by decide +kernel
theorem dX10_isLetter_5 : decode cX10_isLetter 5 = .ok (.if_icmp .ge 29, 3) := by decide +kernel
theorem dX10_isLetter_8 : decode cX10_isLetter 8 = .ok (.aload_n 0, 1) := by decide +kernel
theorem dX10_isLetter_9 : decode cX10_isLetter 9 = .ok (.getfield 36, 3) := by decide +kernel
theorem dX10_isLetter_12 : decode cX10_isLetter 12 = .ok (.iload_n 1, 1) := by decide +kernel
theorem dX10_isLetter_13 : decode cX10_isLetter 13 = .ok (.iaload, 1) := by decide +kernel
theorem dX10_isLetter_14 : decode cX10_isLetter 14 = .ok (.bipush 97, 2) := by decide +kernel
theorem dX10_isLetter_16 : decode cX10_isLetter 16 = .ok (.if_icmp .lt 18, 3) := by decide +kernel
theorem dX10_isLetter_19 : decode cX10_isLetter 19 = .ok (.aload_n 0, 1) := by decide +kernel
theorem dX10_isLetter_20 : decode cX10_isLetter 20 = .ok (.getfield 36, 3) := by decide +kernel
theorem dX10_isLetter_23 : decode cX10_isLetter 23 = .ok (.iload_n 1, 1) := by decide +kernel
theorem dX10_isLetter_24 : decode cX10_isLetter 24 = .ok (.iaload, 1) := by decide +kernel
theorem dX10_isLetter_25 : decode cX10_isLetter 25 = .ok (.bipush 122, 2) := by decide +kernel
theorem dX10_isLetter_27 : decode cX10_isLetter 27 = .ok (.if_icmp .gt 7, 3) := by decide +kernel
theorem dX10_isLetter_30 : decode cX10_isLetter 30 = .ok (.iconst 1, 1) := by decide +kernel
theorem dX10_isLetter_31 : decode cX10_isLetter 31 = .ok (.goto 4, 3) := by decide +kernel
theorem dX10_isLetter_34 : decode cX10_isLetter 34 = .ok (.iconst 0, 1) := by decide +kernel
theorem dX10_isLetter_35 : decode cX10_isLetter 35 = .ok (.ireturn, 1) := by decide +kernel
theorem dX10_isFigure_0 : decode cX10_isFigure 0 = .ok (.iload_n 1, 1) := by decide +kernel
theorem dX10_isFigure_1 : decode cX10_isFigure 1 = .ok (.aload_n 0, 1) := by decide +kernel
theorem dX10_isFigure_2 : decode cX10_isFigure 2 = .ok (.getfield 199, 3) := by decide +kernel
theorem dX10_isFigure_5 : decode cX10_isFigure 5 = .ok (.if_icmp .ge 29, 3) := by decide +kernel
theorem dX10_isFigure_8 : decode cX10_isFigure 8 = .ok (.aload_n 0, 1) := by decide +kernel
theorem dX10_isFigure_9 : decode cX10_isFigure 9 = .ok (.getfield 36, 3) := by decide +kernel
theorem dX10_isFigure_12 : decode cX10_isFigure 12 = .ok (.iload_n 1, 1) := by decide +kernel
theorem dX10_isFigure_13 : decode cX10_isFigure 13 = .ok (.iaload, 1) := by decide +kernel
theorem dX10_isFigure_14 : decode cX10_isFigure 14 = .ok (.bipush 48, 2) := by decide +kernel
theorem dX10_isFigure_16 : decode cX10_isFigure 16 = .ok (.if_icmp .lt 18, 3) := by decide +kernel
theorem dX10_isFigure_19 : decode cX10_isFigure 19 = .ok (.aload_n 0, 1) := by decide +kernel
theorem dX10_isFigure_20 : decode cX10_isFigure 20 = .ok (.getfield 36, 3) := by decide +kernel
theorem dX10_isFigure_23 : decode cX10_isFigure 23 = .ok (.iload_n 1, 1) := by decide +kernel
theorem dX10_isFigure_24 : decode cX10_isFigure 24 = .ok (.iaload, 1) := by decide +kernel
theorem dX10_isFigure_25 : decode cX10_isFigure 25 = .ok (.bipush 57, 2) := by decide +kernel
theorem dX10_isFigure_27 : decode cX10_isFigure 27 = .ok (.if_icmp .gt 7, 3) := by decide +kernel
theorem dX10_isFigure_30 : decode cX10_isFigure 30 = .ok (.iconst 1, 1) := by decide +kernel
theorem dX10_isFigure_31 : decode cX10_isFigure 31 = .ok (.goto 4, 3) := by decide +kernel
theorem dX10_isFigure_34 : decode cX10_isFigure 34 = .ok (.iconst 0, 1) := by decide +kernel
theorem dX10_isFigure_35 : decode cX10_isFigure 35 = .ok (.ireturn, 1) := by decide +kernel
theorem dX10_go_0 : decode cX10_go 0 = .ok (.aload_n 0, 1) := by decide +kernel
theorem dX10_go_1 : decode cX10_go 1 = .ok (.getfield 202, 3) := by decide +kernel
theorem dX10_go_4 : decode cX10_go 4 = .ok (.aload_n 0, 1) := by decide +kernel
theorem dX10_go_5 : decode cX10_go 5 = .ok (.getfield 199, 3) := by decide +kernel
theorem dX10_go_8 : decode cX10_go 8 = .ok (.if_icmp .ge 30, 3) := by decide +kernel
theorem dX10_go_11 : decode cX10_go 11 = .ok (.aload_n 0, 1) := by decide +kernel
theorem dX10_go_12 : decode cX10_go 12 = .ok (.getfield 36, 3) := by decide +kernel
theorem dX10_go_15 : decode cX10_go 15 = .ok (.aload_n 0, 1) := by decide +kernel
theorem dX10_go_16 : decode cX10_go 16 = .ok (.getfield 202, 3) := by decide +kernel
theorem dX10_go_19 : decode cX10_go 19 = .ok (.iaload, 1) := by decide +kernel
theorem dX10_go_20 : decode cX10_go 20 = .ok (.bipush 32, 2) := by decide +kernel
theorem dX10_go_22 : decode cX10_go 22 = .ok (.if_icmp .ne 16, 3) := by decide +kernel
theorem dX10_go_25 : decode cX10_go 25 = .ok (.aload_n 0, 1) := by decide +kernel
theorem dX10_go_26 : decode cX10_go 26 = .ok (.dup, 1) := by decide +kernel
theorem dX10_go_27 : decode cX10_go 27 = .ok (.getfield 202, 3) := by decide +kernel
theorem dX10_go_30 : decode cX10_go 30 = .ok (.iconst 1, 1) := by decide +kernel
theorem dX10_go_31 : decode cX10_go 31 = .ok (.iadd, 1) := by decide +kernel
theorem dX10_go_32 : decode cX10_go 32 = .ok (.putfield 202, 3) := by decide +kernel
theorem dX10_go_35 : decode cX10_go 35 = .ok (.goto (-35), 3) := by decide +kernel
theorem dX10_go_38 : decode cX10_go 38 = .ok (.aload_n 0, 1) := by decide +kernel
theorem dX10_go_39 : decode cX10_go 39 = .ok (.aload_n 0, 1) := by decide +kernel
theorem dX10_go_40 : decode cX10_go 40 = .ok (.getfield 202, 3) := by decide +kernel
theorem dX10_go_43 : decode cX10_go 43 = .ok (.putfield 205, 3) := by decide +kernel
theorem dX10_go_46 : decode cX10_go 46 = .ok (.aload_n 0, 1) := by decide +kernel
theorem dX10_go_47 : decode cX10_go 47 = .ok (.getfield 205, 3) := by decide +kernel
theorem dX10_go_50 : decode cX10_go 50 = .ok (.aload_n 0, 1) := by decide +kernel
theorem dX10_go_51 : decode cX10_go 51 = .ok (.getfield 208, 3) := by decide +kernel
theorem dX10_go_54 : decode cX10_go 54 = .ok (.if_icmp .ne 7, 3) := by decide +kernel
theorem dX10_go_57 : decode cX10_go 57 = .ok (.iconst 1, 1) := by decide +kernel
theorem dX10_go_58 : decode cX10_go 58 = .ok (.goto 4, 3) := by decide +kernel
theorem dX10_go_61 : decode cX10_go 61 = .ok (.iconst 0, 1) := by decide +kernel
theorem dX10_go_62 : decode cX10_go 62 = .ok (.istore_n 1, 1) := by decide +kernel
theorem dX10_go_63 : decode cX10_go 63 = .ok (.aload_n 0, 1) := by decide +kernel
theorem dX10_go_64 : decode cX10_go 64 = .ok (.getfield 205, 3) := by decide +kernel
theorem dX10_go_67 : decode cX10_go 67 = .ok (.aload_n 0, 1) := by decide +kernel
theorem dX10_go_68 : decode cX10_go 68 = .ok (.getfield 199, 3) := by decide +kernel
theorem dX10_go_71 : decode cX10_go 71 = .ok (.if_icmp .ne 11, 3) := by decide +kernel
theorem dX10_go_74 : decode cX10_go 74 = .ok (.aload_n 0, 1) := by decide +kernel
theorem dX10_go_75 : decode cX10_go 75 = .ok (.iconst 0, 1) := by decide +kernel
theorem dX10_go_76 : decode cX10_go 76 = .ok (.putfield 211, 3) := by decide +kernel
theorem dX10_go_79 : decode cX10_go 79 = .ok (.goto 224, 3) := by decide +kernel
theorem dX10_go_82 : decode cX10_go 82 = .ok (.aload_n 0, 1) := by decide +kernel
theorem dX10_go_83 : decode cX10_go 83 = .ok (.aload_n 0, 1) := by decide +kernel
theorem dX10_go_84 : decode cX10_go 84 = .ok (.getfield 205, 3) := by decide +kernel
theorem dX10_go_87 : decode cX10_go 87 = .ok (.invokevirtual 214, 3) := by decide +kernel
theorem dX10_go_90 : decode cX10_go 90 = .ok (.ifCond .eq 64, 3) := by decide +kernel
theorem dX10_go_93 : decode cX10_go 93 = .ok (.aload_n 0, 1) := by decide +kernel
theorem dX10_go_94 : decode cX10_go 94 = .ok (.aload_n 0, 1) := by decide +kernel
theorem dX10_go_95 : decode cX10_go 95 = .ok (.getfield 202, 3) := by decide +kernel
theorem dX10_go_98 : decode cX10_go 98 = .ok (.invokevirtual 214, 3) := by decide +kernel
theorem dX10_go_101 : decode cX10_go 101 = .ok (.ifCond .eq 16, 3) := by decide +kernel
theorem dX10_go_104 : decode cX10_go 104 = .ok (.aload_n 0, 1) := by decide +kernel
theorem dX10_go_105 : decode cX10_go 105 = .ok (.dup, 1) := by decide +kernel
theorem dX10_go_106 : decode cX10_go 106 = .ok (.getfield 202, 3) := by decide +kernel
theorem dX10_go_109 : decode cX10_go 109 = .ok (.iconst 1, 1) := by decide +kernel
theorem dX10_go_110 : decode cX10_go 110 = .ok (.iadd, 1) := by decide +kernel
theorem dX10_go_111 : decode cX10_go 111 = .ok (.putfield 202, 3) := by decide +kernel
theorem dX10_go_114 : decode cX10_go 114 = .ok (.goto (-21), 3) := by decide +kernel
theorem dX10_go_117 : decode cX10_go 117 = .ok (.aload_n 0, 1) := by decide +kernel
theorem dX10_go_118 : decode cX10_go 118 = .ok (.iload_n 1, 1) := by decide +kernel
theorem dX10_go_119 : decode cX10_go 119 = .ok (.ifCond .eq 7, 3) := by decide +kernel
theorem dX10_go_122 : decode cX10_go 122 = .ok (.iconst 4, 1) := by decide +kernel
theorem dX10_go_123 : decode cX10_go 123 = .ok (.goto 4, 3) := by decide +kernel
theorem dX10_go_126 : decode cX10_go 126 = .ok (.iconst 1, 1) := by decide +kernel
theorem dX10_go_127 : decode cX10_go 127 = .ok (.putfield 211, 3) := by decide +kernel
theorem dX10_go_130 : decode cX10_go 130 = .ok (.aload_n 0, 1) := by decide +kernel
theorem dX10_go_131 : decode cX10_go 131 = .ok (.aload_n 0, 1) := by decide +kernel
theorem dX10_go_132 : decode cX10_go 132 = .ok (.getfield 36, 3) := by decide +kernel
theorem dX10_go_135 : decode cX10_go 135 = .ok (.aload_n 0, 1) := by decide +kernel
theorem dX10_go_136 : decode cX10_go 136 = .ok (.getfield 205, 3) := by decide +kernel
theorem dX10_go_139 : decode cX10_go 139 = .ok (.iaload, 1) := by decide +kernel
theorem dX10_go_140 : decode cX10_go 140 = .ok (.putfield 217, 3) := by decide +kernel
theorem dX10_go_143 : decode cX10_go 143 = .ok (.aload_n 0, 1) := by decide +kernel
theorem dX10_go_144 : decode cX10_go 144 = .ok (.aload_n 0, 1) := by decide +kernel
theorem dX10_go_145 : decode cX10_go 145 = .ok (.getfield 202, 3) := by decide +kernel
theorem dX10_go_148 : decode cX10_go 148 = .ok (.putfield 208, 3) := by decide +kernel
theorem dX10_go_151 : decode cX10_go 151 = .ok (.goto 152, 3) := by decide +kernel
theorem dX10_go_154 : decode cX10_go 154 = .ok (.aload_n 0, 1) := by decide +kernel
theorem dX10_go_155 : decode cX10_go 155 = .ok (.aload_n 0, 1) := by decide +kernel
theorem dX10_go_156 : decode cX10_go 156 = .ok (.getfield 205, 3) := by decide +kernel
theorem dX10_go_159 : decode cX10_go 159 = .ok (.invokevirtual 220, 3) := by decide +kernel
theorem dX10_go_162 : decode cX10_go 162 = .ok (.ifCond .eq 113, 3) := by decide +kernel
theorem dX10_go_165 : decode cX10_go 165 = .ok (.aload_n 0, 1) := by decide +kernel
theorem dX10_go_166 : decode cX10_go 166 = .ok (.iconst 0, 1) := by decide +kernel
theorem dX10_go_167 : decode cX10_go 167 = .ok (.putfield 217, 3) := by decide +kernel
theorem dX10_go_170 : decode cX10_go 170 = .ok (.aload_n 0, 1) := by decide +kernel
theorem dX10_go_171 : decode cX10_go 171 = .ok (.aload_n 0, 1) := by decide +kernel
theorem dX10_go_172 : decode cX10_go 172 = .ok (.getfield 202, 3) := by decide +kernel
theorem dX10_go_175 : decode cX10_go 175 = .ok (.invokevirtual 220, 3) := by decide +kernel
theorem dX10_go_178 : decode cX10_go 178 = .ok (.ifCond .eq 60, 3) := by decide +kernel
theorem dX10_go_181 : decode cX10_go 181 = .ok (.aload_n 0, 1) := by decide +kernel
theorem dX10_go_182 : decode cX10_go 182 = .ok (.aload_n 0, 1) := by decide +kernel
theorem dX10_go_183 : decode cX10_go 183 = .ok (.getfield 202, 3) := by decide +kernel
theorem dX10_go_186 : decode cX10_go 186 = .ok (.aload_n 0, 1) := by decide +kernel
theorem dX10_go_187 : decode cX10_go 187 = .ok (.getfield 205, 3) := by decide +kernel
theorem dX10_go_190 : decode cX10_go 190 = .ok (.isub, 1) := by decide +kernel
theorem dX10_go_191 : decode cX10_go 191 = .ok (.iconst 4, 1) := by decide +kernel
theorem dX10_go_192 : decode cX10_go 192 = .ok (.if_icmp .ge 26, 3) := by decide +kernel
theorem dX10_go_195 : decode cX10_go 195 = .ok (.bipush 10, 2) := by decide +kernel
theorem dX10_go_197 : decode cX10_go 197 = .ok (.aload_n 0, 1) := by decide +kernel
theorem dX10_go_198 : decode cX10_go 198 = .ok (.getfield 217, 3) := by decide +kernel
theorem dX10_go_201 : decode cX10_go 201 = .ok (.imul, 1) := by decide +kernel
theorem dX10_go_202 : decode cX10_go 202 = .ok (.aload_n 0, 1) := by decide +kernel
theorem dX10_go_203 : decode cX10_go 203 = .ok (.getfield 36, 3) := by decide +kernel
theorem dX10_go_206 : decode cX10_go 206 = .ok (.aload_n 0, 1) := by decide +kernel
theorem dX10_go_207 : decode cX10_go 207 = .ok (.getfield 202, 3) := by decide +kernel
theorem dX10_go_210 : decode cX10_go 210 = .ok (.iaload, 1) := by decide +kernel
theorem dX10_go_211 : decode cX10_go 211 = .ok (.iadd, 1) := by decide +kernel
theorem dX10_go_212 : decode cX10_go 212 = .ok (.bipush 48, 2) := by decide +kernel
theorem dX10_go_214 : decode cX10_go 214 = .ok (.isub, 1) := by decide +kernel
theorem dX10_go_215 : decode cX10_go 215 = .ok (.goto 7, 3) := by decide +kernel
theorem dX10_go_218 : decode cX10_go 218 = .ok (.aload_n 0, 1) := by decide +kernel
theorem dX10_go_219 : decode cX10_go 219 = .ok (.getfield 217, 3) := by decide +kernel
theorem dX10_go_222 : decode cX10_go 222 = .ok (.putfield 217, 3) := by decide +kernel
theorem dX10_go_225 : decode cX10_go 225 = .ok (.aload_n 0, 1) := by decide +kernel
theorem dX10_go_226 : decode cX10_go 226 = .ok (.dup, 1) := by decide +kernel
theorem dX10_go_227 : decode cX10_go 227 = .ok (.getfield 202, 3) := by decide +kernel
theorem dX10_go_230 : decode cX10_go 230 = .ok (.iconst 1, 1) := by decide +kernel
theorem dX10_go_231 : decode cX10_go 231 = .ok (.iadd, 1) := by decide +kernel
theorem dX10_go_232 : decode cX10_go 232 = .ok (.putfield 202, 3) := by decide +kernel
theorem dX10_go_235 : decode cX10_go 235 = .ok (.goto (-65), 3) := by decide +kernel
theorem dX10_go_238 : decode cX10_go 238 = .ok (.aload_n 0, 1) := by decide +kernel
theorem dX10_go_239 : decode cX10_go 239 = .ok (.iload_n 1, 1) := by decide +kernel
theorem dX10_go_240 : decode cX10_go 240 = .ok (.ifCond .ne 16, 3) := by decide +kernel
theorem dX10_go_243 : decode cX10_go 243 = .ok (.aload_n 0, 1) := by decide +kernel
theorem dX10_go_244 : decode cX10_go 244 = .ok (.getfield 202, 3) := by decide +kernel
theorem dX10_go_247 : decode cX10_go 247 = .ok (.aload_n 0, 1) := by decide +kernel
theorem dX10_go_248 : decode cX10_go 248 = .ok (.getfield 205, 3) := by decide +kernel
theorem dX10_go_251 : decode cX10_go 251 = .ok (.isub, 1) := by decide +kernel
theorem dX10_go_252 : decode cX10_go 252 = .ok (.iconst 4, 1) := by decide +kernel
theorem dX10_go_253 : decode cX10_go 253 = .ok (.if_icmp .le 7, 3) := by decide +kernel
theorem dX10_go_256 : decode cX10_go 256 = .ok (.iconst 4, 1) := by decide +kernel
theorem dX10_go_257 : decode cX10_go 257 = .ok (.goto 4, 3) := by decide +kernel
theorem dX10_go_260 : decode cX10_go 260 = .ok (.iconst 2, 1) := by decide +kernel
theorem dX10_go_261 : decode cX10_go 261 = .ok (.putfield 211, 3) := by decide +kernel
theorem dX10_go_264 : decode cX10_go 264 = .ok (.aload_n 0, 1) := by decide +kernel
theorem dX10_go_265 : decode cX10_go 265 = .ok (.aload_n 0, 1) := by decide +kernel
theorem dX10_go_266 : decode cX10_go 266 = .ok (.getfield 202, 3) := by decide +kernel
theorem dX10_go_269 : decode cX10_go 269 = .ok (.putfield 208, 3) := by decide +kernel
theorem dX10_go_272 : decode cX10_go 272 = .ok (.goto 31, 3) := by decide +kernel
theorem dX10_go_275 : decode cX10_go 275 = .ok (.aload_n 0, 1) := by decide +kernel
theorem dX10_go_276 : decode cX10_go 276 = .ok (.iconst 3, 1) := by decide +kernel
theorem dX10_go_277 : decode cX10_go 277 = .ok (.putfield 211, 3) := by decide +kernel
theorem dX10_go_280 : decode cX10_go 280 = .ok (.aload_n 0, 1) := by decide +kernel
theorem dX10_go_281 : decode cX10_go 281 = .ok (.aload_n 0, 1) := by decide +kernel
theorem dX10_go_282 : decode cX10_go 282 = .ok (.getfield 36, 3) := by decide +kernel
theorem dX10_go_285 : decode cX10_go 285 = .ok (.aload_n 0, 1) := by decide +kernel
theorem dX10_go_286 : decode cX10_go 286 = .ok (.getfield 205, 3) := by decide +kernel
theorem dX10_go_289 : decode cX10_go 289 = .ok (.iaload, 1) := by decide +kernel
theorem dX10_go_290 : decode cX10_go 290 = .ok (.putfield 217, 3) := by decide +kernel
theorem dX10_go_293 : decode cX10_go 293 = .ok (.aload_n 0, 1) := by decide +kernel
theorem dX10_go_294 : decode cX10_go 294 = .ok (.dup, 1) := by decide +kernel
theorem dX10_go_295 : decode cX10_go 295 = .ok (.getfield 202, 3) := by decide +kernel
theorem dX10_go_298 : decode cX10_go 298 = .ok (.iconst 1, 1) := by decide +kernel
theorem dX10_go_299 : decode cX10_go 299 = .ok (.iadd, 1) := by decide +kernel
theorem dX10_go_300 : decode cX10_go 300 = .ok (.putfield 202, 3) := by decide +kernel
theorem dX10_go_303 : decode cX10_go 303 = .ok (.return_, 1) := by decide +kernel
theorem dX10_takesKey_0 : decode cX10_takesKey 0 = .ok (.aload_n 0, 1) := by decide +kernel
theorem dX10_takesKey_1 : decode cX10_takesKey 1 = .ok (.getfield 211, 3) := by decide +kernel
theorem dX10_takesKey_4 : decode cX10_takesKey 4 = .ok (.iconst 1, 1) := by decide +kernel
theorem dX10_takesKey_5 : decode cX10_takesKey 5 = .ok (.if_icmp .eq 5, 3) := by decide +kernel
theorem dX10_takesKey_8 : decode cX10_takesKey 8 = .ok (.iconst 0, 1) := by decide +kernel
theorem dX10_takesKey_9 : decode cX10_takesKey 9 = .ok (.ireturn, 1) := by decide +kernel
theorem dX10_takesKey_10 : decode cX10_takesKey 10 = .ok (.iconst 0, 1) := by decide +kernel
theorem dX10_takesKey_11 : decode cX10_takesKey 11 = .ok (.istore_n 1, 1) := by decide +kernel
theorem dX10_takesKey_12 : decode cX10_takesKey 12 = .ok (.iload_n 1, 1) := by decide +kernel
theorem dX10_takesKey_13 : decode cX10_takesKey 13 = .ok (.iconst 3, 1) := by decide +kernel
theorem dX10_takesKey_14 : decode cX10_takesKey 14 = .ok (.if_icmp .ge 113, 3) := by decide +kernel
theorem dX10_takesKey_17 : decode cX10_takesKey 17 = .ok (.aload_n 0, 1) := by decide +kernel
theorem dX10_takesKey_18 : decode cX10_takesKey 18 = .ok (.getfield 43, 3) := by decide +kernel
theorem dX10_takesKey_21 : decode cX10_takesKey 21 = .ok (.iload_n 1, 1) := by decide +kernel
theorem dX10_takesKey_22 : decode cX10_takesKey 22 = .ok (.iconst 1, 1) := by decide +kernel
theorem dX10_takesKey_23 : decode cX10_takesKey 23 = .ok (.iadd, 1) := by decide +kernel
theorem dX10_takesKey_24 : decode cX10_takesKey 24 = .ok (.iaload, 1) := by decide +kernel
theorem dX10_takesKey_25 : decode cX10_takesKey 25 = .ok (.aload_n 0, 1) := by decide +kernel
theorem dX10_takesKey_26 : decode cX10_takesKey 26 = .ok (.getfield 43, 3) := by decide +kernel
theorem dX10_takesKey_29 : decode cX10_takesKey 29 = .ok (.iload_n 1, 1) := by decide +kernel
theorem dX10_takesKey_30 : decode cX10_takesKey 30 = .ok (.iaload, 1) := by decide +kernel
theorem dX10_takesKey_31 : decode cX10_takesKey 31 = .ok (.isub, 1) := by decide +kernel
theorem dX10_takesKey_32 : decode cX10_takesKey 32 = .ok (.istore_n 2, 1) := by decide +kernel
theorem dX10_takesKey_33 : decode cX10_takesKey 33 = .ok (.iload_n 2, 1) := by decide +kernel
theorem dX10_takesKey_34 : decode cX10_takesKey 34 = .ok (.aload_n 0, 1) := by decide +kernel
theorem dX10_takesKey_35 : decode cX10_takesKey 35 = .ok (.getfield 202, 3) := by decide +kernel
theorem dX10_takesKey_38 : decode cX10_takesKey 38 = .ok (.aload_n 0, 1) := by decide +kernel
theorem dX10_takesKey_39 : decode cX10_takesKey 39 = .ok (.getfield 205, 3) := by decide +kernel
theorem dX10_takesKey_42 : decode cX10_takesKey 42 = .ok (.isub, 1) := by decide +kernel
theorem dX10_takesKey_43 : decode cX10_takesKey 43 = .ok (.if_icmp .ne 7, 3) := by decide +kernel
theorem dX10_takesKey_46 : decode cX10_takesKey 46 = .ok (.iconst 1, 1) := by decide +kernel
theorem dX10_takesKey_47 : decode cX10_takesKey 47 = .ok (.goto 4, 3) := by decide +kernel
theorem dX10_takesKey_50 : decode cX10_takesKey 50 = .ok (.iconst 0, 1) := by decide +kernel
theorem dX10_takesKey_51 : decode cX10_takesKey 51 = .ok (.istore_n 3, 1) := by decide +kernel
theorem dX10_takesKey_52 : decode cX10_takesKey 52 = .ok (.iconst 0, 1) := by decide +kernel
theorem dX10_takesKey_53 : decode cX10_takesKey 53 = .ok (.istore 4, 2) := by decide +kernel
theorem dX10_takesKey_55 : decode cX10_takesKey 55 = .ok (.iload 4, 2) := by decide +kernel
theorem dX10_takesKey_57 : decode cX10_takesKey 57 = .ok (.iload_n 2, 1) := by decide +kernel
theorem dX10_takesKey_58 : decode cX10_takesKey 58 = .ok (.if_icmp .ge 48, 3) := by decide +kernel
theorem dX10_takesKey_61 : decode cX10_takesKey 61 = .ok (.iload_n 3, 1) := by decide +kernel
theorem dX10_takesKey_62 : decode cX10_takesKey 62 = .ok (.ifCond .eq 44, 3) := by decide +kernel
theorem dX10_takesKey_65 : decode cX10_takesKey 65 = .ok (.aload_n 0, 1) := by decide +kernel
theorem dX10_takesKey_66 : decode cX10_takesKey 66 = .ok (.getfield 36, 3) := by decide +kernel
theorem dX10_takesKey_69 : decode cX10_takesKey 69 = .ok (.aload_n 0, 1) := by decide +kernel
theorem dX10_takesKey_70 : decode cX10_takesKey 70 = .ok (.getfield 205, 3) := by decide +kernel
theorem dX10_takesKey_73 : decode cX10_takesKey 73 = .ok (.iload 4, 2) := by decide +kernel
theorem dX10_takesKey_75 : decode cX10_takesKey 75 = .ok (.iadd, 1) := by decide +kernel
theorem dX10_takesKey_76 : decode cX10_takesKey 76 = .ok (.iaload, 1) := by decide +kernel
theorem dX10_takesKey_77 : decode cX10_takesKey 77 = .ok (.aload_n 0, 1) := by decide +kernel
theorem dX10_takesKey_78 : decode cX10_takesKey 78 = .ok (.getfield 39, 3) := by decide +kernel
theorem dX10_takesKey_81 : decode cX10_takesKey 81 = .ok (.aload_n 0, 1) := by decide +kernel
theorem dX10_takesKey_82 : decode cX10_takesKey 82 = .ok (.getfield 43, 3) := by decide +kernel
theorem dX10_takesKey_85 : decode cX10_takesKey 85 = .ok (.iload_n 1, 1) := by decide +kernel
theorem dX10_takesKey_86 : decode cX10_takesKey 86 = .ok (.iaload, 1) := by decide +kernel
theorem dX10_takesKey_87 : decode cX10_takesKey 87 = .ok (.iload 4, 2) := by decide +kernel
theorem dX10_takesKey_89 : decode cX10_takesKey 89 = .ok (.iadd, 1) := by decide +kernel
theorem dX10_takesKey_90 : decode cX10_takesKey 90 = .ok (.caload, 1) := by decide +kernel
theorem dX10_takesKey_91 : decode cX10_takesKey 91 = .ok (.if_icmp .ne 7, 3) := by decide +kernel
theorem dX10_takesKey_94 : decode cX10_takesKey 94 = .ok (.iconst 1, 1) := by decide +kernel
theorem dX10_takesKey_95 : decode cX10_takesKey 95 = .ok (.goto 4, 3) := by decide +kernel
theorem dX10_takesKey_98 : decode cX10_takesKey 98 = .ok (.iconst 0, 1) := by decide +kernel
theorem dX10_takesKey_99 : decode cX10_takesKey 99 = .ok (.istore_n 3, 1) := by decide +kernel
theorem dX10_takesKey_100 : decode cX10_takesKey 100 = .ok (.iinc 4 1, 3) := by decide +kernel
theorem dX10_takesKey_103 : decode cX10_takesKey 103 = .ok (.goto (-48), 3) := by decide +kernel
theorem dX10_takesKey_106 : decode cX10_takesKey 106 = .ok (.iload_n 3, 1) := by decide +kernel
theorem dX10_takesKey_107 : decode cX10_takesKey 107 = .ok (.ifCond .eq 14, 3) := by decide +kernel
theorem dX10_takesKey_110 : decode cX10_takesKey 110 = .ok (.aload_n 0, 1) := by decide +kernel
theorem dX10_takesKey_111 : decode cX10_takesKey 111 = .ok (.iload_n 1, 1) := by decide +kernel
theorem dX10_takesKey_112 : decode cX10_takesKey 112 = .ok (.putfield 223, 3) := by decide +kernel
theorem dX10_takesKey_115 : decode cX10_takesKey 115 = .ok (.aload_n 0, 1) := by decide +kernel
theorem dX10_takesKey_116 : decode cX10_takesKey 116 = .ok (.invokevirtual 226, 3) := by decide +kernel
theorem dX10_takesKey_119 : decode cX10_takesKey 119 = .ok (.iconst 1, 1) := by decide +kernel
theorem dX10_takesKey_120 : decode cX10_takesKey 120 = .ok (.ireturn, 1) := by decide +kernel
theorem dX10_takesKey_121 : decode cX10_takesKey 121 = .ok (.iinc 1 1, 3) := by decide +kernel
theorem dX10_takesKey_124 : decode cX10_takesKey 124 = .ok (.goto (-112), 3) := by decide +kernel
theorem dX10_takesKey_127 : decode cX10_takesKey 127 = .ok (.iconst 0, 1) := by decide +kernel
theorem dX10_takesKey_128 : decode cX10_takesKey 128 = .ok (.ireturn, 1) := by decide +kernel
theorem dX10_nameOf_0 : decode cX10_nameOf 0 = .ok (.aload_n 0, 1) := by decide +kernel
theorem dX10_nameOf_1 : decode cX10_nameOf 1 = .ok (.getfield 223, 3) := by decide +kernel
theorem dX10_nameOf_4 : decode cX10_nameOf 4 = .ok (.lookupswitch 82 #[(0, 28), (1, 60)], 28) := by decide +kernel
theorem dX10_nameOf_32 : decode cX10_nameOf 32 = .ok (.iload_n 1, 1) := by decide +kernel
theorem dX10_nameOf_33 : decode cX10_nameOf 33 = .ok (.bipush 119, 2) := by decide +kernel
theorem dX10_nameOf_35 : decode cX10_nameOf 35 = .ok (.if_icmp .ne 7, 3) := by decide +kernel
theorem dX10_nameOf_38 : decode cX10_nameOf 38 = .ok (.iconst 0, 1) := by decide +kernel
theorem dX10_nameOf_39 : decode cX10_nameOf 39 = .ok (.goto 24, 3) := by decide +kernel
theorem dX10_nameOf_42 : decode cX10_nameOf 42 = .ok (.iload_n 1, 1) := by decide +kernel
theorem dX10_nameOf_43 : decode cX10_nameOf 43 = .ok (.bipush 102, 2) := by decide +kernel
theorem dX10_nameOf_45 : decode cX10_nameOf 45 = .ok (.if_icmp .ne 7, 3) := by decide +kernel
theorem dX10_nameOf_48 : decode cX10_nameOf 48 = .ok (.iconst 1, 1) := by decide +kernel
theorem dX10_nameOf_49 : decode cX10_nameOf 49 = .ok (.goto 14, 3) := by decide +kernel
theorem dX10_nameOf_52 : decode cX10_nameOf 52 = .ok (.iload_n 1, 1) := by decide +kernel
theorem dX10_nameOf_53 : decode cX10_nameOf 53 = .ok (.bipush 104, 2) := by decide +kernel
theorem dX10_nameOf_55 : decode cX10_nameOf 55 = .ok (.if_icmp .ne 7, 3) := by decide +kernel
theorem dX10_nameOf_58 : decode cX10_nameOf 58 = .ok (.iconst 2, 1) := by decide +kernel
theorem dX10_nameOf_59 : decode cX10_nameOf 59 = .ok (.goto 4, 3) := by decide +kernel
theorem dX10_nameOf_62 : decode cX10_nameOf 62 = .ok (.iconst (-1), 1) := by decide +kernel
theorem dX10_nameOf_63 : decode cX10_nameOf 63 = .ok (.ireturn, 1) := by decide +kernel
theorem dX10_nameOf_64 : decode cX10_nameOf 64 = .ok (.iload_n 1, 1) := by decide +kernel
theorem dX10_nameOf_65 : decode cX10_nameOf 65 = .ok (.bipush 110, 2) := by decide +kernel
theorem dX10_nameOf_67 : decode cX10_nameOf 67 = .ok (.if_icmp .ne 7, 3) := by decide +kernel
theorem dX10_nameOf_70 : decode cX10_nameOf 70 = .ok (.iconst 0, 1) := by decide +kernel
theorem dX10_nameOf_71 : decode cX10_nameOf 71 = .ok (.goto 14, 3) := by decide +kernel
theorem dX10_nameOf_74 : decode cX10_nameOf 74 = .ok (.iload_n 1, 1) := by decide +kernel
theorem dX10_nameOf_75 : decode cX10_nameOf 75 = .ok (.bipush 119, 2) := by decide +kernel
theorem dX10_nameOf_77 : decode cX10_nameOf 77 = .ok (.if_icmp .ne 7, 3) := by decide +kernel
theorem dX10_nameOf_80 : decode cX10_nameOf 80 = .ok (.iconst 1, 1) := by decide +kernel
theorem dX10_nameOf_81 : decode cX10_nameOf 81 = .ok (.goto 4, 3) := by decide +kernel
theorem dX10_nameOf_84 : decode cX10_nameOf 84 = .ok (.iconst (-1), 1) := by decide +kernel
theorem dX10_nameOf_85 : decode cX10_nameOf 85 = .ok (.ireturn, 1) := by decide +kernel
theorem dX10_nameOf_86 : decode cX10_nameOf 86 = .ok (.iload_n 1, 1) := by decide +kernel
theorem dX10_nameOf_87 : decode cX10_nameOf 87 = .ok (.bipush 121, 2) := by decide +kernel
theorem dX10_nameOf_89 : decode cX10_nameOf 89 = .ok (.if_icmp .ne 7, 3) := by decide +kernel
theorem dX10_nameOf_92 : decode cX10_nameOf 92 = .ok (.iconst 0, 1) := by decide +kernel
theorem dX10_nameOf_93 : decode cX10_nameOf 93 = .ok (.goto 14, 3) := by decide +kernel
theorem dX10_nameOf_96 : decode cX10_nameOf 96 = .ok (.iload_n 1, 1) := by decide +kernel
theorem dX10_nameOf_97 : decode cX10_nameOf 97 = .ok (.bipush 115, 2) := by decide +kernel
theorem dX10_nameOf_99 : decode cX10_nameOf 99 = .ok (.if_icmp .ne 7, 3) := by decide +kernel
theorem dX10_nameOf_102 : decode cX10_nameOf 102 = .ok (.iconst 1, 1) := by decide +kernel
theorem dX10_nameOf_103 : decode cX10_nameOf 103 = .ok (.goto 4, 3) := by decide +kernel
theorem dX10_nameOf_106 : decode cX10_nameOf 106 = .ok (.iconst (-1), 1) := by decide +kernel
theorem dX10_nameOf_107 : decode cX10_nameOf 107 = .ok (.ireturn, 1) := by decide +kernel
theorem dX10_rank_0 : decode cX10_rank 0 = .ok (.iload_n 0, 1) := by decide +kernel
theorem dX10_rank_1 : decode cX10_rank 1 = .ok (.iconst (-1), 1) := by decide +kernel
theorem dX10_rank_2 : decode cX10_rank 2 = .ok (.if_icmp .ne 7, 3) := by decide +kernel
theorem dX10_rank_5 : decode cX10_rank 5 = .ok (.iconst 1, 1) := by decide +kernel
theorem dX10_rank_6 : decode cX10_rank 6 = .ok (.goto 45, 3) := by decide +kernel
theorem dX10_rank_9 : decode cX10_rank 9 = .ok (.iload_n 0, 1) := by decide +kernel
theorem dX10_rank_10 : decode cX10_rank 10 = .ok (.bipush (-2), 2) := by decide +kernel
theorem dX10_rank_12 : decode cX10_rank 12 = .ok (.if_icmp .ne 7, 3) := by decide +kernel
theorem dX10_rank_15 : decode cX10_rank 15 = .ok (.iconst 2, 1) := by decide +kernel
theorem dX10_rank_16 : decode cX10_rank 16 = .ok (.goto 35, 3) := by decide +kernel
theorem dX10_rank_19 : decode cX10_rank 19 = .ok (.iload_n 0, 1) := by decide +kernel
theorem dX10_rank_20 : decode cX10_rank 20 = .ok (.bipush (-5), 2) := by decide +kernel
theorem dX10_rank_22 : decode cX10_rank 22 = .ok (.if_icmp .lt 7, 3) := by decide +kernel
theorem dX10_rank_25 : decode cX10_rank 25 = .ok (.iconst 3, 1) := by decide +kernel
theorem dX10_rank_26 : decode cX10_rank 26 = .ok (.goto 25, 3) := by decide +kernel
theorem dX10_rank_29 : decode cX10_rank 29 = .ok (.iload_n 0, 1) := by decide +kernel
theorem dX10_rank_30 : decode cX10_rank 30 = .ok (.bipush (-7), 2) := by decide +kernel
theorem dX10_rank_32 : decode cX10_rank 32 = .ok (.if_icmp .lt 7, 3) := by decide +kernel
theorem dX10_rank_35 : decode cX10_rank 35 = .ok (.iconst 4, 1) := by decide +kernel
theorem dX10_rank_36 : decode cX10_rank 36 = .ok (.goto 15, 3) := by decide +kernel
theorem dX10_rank_39 : decode cX10_rank 39 = .ok (.iload_n 0, 1) := by decide +kernel
theorem dX10_rank_40 : decode cX10_rank 40 = .ok (.bipush (-9), 2) := by decide +kernel
theorem dX10_rank_42 : decode cX10_rank 42 = .ok (.if_icmp .lt 7, 3) := by decide +kernel
theorem dX10_rank_45 : decode cX10_rank 45 = .ok (.iconst 5, 1) := by decide +kernel
theorem dX10_rank_46 : decode cX10_rank 46 = .ok (.goto 5, 3) := by decide +kernel
theorem dX10_rank_49 : decode cX10_rank 49 = .ok (.bipush 6, 2) := by decide +kernel
theorem dX10_rank_51 : decode cX10_rank 51 = .ok (.ireturn, 1) := by decide +kernel
theorem dX10_settle_0 : decode cX10_settle 0 = .ok (.aload_n 0, 1) := by decide +kernel
theorem dX10_settle_1 : decode cX10_settle 1 = .ok (.getfield 229, 3) := by decide +kernel
theorem dX10_settle_4 : decode cX10_settle 4 = .ok (.ifCond .le 78, 3) := by decide +kernel
theorem dX10_settle_7 : decode cX10_settle 7 = .ok (.aload_n 0, 1) := by decide +kernel
theorem dX10_settle_8 : decode cX10_settle 8 = .ok (.getfield 49, 3) := by decide +kernel
theorem dX10_settle_11 : decode cX10_settle 11 = .ok (.aload_n 0, 1) := by decide +kernel
theorem dX10_settle_12 : decode cX10_settle 12 = .ok (.getfield 229, 3) := by decide +kernel
theorem dX10_settle_15 : decode cX10_settle 15 = .ok (.iconst 1, 1) := by decide +kernel
theorem dX10_settle_16 : decode cX10_settle 16 = .ok (.isub, 1) := by decide +kernel
theorem dX10_settle_17 : decode cX10_settle 17 = .ok (.iaload, 1) := by decide +kernel
theorem dX10_settle_18 : decode cX10_settle 18 = .ok (.bipush (-11), 2) := by decide +kernel
theorem dX10_settle_20 : decode cX10_settle 20 = .ok (.if_icmp .eq 62, 3) := by decide +kernel
theorem dX10_settle_23 : decode cX10_settle 23 = .ok (.aload_n 0, 1) := by decide +kernel
theorem dX10_settle_24 : decode cX10_settle 24 = .ok (.getfield 49, 3) := by decide +kernel
theorem dX10_settle_27 : decode cX10_settle 27 = .ok (.aload_n 0, 1) := by decide +kernel
theorem dX10_settle_28 : decode cX10_settle 28 = .ok (.getfield 229, 3) := by decide +kernel
theorem dX10_settle_31 : decode cX10_settle 31 = .ok (.iconst 1, 1) := by decide +kernel
theorem dX10_settle_32 : decode cX10_settle 32 = .ok (.isub, 1) := by decide +kernel
theorem dX10_settle_33 : decode cX10_settle 33 = .ok (.iaload, 1) := by decide +kernel
theorem dX10_settle_34 : decode cX10_settle 34 = .ok (.invokestatic 232, 3) := by decide +kernel
theorem dX10_settle_37 : decode cX10_settle 37 = .ok (.iload_n 1, 1) := by decide +kernel
theorem dX10_settle_38 : decode cX10_settle 38 = .ok (.if_icmp .lt 44, 3) := by decide +kernel
theorem dX10_settle_41 : decode cX10_settle 41 = .ok (.aload_n 0, 1) := by decide +kernel
theorem dX10_settle_42 : decode cX10_settle 42 = .ok (.dup, 1) := by decide +kernel
theorem dX10_settle_43 : decode cX10_settle 43 = .ok (.getfield 229, 3) := by decide +kernel
theorem dX10_settle_46 : decode cX10_settle 46 = .ok (.iconst 1, 1) := by decide +kernel
theorem dX10_settle_47 : decode cX10_settle 47 = .ok (.isub, 1) := by decide +kernel
theorem dX10_settle_48 : decode cX10_settle 48 = .ok (.putfield 229, 3) := by decide +kernel
theorem dX10_settle_51 : decode cX10_settle 51 = .ok (.aload_n 0, 1) := by decide +kernel
theorem dX10_settle_52 : decode cX10_settle 52 = .ok (.getfield 46, 3) := by decide +kernel
theorem dX10_settle_55 : decode cX10_settle 55 = .ok (.aload_n 0, 1) := by decide +kernel
theorem dX10_settle_56 : decode cX10_settle 56 = .ok (.getfield 235, 3) := by decide +kernel
theorem dX10_settle_59 : decode cX10_settle 59 = .ok (.aload_n 0, 1) := by decide +kernel
theorem dX10_settle_60 : decode cX10_settle 60 = .ok (.getfield 49, 3) := by decide +kernel
theorem dX10_settle_63 : decode cX10_settle 63 = .ok (.aload_n 0, 1) := by decide +kernel
theorem dX10_settle_64 : decode cX10_settle 64 = .ok (.getfield 229, 3) := by decide +kernel
theorem dX10_settle_67 : decode cX10_settle 67 = .ok (.iaload, 1) := by decide +kernel
theorem dX10_settle_68 : decode cX10_settle 68 = .ok (.iastore, 1) := by decide +kernel
theorem dX10_settle_69 : decode cX10_settle 69 = .ok (.aload_n 0, 1) := by decide +kernel
theorem dX10_settle_70 : decode cX10_settle 70 = .ok (.dup, 1) := by decide +kernel
theorem dX10_settle_71 : decode cX10_settle 71 = .ok (.getfield 235, 3) := by decide +kernel
theorem dX10_settle_74 : decode cX10_settle 74 = .ok (.iconst 1, 1) := by decide +kernel
theorem dX10_settle_75 : decode cX10_settle 75 = .ok (.iadd, 1) := by decide +kernel
theorem dX10_settle_76 : decode cX10_settle 76 = .ok (.putfield 235, 3) := by decide +kernel
theorem dX10_settle_79 : decode cX10_settle 79 = .ok (.goto (-79), 3) := by decide +kernel
theorem dX10_settle_82 : decode cX10_settle 82 = .ok (.return_, 1) := by decide +kernel
theorem dX10_signHere_0 : decode cX10_signHere 0 = .ok (.aload_n 0, 1) := by decide +kernel
theorem dX10_signHere_1 : decode cX10_signHere 1 = .ok (.getfield 211, 3) := by decide +kernel
theorem dX10_signHere_4 : decode cX10_signHere 4 = .ok (.iconst 3, 1) := by decide +kernel
theorem dX10_signHere_5 : decode cX10_signHere 5 = .ok (.if_icmp .eq 5, 3) := by decide +kernel
theorem dX10_signHere_8 : decode cX10_signHere 8 = .ok (.iconst 0, 1) := by decide +kernel
theorem dX10_signHere_9 : decode cX10_signHere 9 = .ok (.ireturn, 1) := by decide +kernel
theorem dX10_signHere_10 : decode cX10_signHere 10 = .ok (.aload_n 0, 1) := by decide +kernel
theorem dX10_signHere_11 : decode cX10_signHere 11 = .ok (.getfield 217, 3) := by decide +kernel
theorem dX10_signHere_14 : decode cX10_signHere 14 = .ok (.lookupswitch 108 #[(38, 84), (42, 102), (43, 96), (45, 99), (47, 105), (60, 87), (61, 90), (62, 93), (124, 82)], 82) := by decide +kernel
theorem dX10_signHere_96 : decode cX10_signHere 96 = .ok (.iconst (-1), 1) := by decide +kernel
theorem dX10_signHere_97 : decode cX10_signHere 97 = .ok (.ireturn, 1) := by decide +kernel
theorem dX10_signHere_98 : decode cX10_signHere 98 = .ok (.bipush (-2), 2) := by decide +kernel
theorem dX10_signHere_100 : decode cX10_signHere 100 = .ok (.ireturn, 1) := by decide +kernel
theorem dX10_signHere_101 : decode cX10_signHere 101 = .ok (.bipush (-3), 2) := by decide +kernel
theorem dX10_signHere_103 : decode cX10_signHere 103 = .ok (.ireturn, 1) := by decide +kernel
theorem dX10_signHere_104 : decode cX10_signHere 104 = .ok (.bipush (-4), 2) := by decide +kernel
theorem dX10_signHere_106 : decode cX10_signHere 106 = .ok (.ireturn, 1) := by decide +kernel
theorem dX10_signHere_107 : decode cX10_signHere 107 = .ok (.bipush (-5), 2) := by decide +kernel
theorem dX10_signHere_109 : decode cX10_signHere 109 = .ok (.ireturn, 1) := by decide +kernel
theorem dX10_signHere_110 : decode cX10_signHere 110 = .ok (.bipush (-6), 2) := by decide +kernel
theorem dX10_signHere_112 : decode cX10_signHere 112 = .ok (.ireturn, 1) := by decide +kernel
theorem dX10_signHere_113 : decode cX10_signHere 113 = .ok (.bipush (-7), 2) := by decide +kernel
theorem dX10_signHere_115 : decode cX10_signHere 115 = .ok (.ireturn, 1) := by decide +kernel
theorem dX10_signHere_116 : decode cX10_signHere 116 = .ok (.bipush (-8), 2) := by decide +kernel
theorem dX10_signHere_118 : decode cX10_signHere 118 = .ok (.ireturn, 1) := by decide +kernel
theorem dX10_signHere_119 : decode cX10_signHere 119 = .ok (.bipush (-9), 2) := by decide +kernel
theorem dX10_signHere_121 : decode cX10_signHere 121 = .ok (.ireturn, 1) := by decide +kernel
theorem dX10_signHere_122 : decode cX10_signHere 122 = .ok (.iconst 0, 1) := by decide +kernel
theorem dX10_signHere_123 : decode cX10_signHere 123 = .ok (.ireturn, 1) := by decide +kernel
theorem dX10_takesPart_0 : decode cX10_takesPart 0 = .ok (.aload_n 0, 1) := by decide +kernel
theorem dX10_takesPart_1 : decode cX10_takesPart 1 = .ok (.getfield 211, 3) := by decide +kernel
theorem dX10_takesPart_4 : decode cX10_takesPart 4 = .ok (.iconst 1, 1) := by decide +kernel
theorem dX10_takesPart_5 : decode cX10_takesPart 5 = .ok (.if_icmp .ne 31, 3) := by decide +kernel
theorem dX10_takesPart_8 : decode cX10_takesPart 8 = .ok (.aload_n 0, 1) := by decide +kernel
theorem dX10_takesPart_9 : decode cX10_takesPart 9 = .ok (.getfield 202, 3) := by decide +kernel
theorem dX10_takesPart_12 : decode cX10_takesPart 12 = .ok (.aload_n 0, 1) := by decide +kernel
theorem dX10_takesPart_13 : decode cX10_takesPart 13 = .ok (.getfield 205, 3) := by decide +kernel
theorem dX10_takesPart_16 : decode cX10_takesPart 16 = .ok (.isub, 1) := by decide +kernel
theorem dX10_takesPart_17 : decode cX10_takesPart 17 = .ok (.iconst 1, 1) := by decide +kernel
theorem dX10_takesPart_18 : decode cX10_takesPart 18 = .ok (.if_icmp .ne 18, 3) := by decide +kernel
theorem dX10_takesPart_21 : decode cX10_takesPart 21 = .ok (.aload_n 0, 1) := by decide +kernel
theorem dX10_takesPart_22 : decode cX10_takesPart 22 = .ok (.aload_n 0, 1) := by decide +kernel
theorem dX10_takesPart_23 : decode cX10_takesPart 23 = .ok (.getfield 217, 3) := by decide +kernel
theorem dX10_takesPart_26 : decode cX10_takesPart 26 = .ok (.invokevirtual 238, 3) := by decide +kernel
theorem dX10_takesPart_29 : decode cX10_takesPart 29 = .ok (.ifCond .lt 7, 3) := by decide +kernel
theorem dX10_takesPart_32 : decode cX10_takesPart 32 = .ok (.iconst 1, 1) := by decide +kernel
theorem dX10_takesPart_33 : decode cX10_takesPart 33 = .ok (.goto 4, 3) := by decide +kernel
theorem dX10_takesPart_36 : decode cX10_takesPart 36 = .ok (.iconst 0, 1) := by decide +kernel
theorem dX10_takesPart_37 : decode cX10_takesPart 37 = .ok (.istore_n 1, 1) := by decide +kernel
theorem dX10_takesPart_38 : decode cX10_takesPart 38 = .ok (.aload_n 0, 1) := by decide +kernel
theorem dX10_takesPart_39 : decode cX10_takesPart 39 = .ok (.getfield 211, 3) := by decide +kernel
theorem dX10_takesPart_42 : decode cX10_takesPart 42 = .ok (.iconst 2, 1) := by decide +kernel
theorem dX10_takesPart_43 : decode cX10_takesPart 43 = .ok (.if_icmp .eq 9, 3) := by decide +kernel
theorem dX10_takesPart_46 : decode cX10_takesPart 46 = .ok (.iload_n 1, 1) := by decide +kernel
theorem dX10_takesPart_47 : decode cX10_takesPart 47 = .ok (.ifCond .ne 5, 3) := by decide +kernel
theorem dX10_takesPart_50 : decode cX10_takesPart 50 = .ok (.iconst 0, 1) := by decide +kernel
theorem dX10_takesPart_51 : decode cX10_takesPart 51 = .ok (.ireturn, 1) := by decide +kernel
theorem dX10_takesPart_52 : decode cX10_takesPart 52 = .ok (.aload_n 0, 1) := by decide +kernel
theorem dX10_takesPart_53 : decode cX10_takesPart 53 = .ok (.getfield 46, 3) := by decide +kernel
theorem dX10_takesPart_56 : decode cX10_takesPart 56 = .ok (.aload_n 0, 1) := by decide +kernel
theorem dX10_takesPart_57 : decode cX10_takesPart 57 = .ok (.getfield 235, 3) := by decide +kernel
theorem dX10_takesPart_60 : decode cX10_takesPart 60 = .ok (.aload_n 0, 1) := by decide +kernel
theorem dX10_takesPart_61 : decode cX10_takesPart 61 = .ok (.getfield 211, 3) := by decide +kernel
theorem dX10_takesPart_64 : decode cX10_takesPart 64 = .ok (.iconst 2, 1) := by decide +kernel
theorem dX10_takesPart_65 : decode cX10_takesPart 65 = .ok (.if_icmp .ne 10, 3) := by decide +kernel
theorem dX10_takesPart_68 : decode cX10_takesPart 68 = .ok (.aload_n 0, 1) := by decide +kernel
theorem dX10_takesPart_69 : decode cX10_takesPart 69 = .ok (.getfield 217, 3) := by decide +kernel
theorem dX10_takesPart_72 : decode cX10_takesPart 72 = .ok (.goto 15, 3) := by decide +kernel
theorem dX10_takesPart_75 : decode cX10_takesPart 75 = .ok (.sipush 10000, 3) := by decide +kernel
theorem dX10_takesPart_78 : decode cX10_takesPart 78 = .ok (.aload_n 0, 1) := by decide +kernel
theorem dX10_takesPart_79 : decode cX10_takesPart 79 = .ok (.aload_n 0, 1) := by decide +kernel
theorem dX10_takesPart_80 : decode cX10_takesPart 80 = .ok (.getfield 217, 3) := by decide +kernel
theorem dX10_takesPart_83 : decode cX10_takesPart 83 = .ok (.invokevirtual 238, 3) := by decide +kernel
theorem dX10_takesPart_86 : decode cX10_takesPart 86 = .ok (.iadd, 1) := by decide +kernel
theorem dX10_takesPart_87 : decode cX10_takesPart 87 = .ok (.iastore, 1) := by decide +kernel
theorem dX10_takesPart_88 : decode cX10_takesPart 88 = .ok (.aload_n 0, 1) := by decide +kernel
theorem dX10_takesPart_89 : decode cX10_takesPart 89 = .ok (.dup, 1) := by decide +kernel
theorem dX10_takesPart_90 : decode cX10_takesPart 90 = .ok (.getfield 235, 3) := by decide +kernel
theorem dX10_takesPart_93 : decode cX10_takesPart 93 = .ok (.iconst 1, 1) := by decide +kernel
theorem dX10_takesPart_94 : decode cX10_takesPart 94 = .ok (.iadd, 1) := by decide +kernel
theorem dX10_takesPart_95 : decode cX10_takesPart 95 = .ok (.putfield 235, 3) := by decide +kernel
theorem dX10_takesPart_98 : decode cX10_takesPart 98 = .ok (.aload_n 0, 1) := by decide +kernel
theorem dX10_takesPart_99 : decode cX10_takesPart 99 = .ok (.dup, 1) := by decide +kernel
theorem dX10_takesPart_100 : decode cX10_takesPart 100 = .ok (.getfield 241, 3) := by decide +kernel
theorem dX10_takesPart_103 : decode cX10_takesPart 103 = .ok (.iconst 1, 1) := by decide +kernel
theorem dX10_takesPart_104 : decode cX10_takesPart 104 = .ok (.iadd, 1) := by decide +kernel
theorem dX10_takesPart_105 : decode cX10_takesPart 105 = .ok (.putfield 241, 3) := by decide +kernel
theorem dX10_takesPart_108 : decode cX10_takesPart 108 = .ok (.aload_n 0, 1) := by decide +kernel
theorem dX10_takesPart_109 : decode cX10_takesPart 109 = .ok (.bipush 6, 2) := by decide +kernel
theorem dX10_takesPart_111 : decode cX10_takesPart 111 = .ok (.invokevirtual 244, 3) := by decide +kernel
theorem dX10_takesPart_114 : decode cX10_takesPart 114 = .ok (.aload_n 0, 1) := by decide +kernel
theorem dX10_takesPart_115 : decode cX10_takesPart 115 = .ok (.invokevirtual 226, 3) := by decide +kernel
theorem dX10_takesPart_118 : decode cX10_takesPart 118 = .ok (.iconst 1, 1) := by decide +kernel
theorem dX10_takesPart_119 : decode cX10_takesPart 119 = .ok (.ireturn, 1) := by decide +kernel
theorem dX10_takesE_0 : decode cX10_takesE 0 = .ok (.iconst 0, 1) := by decide +kernel
theorem dX10_takesE_1 : decode cX10_takesE 1 = .ok (.istore_n 1, 1) := by decide +kernel
theorem dX10_takesE_2 : decode cX10_takesE 2 = .ok (.iconst 0, 1) := by decide +kernel
theorem dX10_takesE_3 : decode cX10_takesE 3 = .ok (.istore_n 2, 1) := by decide +kernel
theorem dX10_takesE_4 : decode cX10_takesE 4 = .ok (.iconst 1, 1) := by decide +kernel
theorem dX10_takesE_5 : decode cX10_takesE 5 = .ok (.istore_n 3, 1) := by decide +kernel
theorem dX10_takesE_6 : decode cX10_takesE 6 = .ok (.aload_n 0, 1) := by decide +kernel
theorem dX10_takesE_7 : decode cX10_takesE 7 = .ok (.iconst 0, 1) := by decide +kernel
theorem dX10_takesE_8 : decode cX10_takesE 8 = .ok (.putfield 235, 3) := by decide +kernel
theorem dX10_takesE_11 : decode cX10_takesE 11 = .ok (.aload_n 0, 1) := by decide +kernel
theorem dX10_takesE_12 : decode cX10_takesE 12 = .ok (.iconst 0, 1) := by decide +kernel
theorem dX10_takesE_13 : decode cX10_takesE 13 = .ok (.putfield 241, 3) := by decide +kernel
theorem dX10_takesE_16 : decode cX10_takesE 16 = .ok (.aload_n 0, 1) := by decide +kernel
theorem dX10_takesE_17 : decode cX10_takesE 17 = .ok (.iconst 0, 1) := by decide +kernel
theorem dX10_takesE_18 : decode cX10_takesE 18 = .ok (.putfield 229, 3) := by decide +kernel
theorem dX10_takesE_21 : decode cX10_takesE 21 = .ok (.aload_n 0, 1) := by decide +kernel
theorem dX10_takesE_22 : decode cX10_takesE 22 = .ok (.getfield 52, 3) := by decide +kernel
theorem dX10_takesE_25 : decode cX10_takesE 25 = .ok (.iconst 0, 1) := by decide +kernel
theorem dX10_takesE_26 : decode cX10_takesE 26 = .ok (.iconst 0, 1) := by decide +kernel
theorem dX10_takesE_27 : decode cX10_takesE 27 = .ok (.bastore, 1) := by decide +kernel
theorem dX10_takesE_28 : decode cX10_takesE 28 = .ok (.iload_n 3, 1) := by decide +kernel
theorem dX10_takesE_29 : decode cX10_takesE 29 = .ok (.ifCond .ne 10, 3) := by decide +kernel
theorem dX10_takesE_32 : decode cX10_takesE 32 = .ok (.aload_n 0, 1) := by decide +kernel
theorem dX10_takesE_33 : decode cX10_takesE 33 = .ok (.getfield 211, 3) := by decide +kernel
theorem dX10_takesE_36 : decode cX10_takesE 36 = .ok (.ifCond .eq 309, 3) := by decide +kernel
theorem dX10_takesE_39 : decode cX10_takesE 39 = .ok (.iload_n 3, 1) := by decide +kernel
theorem dX10_takesE_40 : decode cX10_takesE 40 = .ok (.ifCond .eq 140, 3) := by decide +kernel
theorem dX10_takesE_43 : decode cX10_takesE 43 = .ok (.aload_n 0, 1) := by decide +kernel
theorem dX10_takesE_44 : decode cX10_takesE 44 = .ok (.getfield 211, 3) := by decide +kernel
theorem dX10_takesE_47 : decode cX10_takesE 47 = .ok (.iconst 3, 1) := by decide +kernel
theorem dX10_takesE_48 : decode cX10_takesE 48 = .ok (.if_icmp .ne 49, 3) := by decide +kernel
theorem dX10_takesE_51 : decode cX10_takesE 51 = .ok (.aload_n 0, 1) := by decide +kernel
theorem dX10_takesE_52 : decode cX10_takesE 52 = .ok (.getfield 217, 3) := by decide +kernel
theorem dX10_takesE_55 : decode cX10_takesE 55 = .ok (.bipush 33, 2) := by decide +kernel
theorem dX10_takesE_57 : decode cX10_takesE 57 = .ok (.if_icmp .ne 40, 3) := by decide +kernel
theorem dX10_takesE_60 : decode cX10_takesE 60 = .ok (.iload_n 2, 1) := by decide +kernel
theorem dX10_takesE_61 : decode cX10_takesE 61 = .ok (.bipush 8, 2) := by decide +kernel
theorem dX10_takesE_63 : decode cX10_takesE 63 = .ok (.if_icmp .ge 34, 3) := by decide +kernel
theorem dX10_takesE_66 : decode cX10_takesE 66 = .ok (.aload_n 0, 1) := by decide +kernel
theorem dX10_takesE_67 : decode cX10_takesE 67 = .ok (.getfield 49, 3) := by decide +kernel
theorem dX10_takesE_70 : decode cX10_takesE 70 = .ok (.aload_n 0, 1) := by decide +kernel
theorem dX10_takesE_71 : decode cX10_takesE 71 = .ok (.getfield 229, 3) := by decide +kernel
theorem dX10_takesE_74 : decode cX10_takesE 74 = .ok (.bipush (-10), 2) := by decide +kernel
theorem dX10_takesE_76 : decode cX10_takesE 76 = .ok (.iastore, 1) := by decide +kernel
theorem dX10_takesE_77 : decode cX10_takesE 77 = .ok (.aload_n 0, 1) := by decide +kernel
theorem dX10_takesE_78 : decode cX10_takesE 78 = .ok (.dup, 1) := by decide +kernel
theorem dX10_takesE_79 : decode cX10_takesE 79 = .ok (.getfield 229, 3) := by decide +kernel
theorem dX10_takesE_82 : decode cX10_takesE 82 = .ok (.iconst 1, 1) := by decide +kernel
theorem dX10_takesE_83 : decode cX10_takesE 83 = .ok (.iadd, 1) := by decide +kernel
theorem dX10_takesE_84 : decode cX10_takesE 84 = .ok (.putfield 229, 3) := by decide +kernel
theorem dX10_takesE_87 : decode cX10_takesE 87 = .ok (.iinc 2 1, 3) := by decide +kernel
theorem dX10_takesE_90 : decode cX10_takesE 90 = .ok (.aload_n 0, 1) := by decide +kernel
theorem dX10_takesE_91 : decode cX10_takesE 91 = .ok (.invokevirtual 226, 3) := by decide +kernel
theorem dX10_takesE_94 : decode cX10_takesE 94 = .ok (.goto 78, 3) := by decide +kernel
theorem dX10_takesE_97 : decode cX10_takesE 97 = .ok (.aload_n 0, 1) := by decide +kernel
theorem dX10_takesE_98 : decode cX10_takesE 98 = .ok (.getfield 211, 3) := by decide +kernel
theorem dX10_takesE_101 : decode cX10_takesE 101 = .ok (.iconst 3, 1) := by decide +kernel
theorem dX10_takesE_102 : decode cX10_takesE 102 = .ok (.if_icmp .ne 56, 3) := by decide +kernel
theorem dX10_takesE_105 : decode cX10_takesE 105 = .ok (.aload_n 0, 1) := by decide +kernel
theorem dX10_takesE_106 : decode cX10_takesE 106 = .ok (.getfield 217, 3) := by decide +kernel
theorem dX10_takesE_109 : decode cX10_takesE 109 = .ok (.bipush 40, 2) := by decide +kernel
theorem dX10_takesE_111 : decode cX10_takesE 111 = .ok (.if_icmp .ne 47, 3) := by decide +kernel
theorem dX10_takesE_114 : decode cX10_takesE 114 = .ok (.iload_n 1, 1) := by decide +kernel
theorem dX10_takesE_115 : decode cX10_takesE 115 = .ok (.bipush 8, 2) := by decide +kernel
theorem dX10_takesE_117 : decode cX10_takesE 117 = .ok (.if_icmp .ge 41, 3) := by decide +kernel
theorem dX10_takesE_120 : decode cX10_takesE 120 = .ok (.aload_n 0, 1) := by decide +kernel
theorem dX10_takesE_121 : decode cX10_takesE 121 = .ok (.getfield 49, 3) := by decide +kernel
theorem dX10_takesE_124 : decode cX10_takesE 124 = .ok (.aload_n 0, 1) := by decide +kernel
theorem dX10_takesE_125 : decode cX10_takesE 125 = .ok (.getfield 229, 3) := by decide +kernel
theorem dX10_takesE_128 : decode cX10_takesE 128 = .ok (.bipush (-11), 2) := by decide +kernel
theorem dX10_takesE_130 : decode cX10_takesE 130 = .ok (.iastore, 1) := by decide +kernel
theorem dX10_takesE_131 : decode cX10_takesE 131 = .ok (.aload_n 0, 1) := by decide +kernel
theorem dX10_takesE_132 : decode cX10_takesE 132 = .ok (.dup, 1) := by decide +kernel
theorem dX10_takesE_133 : decode cX10_takesE 133 = .ok (.getfield 229, 3) := by decide +kernel
theorem dX10_takesE_136 : decode cX10_takesE 136 = .ok (.iconst 1, 1) := by decide +kernel
theorem dX10_takesE_137 : decode cX10_takesE 137 = .ok (.iadd, 1) := by decide +kernel
theorem dX10_takesE_138 : decode cX10_takesE 138 = .ok (.putfield 229, 3) := by decide +kernel
theorem dX10_takesE_141 : decode cX10_takesE 141 = .ok (.iinc 1 1, 3) := by decide +kernel
theorem dX10_takesE_144 : decode cX10_takesE 144 = .ok (.aload_n 0, 1) := by decide +kernel
theorem dX10_takesE_145 : decode cX10_takesE 145 = .ok (.getfield 52, 3) := by decide +kernel
theorem dX10_takesE_148 : decode cX10_takesE 148 = .ok (.iload_n 1, 1) := by decide +kernel
theorem dX10_takesE_149 : decode cX10_takesE 149 = .ok (.iconst 0, 1) := by decide +kernel
theorem dX10_takesE_150 : decode cX10_takesE 150 = .ok (.bastore, 1) := by decide +kernel
theorem dX10_takesE_151 : decode cX10_takesE 151 = .ok (.aload_n 0, 1) := by decide +kernel
theorem dX10_takesE_152 : decode cX10_takesE 152 = .ok (.invokevirtual 226, 3) := by decide +kernel
theorem dX10_takesE_155 : decode cX10_takesE 155 = .ok (.goto 17, 3) := by decide +kernel
theorem dX10_takesE_158 : decode cX10_takesE 158 = .ok (.aload_n 0, 1) := by decide +kernel
theorem dX10_takesE_159 : decode cX10_takesE 159 = .ok (.invokevirtual 247, 3) := by decide +kernel
theorem dX10_takesE_162 : decode cX10_takesE 162 = .ok (.ifCond .eq 8, 3) := by decide +kernel
theorem dX10_takesE_165 : decode cX10_takesE 165 = .ok (.iconst 0, 1) := by decide +kernel
theorem dX10_takesE_166 : decode cX10_takesE 166 = .ok (.istore_n 3, 1) := by decide +kernel
theorem dX10_takesE_167 : decode cX10_takesE 167 = .ok (.goto 5, 3) := by decide +kernel
theorem dX10_takesE_170 : decode cX10_takesE 170 = .ok (.iconst 0, 1) := by decide +kernel
theorem dX10_takesE_171 : decode cX10_takesE 171 = .ok (.ireturn, 1) := by decide +kernel
theorem dX10_takesE_172 : decode cX10_takesE 172 = .ok (.aload_n 0, 1) := by decide +kernel
theorem dX10_takesE_173 : decode cX10_takesE 173 = .ok (.invokevirtual 251, 3) := by decide +kernel
theorem dX10_takesE_176 : decode cX10_takesE 176 = .ok (.istore_n 2, 1) := by decide +kernel
theorem dX10_takesE_177 : decode cX10_takesE 177 = .ok (.goto (-149), 3) := by decide +kernel
theorem dX10_takesE_180 : decode cX10_takesE 180 = .ok (.aload_n 0, 1) := by decide +kernel
theorem dX10_takesE_181 : decode cX10_takesE 181 = .ok (.getfield 211, 3) := by decide +kernel
theorem dX10_takesE_184 : decode cX10_takesE 184 = .ok (.iconst 3, 1) := by decide +kernel
theorem dX10_takesE_185 : decode cX10_takesE 185 = .ok (.if_icmp .ne 52, 3) := by decide +kernel
theorem dX10_takesE_188 : decode cX10_takesE 188 = .ok (.aload_n 0, 1) := by decide +kernel
theorem dX10_takesE_189 : decode cX10_takesE 189 = .ok (.getfield 217, 3) := by decide +kernel
theorem dX10_takesE_192 : decode cX10_takesE 192 = .ok (.bipush 41, 2) := by decide +kernel
theorem dX10_takesE_194 : decode cX10_takesE 194 = .ok (.if_icmp .ne 43, 3) := by decide +kernel
theorem dX10_takesE_197 : decode cX10_takesE 197 = .ok (.iload_n 1, 1) := by decide +kernel
theorem dX10_takesE_198 : decode cX10_takesE 198 = .ok (.ifCond .le 39, 3) := by decide +kernel
theorem dX10_takesE_201 : decode cX10_takesE 201 = .ok (.aload_n 0, 1) := by decide +kernel
theorem dX10_takesE_202 : decode cX10_takesE 202 = .ok (.iconst 0, 1) := by decide +kernel
theorem dX10_takesE_203 : decode cX10_takesE 203 = .ok (.invokevirtual 244, 3) := by decide +kernel
theorem dX10_takesE_206 : decode cX10_takesE 206 = .ok (.aload_n 0, 1) := by decide +kernel
theorem dX10_takesE_207 : decode cX10_takesE 207 = .ok (.dup, 1) := by decide +kernel
theorem dX10_takesE_208 : decode cX10_takesE 208 = .ok (.getfield 229, 3) := by decide +kernel
theorem dX10_takesE_211 : decode cX10_takesE 211 = .ok (.iconst 1, 1) := by decide +kernel
theorem dX10_takesE_212 : decode cX10_takesE 212 = .ok (.isub, 1) := by decide +kernel
theorem dX10_takesE_213 : decode cX10_takesE 213 = .ok (.putfield 229, 3) := by decide +kernel
theorem dX10_takesE_216 : decode cX10_takesE 216 = .ok (.iinc 1 (-1), 3) := by decide +kernel
theorem dX10_takesE_219 : decode cX10_takesE 219 = .ok (.aload_n 0, 1) := by decide +kernel
theorem dX10_takesE_220 : decode cX10_takesE 220 = .ok (.bipush 6, 2) := by decide +kernel
theorem dX10_takesE_222 : decode cX10_takesE 222 = .ok (.invokevirtual 244, 3) := by decide +kernel
theorem dX10_takesE_225 : decode cX10_takesE 225 = .ok (.aload_n 0, 1) := by decide +kernel
theorem dX10_takesE_226 : decode cX10_takesE 226 = .ok (.invokevirtual 251, 3) := by decide +kernel
theorem dX10_takesE_229 : decode cX10_takesE 229 = .ok (.istore_n 2, 1) := by decide +kernel
theorem dX10_takesE_230 : decode cX10_takesE 230 = .ok (.aload_n 0, 1) := by decide +kernel
theorem dX10_takesE_231 : decode cX10_takesE 231 = .ok (.invokevirtual 226, 3) := by decide +kernel
theorem dX10_takesE_234 : decode cX10_takesE 234 = .ok (.goto (-206), 3) := by decide +kernel
theorem dX10_takesE_237 : decode cX10_takesE 237 = .ok (.aload_n 0, 1) := by decide +kernel
theorem dX10_takesE_238 : decode cX10_takesE 238 = .ok (.invokevirtual 254, 3) := by decide +kernel
theorem dX10_takesE_241 : decode cX10_takesE 241 = .ok (.istore 4, 2) := by decide +kernel
theorem dX10_takesE_243 : decode cX10_takesE 243 = .ok (.iload 4, 2) := by decide +kernel
theorem dX10_takesE_245 : decode cX10_takesE 245 = .ok (.ifCond .eq 21, 3) := by decide +kernel
theorem dX10_takesE_248 : decode cX10_takesE 248 = .ok (.iload 4, 2) := by decide +kernel
theorem dX10_takesE_250 : decode cX10_takesE 250 = .ok (.invokestatic 232, 3) := by decide +kernel
theorem dX10_takesE_253 : decode cX10_takesE 253 = .ok (.iconst 3, 1) := by decide +kernel
theorem dX10_takesE_254 : decode cX10_takesE 254 = .ok (.if_icmp .ne 14, 3) := by decide +kernel
theorem dX10_takesE_257 : decode cX10_takesE 257 = .ok (.aload_n 0, 1) := by decide +kernel
theorem dX10_takesE_258 : decode cX10_takesE 258 = .ok (.getfield 52, 3) := by decide +kernel
theorem dX10_takesE_261 : decode cX10_takesE 261 = .ok (.iload_n 1, 1) := by decide +kernel
theorem dX10_takesE_262 : decode cX10_takesE 262 = .ok (.baload, 1) := by decide +kernel
theorem dX10_takesE_263 : decode cX10_takesE 263 = .ok (.ifCond .eq 5, 3) := by decide +kernel
theorem dX10_takesE_266 : decode cX10_takesE 266 = .ok (.iconst 0, 1) := by decide +kernel
theorem dX10_takesE_267 : decode cX10_takesE 267 = .ok (.ireturn, 1) := by decide +kernel
theorem dX10_takesE_268 : decode cX10_takesE 268 = .ok (.aload_n 0, 1) := by decide +kernel
theorem dX10_takesE_269 : decode cX10_takesE 269 = .ok (.getfield 52, 3) := by decide +kernel
theorem dX10_takesE_272 : decode cX10_takesE 272 = .ok (.iload_n 1, 1) := by decide +kernel
theorem dX10_takesE_273 : decode cX10_takesE 273 = .ok (.iload 4, 2) := by decide +kernel
theorem dX10_takesE_275 : decode cX10_takesE 275 = .ok (.invokestatic 232, 3) := by decide +kernel
theorem dX10_takesE_278 : decode cX10_takesE 278 = .ok (.iconst 3, 1) := by decide +kernel
theorem dX10_takesE_279 : decode cX10_takesE 279 = .ok (.if_icmp .eq 21, 3) := by decide +kernel
theorem dX10_takesE_282 : decode cX10_takesE 282 = .ok (.iload 4, 2) := by decide +kernel
theorem dX10_takesE_284 : decode cX10_takesE 284 = .ok (.invokestatic 232, 3) := by decide +kernel
theorem dX10_takesE_287 : decode cX10_takesE 287 = .ok (.iconst 3, 1) := by decide +kernel
theorem dX10_takesE_288 : decode cX10_takesE 288 = .ok (.if_icmp .le 16, 3) := by decide +kernel
theorem dX10_takesE_291 : decode cX10_takesE 291 = .ok (.aload_n 0, 1) := by decide +kernel
theorem dX10_takesE_292 : decode cX10_takesE 292 = .ok (.getfield 52, 3) := by decide +kernel
theorem dX10_takesE_295 : decode cX10_takesE 295 = .ok (.iload_n 1, 1) := by decide +kernel
theorem dX10_takesE_296 : decode cX10_takesE 296 = .ok (.baload, 1) := by decide +kernel
theorem dX10_takesE_297 : decode cX10_takesE 297 = .ok (.ifCond .eq 7, 3) := by decide +kernel
theorem dX10_takesE_300 : decode cX10_takesE 300 = .ok (.iconst 1, 1) := by decide +kernel
theorem dX10_takesE_301 : decode cX10_takesE 301 = .ok (.goto 4, 3) := by decide +kernel
theorem dX10_takesE_304 : decode cX10_takesE 304 = .ok (.iconst 0, 1) := by decide +kernel
theorem dX10_takesE_305 : decode cX10_takesE 305 = .ok (.bastore, 1) := by decide +kernel
theorem dX10_takesE_306 : decode cX10_takesE 306 = .ok (.aload_n 0, 1) := by decide +kernel
theorem dX10_takesE_307 : decode cX10_takesE 307 = .ok (.iload 4, 2) := by decide +kernel
theorem dX10_takesE_309 : decode cX10_takesE 309 = .ok (.invokestatic 232, 3) := by decide +kernel
theorem dX10_takesE_312 : decode cX10_takesE 312 = .ok (.invokevirtual 244, 3) := by decide +kernel
theorem dX10_takesE_315 : decode cX10_takesE 315 = .ok (.aload_n 0, 1) := by decide +kernel
theorem dX10_takesE_316 : decode cX10_takesE 316 = .ok (.getfield 49, 3) := by decide +kernel
theorem dX10_takesE_319 : decode cX10_takesE 319 = .ok (.aload_n 0, 1) := by decide +kernel
theorem dX10_takesE_320 : decode cX10_takesE 320 = .ok (.getfield 229, 3) := by decide +kernel
theorem dX10_takesE_323 : decode cX10_takesE 323 = .ok (.iload 4, 2) := by decide +kernel
theorem dX10_takesE_325 : decode cX10_takesE 325 = .ok (.iastore, 1) := by decide +kernel
theorem dX10_takesE_326 : decode cX10_takesE 326 = .ok (.aload_n 0, 1) := by decide +kernel
theorem dX10_takesE_327 : decode cX10_takesE 327 = .ok (.dup, 1) := by decide +kernel
theorem dX10_takesE_328 : decode cX10_takesE 328 = .ok (.getfield 229, 3) := by decide +kernel
theorem dX10_takesE_331 : decode cX10_takesE 331 = .ok (.iconst 1, 1) := by decide +kernel
theorem dX10_takesE_332 : decode cX10_takesE 332 = .ok (.iadd, 1) := by decide +kernel
theorem dX10_takesE_333 : decode cX10_takesE 333 = .ok (.putfield 229, 3) := by decide +kernel
theorem dX10_takesE_336 : decode cX10_takesE 336 = .ok (.iconst 1, 1) := by decide +kernel
theorem dX10_takesE_337 : decode cX10_takesE 337 = .ok (.istore_n 3, 1) := by decide +kernel
theorem dX10_takesE_338 : decode cX10_takesE 338 = .ok (.aload_n 0, 1) := by decide +kernel
theorem dX10_takesE_339 : decode cX10_takesE 339 = .ok (.invokevirtual 226, 3) := by decide +kernel
theorem dX10_takesE_342 : decode cX10_takesE 342 = .ok (.goto (-314), 3) := by decide +kernel
theorem dX10_takesE_345 : decode cX10_takesE 345 = .ok (.aload_n 0, 1) := by decide +kernel
theorem dX10_takesE_346 : decode cX10_takesE 346 = .ok (.iconst 0, 1) := by decide +kernel
theorem dX10_takesE_347 : decode cX10_takesE 347 = .ok (.invokevirtual 244, 3) := by decide +kernel
theorem dX10_takesE_350 : decode cX10_takesE 350 = .ok (.iload_n 1, 1) := by decide +kernel
theorem dX10_takesE_351 : decode cX10_takesE 351 = .ok (.ifCond .ne 7, 3) := by decide +kernel
theorem dX10_takesE_354 : decode cX10_takesE 354 = .ok (.iconst 1, 1) := by decide +kernel
theorem dX10_takesE_355 : decode cX10_takesE 355 = .ok (.goto 4, 3) := by decide +kernel
theorem dX10_takesE_358 : decode cX10_takesE 358 = .ok (.iconst 0, 1) := by decide +kernel
theorem dX10_takesE_359 : decode cX10_takesE 359 = .ok (.ireturn, 1) := by decide +kernel
theorem dX10_notsOpen_0 : decode cX10_notsOpen 0 = .ok (.iconst 0, 1) := by decide +kernel
theorem dX10_notsOpen_1 : decode cX10_notsOpen 1 = .ok (.istore_n 1, 1) := by decide +kernel
theorem dX10_notsOpen_2 : decode cX10_notsOpen 2 = .ok (.iconst 0, 1) := by decide +kernel
theorem dX10_notsOpen_3 : decode cX10_notsOpen 3 = .ok (.istore_n 2, 1) := by decide +kernel
theorem dX10_notsOpen_4 : decode cX10_notsOpen 4 = .ok (.iload_n 2, 1) := by decide +kernel
theorem dX10_notsOpen_5 : decode cX10_notsOpen 5 = .ok (.aload_n 0, 1) := by decide +kernel
theorem dX10_notsOpen_6 : decode cX10_notsOpen 6 = .ok (.getfield 229, 3) := by decide +kernel
theorem dX10_notsOpen_9 : decode cX10_notsOpen 9 = .ok (.if_icmp .ge 28, 3) := by decide +kernel
theorem dX10_notsOpen_12 : decode cX10_notsOpen 12 = .ok (.iload_n 1, 1) := by decide +kernel
theorem dX10_notsOpen_13 : decode cX10_notsOpen 13 = .ok (.aload_n 0, 1) := by decide +kernel
theorem dX10_notsOpen_14 : decode cX10_notsOpen 14 = .ok (.getfield 49, 3) := by decide +kernel
theorem dX10_notsOpen_17 : decode cX10_notsOpen 17 = .ok (.iload_n 2, 1) := by decide +kernel
theorem dX10_notsOpen_18 : decode cX10_notsOpen 18 = .ok (.iaload, 1) := by decide +kernel
theorem dX10_notsOpen_19 : decode cX10_notsOpen 19 = .ok (.bipush (-10), 2) := by decide +kernel
theorem dX10_notsOpen_21 : decode cX10_notsOpen 21 = .ok (.if_icmp .ne 7, 3) := by decide +kernel
theorem dX10_notsOpen_24 : decode cX10_notsOpen 24 = .ok (.iconst 1, 1) := by decide +kernel
theorem dX10_notsOpen_25 : decode cX10_notsOpen 25 = .ok (.goto 4, 3) := by decide +kernel
theorem dX10_notsOpen_28 : decode cX10_notsOpen 28 = .ok (.iconst 0, 1) := by decide +kernel
theorem dX10_notsOpen_29 : decode cX10_notsOpen 29 = .ok (.iadd, 1) := by decide +kernel
theorem dX10_notsOpen_30 : decode cX10_notsOpen 30 = .ok (.istore_n 1, 1) := by decide +kernel
theorem dX10_notsOpen_31 : decode cX10_notsOpen 31 = .ok (.iinc 2 1, 3) := by decide +kernel
theorem dX10_notsOpen_34 : decode cX10_notsOpen 34 = .ok (.goto (-30), 3) := by decide +kernel
theorem dX10_notsOpen_37 : decode cX10_notsOpen 37 = .ok (.iload_n 1, 1) := by decide +kernel
theorem dX10_notsOpen_38 : decode cX10_notsOpen 38 = .ok (.ireturn, 1) := by decide +kernel
theorem dX10_text_0 : decode cX10_text 0 = .ok (.aload_n 0, 1) := by decide +kernel
theorem dX10_text_1 : decode cX10_text 1 = .ok (.iconst 0, 1) := by decide +kernel
theorem dX10_text_2 : decode cX10_text 2 = .ok (.putfield 202, 3) := by decide +kernel
theorem dX10_text_5 : decode cX10_text 5 = .ok (.aload_n 0, 1) := by decide +kernel
theorem dX10_text_6 : decode cX10_text 6 = .ok (.iconst (-1), 1) := by decide +kernel
theorem dX10_text_7 : decode cX10_text 7 = .ok (.putfield 208, 3) := by decide +kernel
theorem dX10_text_10 : decode cX10_text 10 = .ok (.aload_n 0, 1) := by decide +kernel
theorem dX10_text_11 : decode cX10_text 11 = .ok (.invokevirtual 226, 3) := by decide +kernel
theorem dX10_text_14 : decode cX10_text 14 = .ok (.aload_n 0, 1) := by decide +kernel
theorem dX10_text_15 : decode cX10_text 15 = .ok (.invokevirtual 257, 3) := by decide +kernel
theorem dX10_text_18 : decode cX10_text 18 = .ok (.ifCond .eq 14, 3) := by decide +kernel
theorem dX10_text_21 : decode cX10_text 21 = .ok (.aload_n 0, 1) := by decide +kernel
theorem dX10_text_22 : decode cX10_text 22 = .ok (.invokevirtual 260, 3) := by decide +kernel
theorem dX10_text_25 : decode cX10_text 25 = .ok (.ifCond .eq 7, 3) := by decide +kernel
theorem dX10_text_28 : decode cX10_text 28 = .ok (.iconst 1, 1) := by decide +kernel
theorem dX10_text_29 : decode cX10_text 29 = .ok (.goto 4, 3) := by decide +kernel
theorem dX10_text_32 : decode cX10_text 32 = .ok (.iconst 0, 1) := by decide +kernel
theorem dX10_text_33 : decode cX10_text 33 = .ok (.istore_n 1, 1) := by decide +kernel
theorem dX10_text_34 : decode cX10_text 34 = .ok (.aload_n 0, 1) := by decide +kernel
theorem dX10_text_35 : decode cX10_text 35 = .ok (.iconst 0, 1) := by decide +kernel
theorem dX10_text_36 : decode cX10_text 36 = .ok (.putfield 199, 3) := by decide +kernel
theorem dX10_text_39 : decode cX10_text 39 = .ok (.iload_n 1, 1) := by decide +kernel
theorem dX10_text_40 : decode cX10_text 40 = .ok (.ifCond .ne 11, 3) := by decide +kernel
theorem dX10_text_43 : decode cX10_text 43 = .ok (.bipush (-100), 2) := by decide +kernel
theorem dX10_text_45 : decode cX10_text 45 = .ok (.aload_n 0, 1) := by decide +kernel
theorem dX10_text_46 : decode cX10_text 46 = .ok (.getfield 205, 3) := by decide +kernel
theorem dX10_text_49 : decode cX10_text 49 = .ok (.isub, 1) := by decide +kernel
theorem dX10_text_50 : decode cX10_text 50 = .ok (.ireturn, 1) := by decide +kernel
theorem dX10_text_51 : decode cX10_text 51 = .ok (.aload_n 0, 1) := by decide +kernel
theorem dX10_text_52 : decode cX10_text 52 = .ok (.getfield 9, 3) := by decide +kernel
theorem dX10_text_55 : decode cX10_text 55 = .ok (.bipush 7, 2) := by decide +kernel
theorem dX10_text_57 : decode cX10_text 57 = .ok (.iaload, 1) := by decide +kernel
theorem dX10_text_58 : decode cX10_text 58 = .ok (.bipush 14, 2) := by decide +kernel
theorem dX10_text_60 : decode cX10_text 60 = .ok (.if_icmp .ne 6, 3) := by decide +kernel
theorem dX10_text_63 : decode cX10_text 63 = .ok (.ldc 98, 2) := by decide +kernel
theorem dX10_text_65 : decode cX10_text 65 = .ok (.ireturn, 1) := by decide +kernel
theorem dX10_text_66 : decode cX10_text 66 = .ok (.aload_n 0, 1) := by decide +kernel
theorem dX10_text_67 : decode cX10_text 67 = .ok (.getfield 9, 3) := by decide +kernel
theorem dX10_text_70 : decode cX10_text 70 = .ok (.bipush 7, 2) := by decide +kernel
theorem dX10_text_72 : decode cX10_text 72 = .ok (.iaload, 1) := by decide +kernel
theorem dX10_text_73 : decode cX10_text 73 = .ok (.istore_n 2, 1) := by decide +kernel
theorem dX10_text_74 : decode cX10_text 74 = .ok (.aload_n 0, 1) := by decide +kernel
theorem dX10_text_75 : decode cX10_text 75 = .ok (.getfield 9, 3) := by decide +kernel
theorem dX10_text_78 : decode cX10_text 78 = .ok (.bipush 70, 2) := by decide +kernel
theorem dX10_text_80 : decode cX10_text 80 = .ok (.iconst 2, 1) := by decide +kernel
theorem dX10_text_81 : decode cX10_text 81 = .ok (.iload_n 2, 1) := by decide +kernel
theorem dX10_text_82 : decode cX10_text 82 = .ok (.imul, 1) := by decide +kernel
theorem dX10_text_83 : decode cX10_text 83 = .ok (.iadd, 1) := by decide +kernel
theorem dX10_text_84 : decode cX10_text 84 = .ok (.sipush 1000, 3) := by decide +kernel
theorem dX10_text_87 : decode cX10_text 87 = .ok (.aload_n 0, 1) := by decide +kernel
theorem dX10_text_88 : decode cX10_text 88 = .ok (.getfield 223, 3) := by decide +kernel
theorem dX10_text_91 : decode cX10_text 91 = .ok (.imul, 1) := by decide +kernel
theorem dX10_text_92 : decode cX10_text 92 = .ok (.aload_n 0, 1) := by decide +kernel
theorem dX10_text_93 : decode cX10_text 93 = .ok (.getfield 235, 3) := by decide +kernel
theorem dX10_text_96 : decode cX10_text 96 = .ok (.iadd, 1) := by decide +kernel
theorem dX10_text_97 : decode cX10_text 97 = .ok (.iastore, 1) := by decide +kernel
theorem dX10_text_98 : decode cX10_text 98 = .ok (.aload_n 0, 1) := by decide +kernel
theorem dX10_text_99 : decode cX10_text 99 = .ok (.getfield 9, 3) := by decide +kernel
theorem dX10_text_102 : decode cX10_text 102 = .ok (.bipush 70, 2) := by decide +kernel
theorem dX10_text_104 : decode cX10_text 104 = .ok (.iconst 2, 1) := by decide +kernel
theorem dX10_text_105 : decode cX10_text 105 = .ok (.iload_n 2, 1) := by decide +kernel
theorem dX10_text_106 : decode cX10_text 106 = .ok (.imul, 1) := by decide +kernel
theorem dX10_text_107 : decode cX10_text 107 = .ok (.iadd, 1) := by decide +kernel
theorem dX10_text_108 : decode cX10_text 108 = .ok (.iconst 1, 1) := by decide +kernel
theorem dX10_text_109 : decode cX10_text 109 = .ok (.iadd, 1) := by decide +kernel
theorem dX10_text_110 : decode cX10_text 110 = .ok (.aload_n 0, 1) := by decide +kernel
theorem dX10_text_111 : decode cX10_text 111 = .ok (.getfield 241, 3) := by decide +kernel
theorem dX10_text_114 : decode cX10_text 114 = .ok (.iastore, 1) := by decide +kernel
theorem dX10_text_115 : decode cX10_text 115 = .ok (.iconst 0, 1) := by decide +kernel
theorem dX10_text_116 : decode cX10_text 116 = .ok (.istore_n 3, 1) := by decide +kernel
theorem dX10_text_117 : decode cX10_text 117 = .ok (.iload_n 3, 1) := by decide +kernel
theorem dX10_text_118 : decode cX10_text 118 = .ok (.aload_n 0, 1) := by decide +kernel
theorem dX10_text_119 : decode cX10_text 119 = .ok (.getfield 235, 3) := by decide +kernel
theorem dX10_text_122 : decode cX10_text 122 = .ok (.if_icmp .ge 29, 3) := by decide +kernel
theorem dX10_text_125 : decode cX10_text 125 = .ok (.aload_n 0, 1) := by decide +kernel
theorem dX10_text_126 : decode cX10_text 126 = .ok (.getfield 9, 3) := by decide +kernel
theorem dX10_text_129 : decode cX10_text 129 = .ok (.bipush 98, 2) := by decide +kernel
theorem dX10_text_131 : decode cX10_text 131 = .ok (.bipush 96, 2) := by decide +kernel
theorem dX10_text_133 : decode cX10_text 133 = .ok (.iload_n 2, 1) := by decide +kernel
theorem dX10_text_134 : decode cX10_text 134 = .ok (.imul, 1) := by decide +kernel
theorem dX10_text_135 : decode cX10_text 135 = .ok (.iadd, 1) := by decide +kernel
theorem dX10_text_136 : decode cX10_text 136 = .ok (.iload_n 3, 1) := by decide +kernel
theorem dX10_text_137 : decode cX10_text 137 = .ok (.iadd, 1) := by decide +kernel
theorem dX10_text_138 : decode cX10_text 138 = .ok (.aload_n 0, 1) := by decide +kernel
theorem dX10_text_139 : decode cX10_text 139 = .ok (.getfield 46, 3) := by decide +kernel
theorem dX10_text_142 : decode cX10_text 142 = .ok (.iload_n 3, 1) := by decide +kernel
theorem dX10_text_143 : decode cX10_text 143 = .ok (.iaload, 1) := by decide +kernel
theorem dX10_text_144 : decode cX10_text 144 = .ok (.iastore, 1) := by decide +kernel
theorem dX10_text_145 : decode cX10_text 145 = .ok (.iinc 3 1, 3) := by decide +kernel
theorem dX10_text_148 : decode cX10_text 148 = .ok (.goto (-31), 3) := by decide +kernel
theorem dX10_text_151 : decode cX10_text 151 = .ok (.aload_n 0, 1) := by decide +kernel
theorem dX10_text_152 : decode cX10_text 152 = .ok (.getfield 9, 3) := by decide +kernel
theorem dX10_text_155 : decode cX10_text 155 = .ok (.bipush 7, 2) := by decide +kernel
theorem dX10_text_157 : decode cX10_text 157 = .ok (.dup2, 1) := by decide +kernel
theorem dX10_text_158 : decode cX10_text 158 = .ok (.iaload, 1) := by decide +kernel
theorem dX10_text_159 : decode cX10_text 159 = .ok (.iconst 1, 1) := by decide +kernel
theorem dX10_text_160 : decode cX10_text 160 = .ok (.iadd, 1) := by decide +kernel
theorem dX10_text_161 : decode cX10_text 161 = .ok (.iastore, 1) := by decide +kernel
theorem dX10_text_162 : decode cX10_text 162 = .ok (.iload_n 2, 1) := by decide +kernel
theorem dX10_text_163 : decode cX10_text 163 = .ok (.ireturn, 1) := by decide +kernel
theorem dX10_textTold_0 : decode cX10_textTold 0 = .ok (.iload_n 1, 1) := by decide +kernel
theorem dX10_textTold_1 : decode cX10_textTold 1 = .ok (.iconst 0, 1) := by decide +kernel
theorem dX10_textTold_2 : decode cX10_textTold 2 = .ok (.aload_n 0, 1) := by decide +kernel
theorem dX10_textTold_3 : decode cX10_textTold 3 = .ok (.getfield 9, 3) := by decide +kernel
theorem dX10_textTold_6 : decode cX10_textTold 6 = .ok (.bipush 7, 2) := by decide +kernel
theorem dX10_textTold_8 : decode cX10_textTold 8 = .ok (.iaload, 1) := by decide +kernel
theorem dX10_textTold_9 : decode cX10_textTold 9 = .ok (.iconst 1, 1) := by decide +kernel
theorem dX10_textTold_10 : decode cX10_textTold 10 = .ok (.isub, 1) := by decide +kernel
theorem dX10_textTold_11 : decode cX10_textTold 11 = .ok (.invokestatic 89, 3) := by decide +kernel
theorem dX10_textTold_14 : decode cX10_textTold 14 = .ok (.ifCond .eq 12, 3) := by decide +kernel
theorem dX10_textTold_17 : decode cX10_textTold 17 = .ok (.iload_n 2, 1) := by decide +kernel
theorem dX10_textTold_18 : decode cX10_textTold 18 = .ok (.iconst 0, 1) := by decide +kernel
theorem dX10_textTold_19 : decode cX10_textTold 19 = .ok (.iconst 1, 1) := by decide +kernel
theorem dX10_textTold_20 : decode cX10_textTold 20 = .ok (.invokestatic 89, 3) := by decide +kernel
theorem dX10_textTold_23 : decode cX10_textTold 23 = .ok (.ifCond .ne 6, 3) := by decide +kernel
theorem dX10_textTold_26 : decode cX10_textTold 26 = .ok (.ldc 97, 2) := by decide +kernel
theorem dX10_textTold_28 : decode cX10_textTold 28 = .ok (.ireturn, 1) := by decide +kernel
theorem dX10_textTold_29 : decode cX10_textTold 29 = .ok (.iload_n 2, 1) := by decide +kernel
theorem dX10_textTold_30 : decode cX10_textTold 30 = .ok (.ifCond .ne 21, 3) := by decide +kernel
theorem dX10_textTold_33 : decode cX10_textTold 33 = .ok (.aload_n 0, 1) := by decide +kernel
theorem dX10_textTold_34 : decode cX10_textTold 34 = .ok (.getfield 9, 3) := by decide +kernel
theorem dX10_textTold_37 : decode cX10_textTold 37 = .ok (.bipush 70, 2) := by decide +kernel
theorem dX10_textTold_39 : decode cX10_textTold 39 = .ok (.iconst 2, 1) := by decide +kernel
theorem dX10_textTold_40 : decode cX10_textTold 40 = .ok (.iload_n 1, 1) := by decide +kernel
theorem dX10_textTold_41 : decode cX10_textTold 41 = .ok (.imul, 1) := by decide +kernel
theorem dX10_textTold_42 : decode cX10_textTold 42 = .ok (.iadd, 1) := by decide +kernel
theorem dX10_textTold_43 : decode cX10_textTold 43 = .ok (.iaload, 1) := by decide +kernel
theorem dX10_textTold_44 : decode cX10_textTold 44 = .ok (.sipush 1000, 3) := by decide +kernel
theorem dX10_textTold_47 : decode cX10_textTold 47 = .ok (.idiv, 1) := by decide +kernel
theorem dX10_textTold_48 : decode cX10_textTold 48 = .ok (.goto 16, 3) := by decide +kernel
theorem dX10_textTold_51 : decode cX10_textTold 51 = .ok (.aload_n 0, 1) := by decide +kernel
theorem dX10_textTold_52 : decode cX10_textTold 52 = .ok (.getfield 9, 3) := by decide +kernel
theorem dX10_textTold_55 : decode cX10_textTold 55 = .ok (.bipush 70, 2) := by decide +kernel
theorem dX10_textTold_57 : decode cX10_textTold 57 = .ok (.iconst 2, 1) := by decide +kernel
theorem dX10_textTold_58 : decode cX10_textTold 58 = .ok (.iload_n 1, 1) := by decide +kernel
theorem dX10_textTold_59 : decode cX10_textTold 59 = .ok (.imul, 1) := by decide +kernel
theorem dX10_textTold_60 : decode cX10_textTold 60 = .ok (.iadd, 1) := by decide +kernel
theorem dX10_textTold_61 : decode cX10_textTold 61 = .ok (.iconst 1, 1) := by decide +kernel
theorem dX10_textTold_62 : decode cX10_textTold 62 = .ok (.iadd, 1) := by decide +kernel
theorem dX10_textTold_63 : decode cX10_textTold 63 = .ok (.iaload, 1) := by decide +kernel
theorem dX10_textTold_64 : decode cX10_textTold 64 = .ok (.ireturn, 1) := by decide +kernel
theorem dX10_counts_0 : decode cX10_counts 0 = .ok (.aload_n 0, 1) := by decide +kernel
theorem dX10_counts_1 : decode cX10_counts 1 = .ok (.getfield 9, 3) := by decide +kernel
theorem dX10_counts_4 : decode cX10_counts 4 = .ok (.bipush 7, 2) := by decide +kernel
theorem dX10_counts_6 : decode cX10_counts 6 = .ok (.iaload, 1) := by decide +kernel
theorem dX10_counts_7 : decode cX10_counts 7 = .ok (.iconst 1, 1) := by decide +kernel
theorem dX10_counts_8 : decode cX10_counts 8 = .ok (.isub, 1) := by decide +kernel
theorem dX10_counts_9 : decode cX10_counts 9 = .ok (.istore_n 2, 1) := by decide +kernel
theorem dX10_counts_10 : decode cX10_counts 10 = .ok (.iload_n 2, 1) := by decide +kernel
theorem dX10_counts_11 : decode cX10_counts 11 = .ok (.ifCond .lt 30, 3) := by decide +kernel
theorem dX10_counts_14 : decode cX10_counts 14 = .ok (.aload_n 0, 1) := by decide +kernel
theorem dX10_counts_15 : decode cX10_counts 15 = .ok (.getfield 9, 3) := by decide +kernel
theorem dX10_counts_18 : decode cX10_counts 18 = .ok (.bipush 70, 2) := by decide +kernel
theorem dX10_counts_20 : decode cX10_counts 20 = .ok (.iconst 2, 1) := by decide +kernel
theorem dX10_counts_21 : decode cX10_counts 21 = .ok (.iload_n 2, 1) := by decide +kernel
theorem dX10_counts_22 : decode cX10_counts 22 = .ok (.imul, 1) := by decide +kernel
theorem dX10_counts_23 : decode cX10_counts 23 = .ok (.iadd, 1) := by decide +kernel
theorem dX10_counts_24 : decode cX10_counts 24 = .ok (.iaload, 1) := by decide +kernel
theorem dX10_counts_25 : decode cX10_counts 25 = .ok (.sipush 1000, 3) := by decide +kernel
theorem dX10_counts_28 : decode cX10_counts 28 = .ok (.idiv, 1) := by decide +kernel
theorem dX10_counts_29 : decode cX10_counts 29 = .ok (.iload_n 1, 1) := by decide +kernel
theorem dX10_counts_30 : decode cX10_counts 30 = .ok (.if_icmp .ne 5, 3) := by decide +kernel
theorem dX10_counts_33 : decode cX10_counts 33 = .ok (.iload_n 2, 1) := by decide +kernel
theorem dX10_counts_34 : decode cX10_counts 34 = .ok (.ireturn, 1) := by decide +kernel
theorem dX10_counts_35 : decode cX10_counts 35 = .ok (.iinc 2 (-1), 3) := by decide +kernel
theorem dX10_counts_38 : decode cX10_counts 38 = .ok (.goto (-28), 3) := by decide +kernel
theorem dX10_counts_41 : decode cX10_counts 41 = .ok (.iconst (-1), 1) := by decide +kernel
theorem dX10_counts_42 : decode cX10_counts 42 = .ok (.ireturn, 1) := by decide +kernel
theorem dX10_why_0 : decode cX10_why 0 = .ok (.iload_n 1, 1) := by decide +kernel
theorem dX10_why_1 : decode cX10_why 1 = .ok (.iconst 0, 1) := by decide +kernel
theorem dX10_why_2 : decode cX10_why 2 = .ok (.iconst 2, 1) := by decide +kernel
theorem dX10_why_3 : decode cX10_why 3 = .ok (.invokestatic 89, 3) := by decide +kernel
theorem dX10_why_6 : decode cX10_why 6 = .ok (.ifCond .ne 6, 3) := by decide +kernel
theorem dX10_why_9 : decode cX10_why 9 = .ok (.ldc 97, 2) := by decide +kernel
theorem dX10_why_11 : decode cX10_why 11 = .ok (.ireturn, 1) := by decide +kernel
theorem dX10_why_12 : decode cX10_why 12 = .ok (.aload_n 0, 1) := by decide +kernel
theorem dX10_why_13 : decode cX10_why 13 = .ok (.iload_n 1, 1) := by decide +kernel
theorem dX10_why_14 : decode cX10_why 14 = .ok (.invokevirtual 134, 3) := by decide +kernel
theorem dX10_why_17 : decode cX10_why 17 = .ok (.istore_n 2, 1) := by decide +kernel
theorem dX10_why_18 : decode cX10_why 18 = .ok (.iload_n 2, 1) := by decide +kernel
theorem dX10_why_19 : decode cX10_why 19 = .ok (.ifCond .ge 8, 3) := by decide +kernel
theorem dX10_why_22 : decode cX10_why 22 = .ok (.ldc 88, 2) := by decide +kernel
theorem dX10_why_24 : decode cX10_why 24 = .ok (.goto 4, 3) := by decide +kernel
theorem dX10_why_27 : decode cX10_why 27 = .ok (.iload_n 2, 1) := by decide +kernel
theorem dX10_why_28 : decode cX10_why 28 = .ok (.ireturn, 1) := by decide +kernel
theorem dX10_two_0 : decode cX10_two 0 = .ok (.iload_n 0, 1) := by decide +kernel
theorem dX10_two_1 : decode cX10_two 1 = .ok (.tableswitch 120 (-8) (-1) #[116, 112, 108, 97, 86, 75, 61, 47], 47) := by decide +kernel
theorem dX10_two_48 : decode cX10_two 48 = .ok (.iload_n 1, 1) := by decide +kernel
theorem dX10_two_49 : decode cX10_two 49 = .ok (.ifCond .ne 7, 3) := by decide +kernel
theorem dX10_two_52 : decode cX10_two 52 = .ok (.iload_n 2, 1) := by decide +kernel
theorem dX10_two_53 : decode cX10_two 53 = .ok (.ifCond .eq 7, 3) := by decide +kernel
theorem dX10_two_56 : decode cX10_two 56 = .ok (.iconst 1, 1) := by decide +kernel
theorem dX10_two_57 : decode cX10_two 57 = .ok (.goto 4, 3) := by decide +kernel
theorem dX10_two_60 : decode cX10_two 60 = .ok (.iconst 0, 1) := by decide +kernel
theorem dX10_two_61 : decode cX10_two 61 = .ok (.ireturn, 1) := by decide +kernel
theorem dX10_two_62 : decode cX10_two 62 = .ok (.iload_n 1, 1) := by decide +kernel
theorem dX10_two_63 : decode cX10_two 63 = .ok (.ifCond .eq 11, 3) := by decide +kernel
theorem dX10_two_66 : decode cX10_two 66 = .ok (.iload_n 2, 1) := by decide +kernel
theorem dX10_two_67 : decode cX10_two 67 = .ok (.ifCond .eq 7, 3) := by decide +kernel
theorem dX10_two_70 : decode cX10_two 70 = .ok (.iconst 1, 1) := by decide +kernel
theorem dX10_two_71 : decode cX10_two 71 = .ok (.goto 4, 3) := by decide +kernel
theorem dX10_two_74 : decode cX10_two 74 = .ok (.iconst 0, 1) := by decide +kernel
theorem dX10_two_75 : decode cX10_two 75 = .ok (.ireturn, 1) := by decide +kernel
theorem dX10_two_76 : decode cX10_two 76 = .ok (.iload_n 1, 1) := by decide +kernel
theorem dX10_two_77 : decode cX10_two 77 = .ok (.iload_n 2, 1) := by decide +kernel
theorem dX10_two_78 : decode cX10_two 78 = .ok (.if_icmp .ge 7, 3) := by decide +kernel
theorem dX10_two_81 : decode cX10_two 81 = .ok (.iconst 1, 1) := by decide +kernel
theorem dX10_two_82 : decode cX10_two 82 = .ok (.goto 4, 3) := by decide +kernel
theorem dX10_two_85 : decode cX10_two 85 = .ok (.iconst 0, 1) := by decide +kernel
theorem dX10_two_86 : decode cX10_two 86 = .ok (.ireturn, 1) := by decide +kernel
theorem dX10_two_87 : decode cX10_two 87 = .ok (.iload_n 1, 1) := by decide +kernel
theorem dX10_two_88 : decode cX10_two 88 = .ok (.iload_n 2, 1) := by decide +kernel
theorem dX10_two_89 : decode cX10_two 89 = .ok (.if_icmp .ne 7, 3) := by decide +kernel
theorem dX10_two_92 : decode cX10_two 92 = .ok (.iconst 1, 1) := by decide +kernel
theorem dX10_two_93 : decode cX10_two 93 = .ok (.goto 4, 3) := by decide +kernel
theorem dX10_two_96 : decode cX10_two 96 = .ok (.iconst 0, 1) := by decide +kernel
theorem dX10_two_97 : decode cX10_two 97 = .ok (.ireturn, 1) := by decide +kernel
theorem dX10_two_98 : decode cX10_two 98 = .ok (.iload_n 1, 1) := by decide +kernel
theorem dX10_two_99 : decode cX10_two 99 = .ok (.iload_n 2, 1) := by decide +kernel
theorem dX10_two_100 : decode cX10_two 100 = .ok (.if_icmp .le 7, 3) := by decide +kernel
theorem dX10_two_103 : decode cX10_two 103 = .ok (.iconst 1, 1) := by decide +kernel
theorem dX10_two_104 : decode cX10_two 104 = .ok (.goto 4, 3) := by decide +kernel
theorem dX10_two_107 : decode cX10_two 107 = .ok (.iconst 0, 1) := by decide +kernel
theorem dX10_two_108 : decode cX10_two 108 = .ok (.ireturn, 1) := by decide +kernel
theorem dX10_two_109 : decode cX10_two 109 = .ok (.iload_n 1, 1) := by decide +kernel
theorem dX10_two_110 : decode cX10_two 110 = .ok (.iload_n 2, 1) := by decide +kernel
theorem dX10_two_111 : decode cX10_two 111 = .ok (.iadd, 1) := by decide +kernel
theorem dX10_two_112 : decode cX10_two 112 = .ok (.ireturn, 1) := by decide +kernel
theorem dX10_two_113 : decode cX10_two 113 = .ok (.iload_n 1, 1) := by decide +kernel
theorem dX10_two_114 : decode cX10_two 114 = .ok (.iload_n 2, 1) := by decide +kernel
theorem dX10_two_115 : decode cX10_two 115 = .ok (.isub, 1) := by decide +kernel
theorem dX10_two_116 : decode cX10_two 116 = .ok (.ireturn, 1) := by decide +kernel
theorem dX10_two_117 : decode cX10_two 117 = .ok (.iload_n 1, 1) := by decide +kernel
theorem dX10_two_118 : decode cX10_two 118 = .ok (.iload_n 2, 1) := by decide +kernel
theorem dX10_two_119 : decode cX10_two 119 = .ok (.imul, 1) := by decide +kernel
theorem dX10_two_120 : decode cX10_two 120 = .ok (.ireturn, 1) := by decide +kernel
theorem dX10_two_121 : decode cX10_two 121 = .ok (.iload_n 2, 1) := by decide +kernel
theorem dX10_two_122 : decode cX10_two 122 = .ok (.ifCond .ne 7, 3) := by decide +kernel
theorem dX10_two_125 : decode cX10_two 125 = .ok (.iconst 0, 1) := by decide +kernel
theorem dX10_two_126 : decode cX10_two 126 = .ok (.goto 6, 3) := by decide +kernel
theorem dX10_two_129 : decode cX10_two 129 = .ok (.iload_n 1, 1) := by decide +kernel
theorem dX10_two_130 : decode cX10_two 130 = .ok (.iload_n 2, 1) := by decide +kernel
theorem dX10_two_131 : decode cX10_two 131 = .ok (.idiv, 1) := by decide +kernel
theorem dX10_two_132 : decode cX10_two 132 = .ok (.ireturn, 1) := by decide +kernel
theorem dX10_worksOut_0 : decode cX10_worksOut 0 = .ok (.iconst 0, 1) := by decide +kernel
theorem dX10_worksOut_1 : decode cX10_worksOut 1 = .ok (.istore_n 2, 1) := by decide +kernel
theorem dX10_worksOut_2 : decode cX10_worksOut 2 = .ok (.aload_n 0, 1) := by decide +kernel
theorem dX10_worksOut_3 : decode cX10_worksOut 3 = .ok (.getfield 9, 3) := by decide +kernel
theorem dX10_worksOut_6 : decode cX10_worksOut 6 = .ok (.bipush 70, 2) := by decide +kernel
theorem dX10_worksOut_8 : decode cX10_worksOut 8 = .ok (.iconst 2, 1) := by decide +kernel
theorem dX10_worksOut_9 : decode cX10_worksOut 9 = .ok (.iload_n 1, 1) := by decide +kernel
theorem dX10_worksOut_10 : decode cX10_worksOut 10 = .ok (.imul, 1) := by decide +kernel
theorem dX10_worksOut_11 : decode cX10_worksOut 11 = .ok (.iadd, 1) := by decide +kernel
theorem dX10_worksOut_12 : decode cX10_worksOut 12 = .ok (.iaload, 1) := by decide +kernel
theorem dX10_worksOut_13 : decode cX10_worksOut 13 = .ok (.sipush 1000, 3) := by decide +kernel
theorem dX10_worksOut_16 : decode cX10_worksOut 16 = .ok (.irem, 1) := by decide +kernel
theorem dX10_worksOut_17 : decode cX10_worksOut 17 = .ok (.istore_n 3, 1) := by decide +kernel
theorem dX10_worksOut_18 : decode cX10_worksOut 18 = .ok (.iconst 0, 1) := by decide +kernel
theorem dX10_worksOut_19 : decode cX10_worksOut 19 = .ok (.istore 4, 2) := by decide +kernel
theorem dX10_worksOut_21 : decode cX10_worksOut 21 = .ok (.iload 4, 2) := by decide +kernel
theorem dX10_worksOut_23 : decode cX10_worksOut 23 = .ok (.iload_n 3, 1) := by decide +kernel
theorem dX10_worksOut_24 : decode cX10_worksOut 24 = .ok (.if_icmp .ge 131, 3) := by decide +kernel
theorem dX10_worksOut_27 : decode cX10_worksOut 27 = .ok (.aload_n 0, 1) := by decide +kernel
theorem dX10_worksOut_28 : decode cX10_worksOut 28 = .ok (.getfield 9, 3) := by decide +kernel
theorem dX10_worksOut_31 : decode cX10_worksOut 31 = .ok (.bipush 98, 2) := by decide +kernel
theorem dX10_worksOut_33 : decode cX10_worksOut 33 = .ok (.bipush 96, 2) := by decide +kernel
theorem dX10_worksOut_35 : decode cX10_worksOut 35 = .ok (.iload_n 1, 1) := by decide +kernel
theorem dX10_worksOut_36 : decode cX10_worksOut 36 = .ok (.imul, 1) := by decide +kernel
theorem dX10_worksOut_37 : decode cX10_worksOut 37 = .ok (.iadd, 1) := by decide +kernel
theorem dX10_worksOut_38 : decode cX10_worksOut 38 = .ok (.iload 4, 2) := by decide +kernel
theorem dX10_worksOut_40 : decode cX10_worksOut 40 = .ok (.iadd, 1) := by decide +kernel
theorem dX10_worksOut_41 : decode cX10_worksOut 41 = .ok (.iaload, 1) := by decide +kernel
theorem dX10_worksOut_42 : decode cX10_worksOut 42 = .ok (.istore 5, 2) := by decide +kernel
theorem dX10_worksOut_44 : decode cX10_worksOut 44 = .ok (.iload 5, 2) := by decide +kernel
theorem dX10_worksOut_46 : decode cX10_worksOut 46 = .ok (.ifCond .lt 39, 3) := by decide +kernel
theorem dX10_worksOut_49 : decode cX10_worksOut 49 = .ok (.aload_n 0, 1) := by decide +kernel
theorem dX10_worksOut_50 : decode cX10_worksOut 50 = .ok (.getfield 55, 3) := by decide +kernel
theorem dX10_worksOut_53 : decode cX10_worksOut 53 = .ok (.iload_n 2, 1) := by decide +kernel
theorem dX10_worksOut_54 : decode cX10_worksOut 54 = .ok (.iload 5, 2) := by decide +kernel
theorem dX10_worksOut_56 : decode cX10_worksOut 56 = .ok (.sipush 10000, 3) := by decide +kernel
theorem dX10_worksOut_59 : decode cX10_worksOut 59 = .ok (.if_icmp .ge 8, 3) := by decide +kernel
theorem dX10_worksOut_62 : decode cX10_worksOut 62 = .ok (.iload 5, 2) := by decide +kernel
theorem dX10_worksOut_64 : decode cX10_worksOut 64 = .ok (.goto 14, 3) := by decide +kernel
theorem dX10_worksOut_67 : decode cX10_worksOut 67 = .ok (.aload_n 0, 1) := by decide +kernel
theorem dX10_worksOut_68 : decode cX10_worksOut 68 = .ok (.getfield 58, 3) := by decide +kernel
theorem dX10_worksOut_71 : decode cX10_worksOut 71 = .ok (.iload 5, 2) := by decide +kernel
theorem dX10_worksOut_73 : decode cX10_worksOut 73 = .ok (.sipush 10000, 3) := by decide +kernel
theorem dX10_worksOut_76 : decode cX10_worksOut 76 = .ok (.isub, 1) := by decide +kernel
theorem dX10_worksOut_77 : decode cX10_worksOut 77 = .ok (.iaload, 1) := by decide +kernel
theorem dX10_worksOut_78 : decode cX10_worksOut 78 = .ok (.iastore, 1) := by decide +kernel
theorem dX10_worksOut_79 : decode cX10_worksOut 79 = .ok (.iinc 2 1, 3) := by decide +kernel
theorem dX10_worksOut_82 : decode cX10_worksOut 82 = .ok (.goto 67, 3) := by decide +kernel
theorem dX10_worksOut_85 : decode cX10_worksOut 85 = .ok (.iload 5, 2) := by decide +kernel
theorem dX10_worksOut_87 : decode cX10_worksOut 87 = .ok (.bipush (-10), 2) := by decide +kernel
theorem dX10_worksOut_89 : decode cX10_worksOut 89 = .ok (.if_icmp .ne 30, 3) := by decide +kernel
theorem dX10_worksOut_92 : decode cX10_worksOut 92 = .ok (.aload_n 0, 1) := by decide +kernel
theorem dX10_worksOut_93 : decode cX10_worksOut 93 = .ok (.getfield 55, 3) := by decide +kernel
theorem dX10_worksOut_96 : decode cX10_worksOut 96 = .ok (.iload_n 2, 1) := by decide +kernel
theorem dX10_worksOut_97 : decode cX10_worksOut 97 = .ok (.iconst 1, 1) := by decide +kernel
theorem dX10_worksOut_98 : decode cX10_worksOut 98 = .ok (.isub, 1) := by decide +kernel
theorem dX10_worksOut_99 : decode cX10_worksOut 99 = .ok (.aload_n 0, 1) := by decide +kernel
theorem dX10_worksOut_100 : decode cX10_worksOut 100 = .ok (.getfield 55, 3) := by decide +kernel
theorem dX10_worksOut_103 : decode cX10_worksOut 103 = .ok (.iload_n 2, 1) := by decide +kernel
theorem dX10_worksOut_104 : decode cX10_worksOut 104 = .ok (.iconst 1, 1) := by decide +kernel
theorem dX10_worksOut_105 : decode cX10_worksOut 105 = .ok (.isub, 1) := by decide +kernel
theorem dX10_worksOut_106 : decode cX10_worksOut 106 = .ok (.iaload, 1) := by decide +kernel
theorem dX10_worksOut_107 : decode cX10_worksOut 107 = .ok (.ifCond .ne 7, 3) := by decide +kernel
theorem dX10_worksOut_110 : decode cX10_worksOut 110 = .ok (.iconst 1, 1) := by decide +kernel
theorem dX10_worksOut_111 : decode cX10_worksOut 111 = .ok (.goto 4, 3) := by decide +kernel
theorem dX10_worksOut_114 : decode cX10_worksOut 114 = .ok (.iconst 0, 1) := by decide +kernel
theorem dX10_worksOut_115 : decode cX10_worksOut 115 = .ok (.iastore, 1) := by decide +kernel
theorem dX10_worksOut_116 : decode cX10_worksOut 116 = .ok (.goto 33, 3) := by decide +kernel
theorem dX10_worksOut_119 : decode cX10_worksOut 119 = .ok (.iinc 2 (-1), 3) := by decide +kernel
theorem dX10_worksOut_122 : decode cX10_worksOut 122 = .ok (.aload_n 0, 1) := by decide +kernel
theorem dX10_worksOut_123 : decode cX10_worksOut 123 = .ok (.getfield 55, 3) := by decide +kernel
theorem dX10_worksOut_126 : decode cX10_worksOut 126 = .ok (.iload_n 2, 1) := by decide +kernel
theorem dX10_worksOut_127 : decode cX10_worksOut 127 = .ok (.iconst 1, 1) := by decide +kernel
theorem dX10_worksOut_128 : decode cX10_worksOut 128 = .ok (.isub, 1) := by decide +kernel
theorem dX10_worksOut_129 : decode cX10_worksOut 129 = .ok (.iload 5, 2) := by decide +kernel
theorem dX10_worksOut_131 : decode cX10_worksOut 131 = .ok (.aload_n 0, 1) := by decide +kernel
theorem dX10_worksOut_132 : decode cX10_worksOut 132 = .ok (.getfield 55, 3) := by decide +kernel
theorem dX10_worksOut_135 : decode cX10_worksOut 135 = .ok (.iload_n 2, 1) := by decide +kernel
theorem dX10_worksOut_136 : decode cX10_worksOut 136 = .ok (.iconst 1, 1) := by decide +kernel
theorem dX10_worksOut_137 : decode cX10_worksOut 137 = .ok (.isub, 1) := by decide +kernel
theorem dX10_worksOut_138 : decode cX10_worksOut 138 = .ok (.iaload, 1) := by decide +kernel
theorem dX10_worksOut_139 : decode cX10_worksOut 139 = .ok (.aload_n 0, 1) := by decide +kernel
theorem dX10_worksOut_140 : decode cX10_worksOut 140 = .ok (.getfield 55, 3) := by decide +kernel
theorem dX10_worksOut_143 : decode cX10_worksOut 143 = .ok (.iload_n 2, 1) := by decide +kernel
theorem dX10_worksOut_144 : decode cX10_worksOut 144 = .ok (.iaload, 1) := by decide +kernel
theorem dX10_worksOut_145 : decode cX10_worksOut 145 = .ok (.invokestatic 263, 3) := by decide +kernel
theorem dX10_worksOut_148 : decode cX10_worksOut 148 = .ok (.iastore, 1) := by decide +kernel
theorem dX10_worksOut_149 : decode cX10_worksOut 149 = .ok (.iinc 4 1, 3) := by decide +kernel
theorem dX10_worksOut_152 : decode cX10_worksOut 152 = .ok (.goto (-131), 3) := by decide +kernel
theorem dX10_worksOut_155 : decode cX10_worksOut 155 = .ok (.aload_n 0, 1) := by decide +kernel
theorem dX10_worksOut_156 : decode cX10_worksOut 156 = .ok (.getfield 55, 3) := by decide +kernel
theorem dX10_worksOut_159 : decode cX10_worksOut 159 = .ok (.iconst 0, 1) := by decide +kernel
theorem dX10_worksOut_160 : decode cX10_worksOut 160 = .ok (.iaload, 1) := by decide +kernel
theorem dX10_worksOut_161 : decode cX10_worksOut 161 = .ok (.ireturn, 1) := by decide +kernel
theorem dX10_isSheet_0 : decode cX10_isSheet 0 = .ok (.iload_n 0, 1) := by decide +kernel
theorem dX10_isSheet_1 : decode cX10_isSheet 1 = .ok (.iconst 0, 1) := by decide +kernel
theorem dX10_isSheet_2 : decode cX10_isSheet 2 = .ok (.iconst 3, 1) := by decide +kernel
theorem dX10_isSheet_3 : decode cX10_isSheet 3 = .ok (.invokestatic 89, 3) := by decide +kernel
theorem dX10_isSheet_6 : decode cX10_isSheet 6 = .ok (.ireturn, 1) := by decide +kernel
theorem dX10_isSlot_0 : decode cX10_isSlot 0 = .ok (.iload_n 0, 1) := by decide +kernel
theorem dX10_isSlot_1 : decode cX10_isSlot 1 = .ok (.iconst 0, 1) := by decide +kernel
theorem dX10_isSlot_2 : decode cX10_isSlot 2 = .ok (.iconst 4, 1) := by decide +kernel
theorem dX10_isSlot_3 : decode cX10_isSlot 3 = .ok (.invokestatic 89, 3) := by decide +kernel
theorem dX10_isSlot_6 : decode cX10_isSlot 6 = .ok (.ireturn, 1) := by decide +kernel
theorem dX10_sheet_0 : decode cX10_sheet 0 = .ok (.iload_n 1, 1) := by decide +kernel
theorem dX10_sheet_1 : decode cX10_sheet 1 = .ok (.invokestatic 188, 3) := by decide +kernel
theorem dX10_sheet_4 : decode cX10_sheet 4 = .ok (.ifCond .eq 22, 3) := by decide +kernel
theorem dX10_sheet_7 : decode cX10_sheet 7 = .ok (.iload_n 2, 1) := by decide +kernel
theorem dX10_sheet_8 : decode cX10_sheet 8 = .ok (.iconst (-1), 1) := by decide +kernel
theorem dX10_sheet_9 : decode cX10_sheet 9 = .ok (.iconst 1, 1) := by decide +kernel
theorem dX10_sheet_10 : decode cX10_sheet 10 = .ok (.invokestatic 89, 3) := by decide +kernel
theorem dX10_sheet_13 : decode cX10_sheet 13 = .ok (.ifCond .eq 13, 3) := by decide +kernel
theorem dX10_sheet_16 : decode cX10_sheet 16 = .ok (.iload_n 2, 1) := by decide +kernel
theorem dX10_sheet_17 : decode cX10_sheet 17 = .ok (.ifCond .lt 12, 3) := by decide +kernel
theorem dX10_sheet_20 : decode cX10_sheet 20 = .ok (.iload_n 3, 1) := by decide +kernel
theorem dX10_sheet_21 : decode cX10_sheet 21 = .ok (.bipush 24, 2) := by decide +kernel
theorem dX10_sheet_23 : decode cX10_sheet 23 = .ok (.if_icmp .le 6, 3) := by decide +kernel
theorem dX10_sheet_26 : decode cX10_sheet 26 = .ok (.ldc 97, 2) := by decide +kernel
theorem dX10_sheet_28 : decode cX10_sheet 28 = .ok (.ireturn, 1) := by decide +kernel
theorem dX10_sheet_29 : decode cX10_sheet 29 = .ok (.iload_n 2, 1) := by decide +kernel
theorem dX10_sheet_30 : decode cX10_sheet 30 = .ok (.ifCond .lt 11, 3) := by decide +kernel
theorem dX10_sheet_33 : decode cX10_sheet 33 = .ok (.iload_n 3, 1) := by decide +kernel
theorem dX10_sheet_34 : decode cX10_sheet 34 = .ok (.ifCond .ge 7, 3) := by decide +kernel
theorem dX10_sheet_37 : decode cX10_sheet 37 = .ok (.ldc_w 266, 3) := by decide +kernel
theorem dX10_sheet_40 : decode cX10_sheet 40 = .ok (.ireturn, 1) := by decide +kernel
theorem dX10_sheet_41 : decode cX10_sheet 41 = .ok (.aload_n 0, 1) := by decide +kernel
theorem dX10_sheet_42 : decode cX10_sheet 42 = .ok (.getfield 61, 3) := by decide +kernel
theorem dX10_sheet_45 : decode cX10_sheet 45 = .ok (.iload_n 1, 1) := by decide +kernel
theorem dX10_sheet_46 : decode cX10_sheet 46 = .ok (.iload_n 2, 1) := by decide +kernel
theorem dX10_sheet_47 : decode cX10_sheet 47 = .ok (.iastore, 1) := by decide +kernel
theorem dX10_sheet_48 : decode cX10_sheet 48 = .ok (.aload_n 0, 1) := by decide +kernel
theorem dX10_sheet_49 : decode cX10_sheet 49 = .ok (.getfield 64, 3) := by decide +kernel
theorem dX10_sheet_52 : decode cX10_sheet 52 = .ok (.iload_n 1, 1) := by decide +kernel
theorem dX10_sheet_53 : decode cX10_sheet 53 = .ok (.iload_n 2, 1) := by decide +kernel
theorem dX10_sheet_54 : decode cX10_sheet 54 = .ok (.ifCond .ge 7, 3) := by decide +kernel
theorem dX10_sheet_57 : decode cX10_sheet 57 = .ok (.iconst 0, 1) := by decide +kernel
theorem dX10_sheet_58 : decode cX10_sheet 58 = .ok (.goto 4, 3) := by decide +kernel
theorem dX10_sheet_61 : decode cX10_sheet 61 = .ok (.iload_n 3, 1) := by decide +kernel
theorem dX10_sheet_62 : decode cX10_sheet 62 = .ok (.iastore, 1) := by decide +kernel
theorem dX10_sheet_63 : decode cX10_sheet 63 = .ok (.iconst 0, 1) := by decide +kernel
theorem dX10_sheet_64 : decode cX10_sheet 64 = .ok (.istore 4, 2) := by decide +kernel
theorem dX10_sheet_66 : decode cX10_sheet 66 = .ok (.iload 4, 2) := by decide +kernel
theorem dX10_sheet_68 : decode cX10_sheet 68 = .ok (.bipush 24, 2) := by decide +kernel
theorem dX10_sheet_70 : decode cX10_sheet 70 = .ok (.if_icmp .ge 22, 3) := by decide +kernel
theorem dX10_sheet_73 : decode cX10_sheet 73 = .ok (.aload_n 0, 1) := by decide +kernel
theorem dX10_sheet_74 : decode cX10_sheet 74 = .ok (.getfield 67, 3) := by decide +kernel
theorem dX10_sheet_77 : decode cX10_sheet 77 = .ok (.bipush 24, 2) := by decide +kernel
theorem dX10_sheet_79 : decode cX10_sheet 79 = .ok (.iload_n 1, 1) := by decide +kernel
theorem dX10_sheet_80 : decode cX10_sheet 80 = .ok (.imul, 1) := by decide +kernel
theorem dX10_sheet_81 : decode cX10_sheet 81 = .ok (.iload 4, 2) := by decide +kernel
theorem dX10_sheet_83 : decode cX10_sheet 83 = .ok (.iadd, 1) := by decide +kernel
theorem dX10_sheet_84 : decode cX10_sheet 84 = .ok (.iconst 0, 1) := by decide +kernel
theorem dX10_sheet_85 : decode cX10_sheet 85 = .ok (.iastore, 1) := by decide +kernel
theorem dX10_sheet_86 : decode cX10_sheet 86 = .ok (.iinc 4 1, 3) := by decide +kernel
theorem dX10_sheet_89 : decode cX10_sheet 89 = .ok (.goto (-23), 3) := by decide +kernel
theorem dX10_sheet_92 : decode cX10_sheet 92 = .ok (.aload_n 0, 1) := by decide +kernel
theorem dX10_sheet_93 : decode cX10_sheet 93 = .ok (.getfield 64, 3) := by decide +kernel
theorem dX10_sheet_96 : decode cX10_sheet 96 = .ok (.iload_n 1, 1) := by decide +kernel
theorem dX10_sheet_97 : decode cX10_sheet 97 = .ok (.iaload, 1) := by decide +kernel
theorem dX10_sheet_98 : decode cX10_sheet 98 = .ok (.ireturn, 1) := by decide +kernel
theorem dX10_mark_0 : decode cX10_mark 0 = .ok (.iload_n 1, 1) := by decide +kernel
theorem dX10_mark_1 : decode cX10_mark 1 = .ok (.invokestatic 188, 3) := by decide +kernel
theorem dX10_mark_4 : decode cX10_mark 4 = .ok (.ifCond .ne 6, 3) := by decide +kernel
theorem dX10_mark_7 : decode cX10_mark 7 = .ok (.ldc 97, 2) := by decide +kernel
theorem dX10_mark_9 : decode cX10_mark 9 = .ok (.ireturn, 1) := by decide +kernel
theorem dX10_mark_10 : decode cX10_mark 10 = .ok (.aload_n 0, 1) := by decide +kernel
theorem dX10_mark_11 : decode cX10_mark 11 = .ok (.getfield 61, 3) := by decide +kernel
theorem dX10_mark_14 : decode cX10_mark 14 = .ok (.iload_n 1, 1) := by decide +kernel
theorem dX10_mark_15 : decode cX10_mark 15 = .ok (.iaload, 1) := by decide +kernel
theorem dX10_mark_16 : decode cX10_mark 16 = .ok (.ifCond .ge 6, 3) := by decide +kernel
theorem dX10_mark_19 : decode cX10_mark 19 = .ok (.ldc 191, 2) := by decide +kernel
theorem dX10_mark_21 : decode cX10_mark 21 = .ok (.ireturn, 1) := by decide +kernel
theorem dX10_mark_22 : decode cX10_mark 22 = .ok (.iload_n 2, 1) := by decide +kernel
theorem dX10_mark_23 : decode cX10_mark 23 = .ok (.iconst 0, 1) := by decide +kernel
theorem dX10_mark_24 : decode cX10_mark 24 = .ok (.aload_n 0, 1) := by decide +kernel
theorem dX10_mark_25 : decode cX10_mark 25 = .ok (.getfield 64, 3) := by decide +kernel
theorem dX10_mark_28 : decode cX10_mark 28 = .ok (.iload_n 1, 1) := by decide +kernel
theorem dX10_mark_29 : decode cX10_mark 29 = .ok (.iaload, 1) := by decide +kernel
theorem dX10_mark_30 : decode cX10_mark 30 = .ok (.iconst 1, 1) := by decide +kernel
theorem dX10_mark_31 : decode cX10_mark 31 = .ok (.isub, 1) := by decide +kernel
theorem dX10_mark_32 : decode cX10_mark 32 = .ok (.invokestatic 89, 3) := by decide +kernel
theorem dX10_mark_35 : decode cX10_mark 35 = .ok (.ifCond .ne 7, 3) := by decide +kernel
theorem dX10_mark_38 : decode cX10_mark 38 = .ok (.ldc_w 267, 3) := by decide +kernel
theorem dX10_mark_41 : decode cX10_mark 41 = .ok (.ireturn, 1) := by decide +kernel
theorem dX10_mark_42 : decode cX10_mark 42 = .ok (.aload_n 0, 1) := by decide +kernel
theorem dX10_mark_43 : decode cX10_mark 43 = .ok (.getfield 61, 3) := by decide +kernel
theorem dX10_mark_46 : decode cX10_mark 46 = .ok (.iload_n 1, 1) := by decide +kernel
theorem dX10_mark_47 : decode cX10_mark 47 = .ok (.iaload, 1) := by decide +kernel
theorem dX10_mark_48 : decode cX10_mark 48 = .ok (.ifCond .ne 12, 3) := by decide +kernel
theorem dX10_mark_51 : decode cX10_mark 51 = .ok (.iload_n 3, 1) := by decide +kernel
theorem dX10_mark_52 : decode cX10_mark 52 = .ok (.ldc 88, 2) := by decide +kernel
theorem dX10_mark_54 : decode cX10_mark 54 = .ok (.if_icmp .ne 6, 3) := by decide +kernel
theorem dX10_mark_57 : decode cX10_mark 57 = .ok (.ldc 124, 2) := by decide +kernel
theorem dX10_mark_59 : decode cX10_mark 59 = .ok (.ireturn, 1) := by decide +kernel
theorem dX10_mark_60 : decode cX10_mark 60 = .ok (.aload_n 0, 1) := by decide +kernel
theorem dX10_mark_61 : decode cX10_mark 61 = .ok (.getfield 61, 3) := by decide +kernel
theorem dX10_mark_64 : decode cX10_mark 64 = .ok (.iload_n 1, 1) := by decide +kernel
theorem dX10_mark_65 : decode cX10_mark 65 = .ok (.iaload, 1) := by decide +kernel
theorem dX10_mark_66 : decode cX10_mark 66 = .ok (.iconst 1, 1) := by decide +kernel
theorem dX10_mark_67 : decode cX10_mark 67 = .ok (.if_icmp .ne 25, 3) := by decide +kernel
theorem dX10_mark_70 : decode cX10_mark 70 = .ok (.iload_n 3, 1) := by decide +kernel
theorem dX10_mark_71 : decode cX10_mark 71 = .ok (.ldc 88, 2) := by decide +kernel
theorem dX10_mark_73 : decode cX10_mark 73 = .ok (.if_icmp .eq 19, 3) := by decide +kernel
theorem dX10_mark_76 : decode cX10_mark 76 = .ok (.iload_n 3, 1) := by decide +kernel
theorem dX10_mark_77 : decode cX10_mark 77 = .ok (.ldc_w 268, 3) := by decide +kernel
theorem dX10_mark_80 : decode cX10_mark 80 = .ok (.ldc_w 269, 3) := by decide +kernel
theorem dX10_mark_83 : decode cX10_mark 83 = .ok (.invokestatic 89, 3) := by decide +kernel
theorem dX10_mark_86 : decode cX10_mark 86 = .ok (.ifCond .ne 6, 3) := by decide +kernel
theorem dX10_mark_89 : decode cX10_mark 89 = .ok (.ldc 97, 2) := by decide +kernel
theorem dX10_mark_91 : decode cX10_mark 91 = .ok (.ireturn, 1) := by decide +kernel
theorem dX10_mark_92 : decode cX10_mark 92 = .ok (.aload_n 0, 1) := by decide +kernel
theorem dX10_mark_93 : decode cX10_mark 93 = .ok (.getfield 67, 3) := by decide +kernel
theorem dX10_mark_96 : decode cX10_mark 96 = .ok (.bipush 24, 2) := by decide +kernel
theorem dX10_mark_98 : decode cX10_mark 98 = .ok (.iload_n 1, 1) := by decide +kernel
theorem dX10_mark_99 : decode cX10_mark 99 = .ok (.imul, 1) := by decide +kernel
theorem dX10_mark_100 : decode cX10_mark 100 = .ok (.iload_n 2, 1) := by decide +kernel
theorem dX10_mark_101 : decode cX10_mark 101 = .ok (.iadd, 1) := by decide +kernel
theorem dX10_mark_102 : decode cX10_mark 102 = .ok (.aload_n 0, 1) := by decide +kernel
theorem dX10_mark_103 : decode cX10_mark 103 = .ok (.getfield 61, 3) := by decide +kernel
theorem dX10_mark_106 : decode cX10_mark 106 = .ok (.iload_n 1, 1) := by decide +kernel
theorem dX10_mark_107 : decode cX10_mark 107 = .ok (.iaload, 1) := by decide +kernel
theorem dX10_mark_108 : decode cX10_mark 108 = .ok (.ifCond .ne 8, 3) := by decide +kernel
theorem dX10_mark_111 : decode cX10_mark 111 = .ok (.iload_n 3, 1) := by decide +kernel
theorem dX10_mark_112 : decode cX10_mark 112 = .ok (.i2s, 1) := by decide +kernel
theorem dX10_mark_113 : decode cX10_mark 113 = .ok (.goto 4, 3) := by decide +kernel
theorem dX10_mark_116 : decode cX10_mark 116 = .ok (.iload_n 3, 1) := by decide +kernel
theorem dX10_mark_117 : decode cX10_mark 117 = .ok (.iastore, 1) := by decide +kernel
theorem dX10_mark_118 : decode cX10_mark 118 = .ok (.iconst 1, 1) := by decide +kernel
theorem dX10_mark_119 : decode cX10_mark 119 = .ok (.ireturn, 1) := by decide +kernel
theorem dX10_pour_0 : decode cX10_pour 0 = .ok (.iload_n 1, 1) := by decide +kernel
theorem dX10_pour_1 : decode cX10_pour 1 = .ok (.invokestatic 188, 3) := by decide +kernel
theorem dX10_pour_4 : decode cX10_pour 4 = .ok (.ifCond .ne 6, 3) := by decide +kernel
theorem dX10_pour_7 : decode cX10_pour 7 = .ok (.ldc 97, 2) := by decide +kernel
theorem dX10_pour_9 : decode cX10_pour 9 = .ok (.ireturn, 1) := by decide +kernel
theorem dX10_pour_10 : decode cX10_pour 10 = .ok (.aload_n 0, 1) := by decide +kernel
theorem dX10_pour_11 : decode cX10_pour 11 = .ok (.getfield 61, 3) := by decide +kernel
theorem dX10_pour_14 : decode cX10_pour 14 = .ok (.iload_n 1, 1) := by decide +kernel
theorem dX10_pour_15 : decode cX10_pour 15 = .ok (.iaload, 1) := by decide +kernel
theorem dX10_pour_16 : decode cX10_pour 16 = .ok (.ifCond .ge 6, 3) := by decide +kernel
theorem dX10_pour_19 : decode cX10_pour 19 = .ok (.ldc 191, 2) := by decide +kernel
theorem dX10_pour_21 : decode cX10_pour 21 = .ok (.ireturn, 1) := by decide +kernel
theorem dX10_pour_22 : decode cX10_pour 22 = .ok (.iconst 0, 1) := by decide +kernel
theorem dX10_pour_23 : decode cX10_pour 23 = .ok (.istore_n 2, 1) := by decide +kernel
theorem dX10_pour_24 : decode cX10_pour 24 = .ok (.iconst 0, 1) := by decide +kernel
theorem dX10_pour_25 : decode cX10_pour 25 = .ok (.istore_n 3, 1) := by decide +kernel
theorem dX10_pour_26 : decode cX10_pour 26 = .ok (.iload_n 3, 1) := by decide +kernel
theorem dX10_pour_27 : decode cX10_pour 27 = .ok (.aload_n 0, 1) := by decide +kernel
theorem dX10_pour_28 : decode cX10_pour 28 = .ok (.getfield 64, 3) := by decide +kernel
theorem dX10_pour_31 : decode cX10_pour 31 = .ok (.iload_n 1, 1) := by decide +kernel
theorem dX10_pour_32 : decode cX10_pour 32 = .ok (.iaload, 1) := by decide +kernel
theorem dX10_pour_33 : decode cX10_pour 33 = .ok (.if_icmp .ge 85, 3) := by decide +kernel
theorem dX10_pour_36 : decode cX10_pour 36 = .ok (.iload_n 3, 1) := by decide +kernel
theorem dX10_pour_37 : decode cX10_pour 37 = .ok (.aload_n 0, 1) := by decide +kernel
theorem dX10_pour_38 : decode cX10_pour 38 = .ok (.getfield 9, 3) := by decide +kernel
theorem dX10_pour_41 : decode cX10_pour 41 = .ok (.iconst 1, 1) := by decide +kernel
theorem dX10_pour_42 : decode cX10_pour 42 = .ok (.iaload, 1) := by decide +kernel
theorem dX10_pour_43 : decode cX10_pour 43 = .ok (.if_icmp .ge 75, 3) := by decide +kernel
theorem dX10_pour_46 : decode cX10_pour 46 = .ok (.aload_n 0, 1) := by decide +kernel
theorem dX10_pour_47 : decode cX10_pour 47 = .ok (.getfield 67, 3) := by decide +kernel
theorem dX10_pour_50 : decode cX10_pour 50 = .ok (.bipush 24, 2) := by decide +kernel
theorem dX10_pour_52 : decode cX10_pour 52 = .ok (.iload_n 1, 1) := by decide +kernel
theorem dX10_pour_53 : decode cX10_pour 53 = .ok (.imul, 1) := by decide +kernel
theorem dX10_pour_54 : decode cX10_pour 54 = .ok (.iload_n 3, 1) := by decide +kernel
theorem dX10_pour_55 : decode cX10_pour 55 = .ok (.iadd, 1) := by decide +kernel
theorem dX10_pour_56 : decode cX10_pour 56 = .ok (.iaload, 1) := by decide +kernel
theorem dX10_pour_57 : decode cX10_pour 57 = .ok (.istore 4, 2) := by decide +kernel
theorem dX10_pour_59 : decode cX10_pour 59 = .ok (.iload 4, 2) := by decide +kernel
theorem dX10_pour_61 : decode cX10_pour 61 = .ok (.ldc 88, 2) := by decide +kernel
theorem dX10_pour_63 : decode cX10_pour 63 = .ok (.if_icmp .ne 12, 3) := by decide +kernel
theorem dX10_pour_66 : decode cX10_pour 66 = .ok (.aload_n 0, 1) := by decide +kernel
theorem dX10_pour_67 : decode cX10_pour 67 = .ok (.iload_n 3, 1) := by decide +kernel
theorem dX10_pour_68 : decode cX10_pour 68 = .ok (.iconst 3, 1) := by decide +kernel
theorem dX10_pour_69 : decode cX10_pour 69 = .ok (.invokevirtual 103, 3) := by decide +kernel
theorem dX10_pour_72 : decode cX10_pour 72 = .ok (.goto 11, 3) := by decide +kernel
theorem dX10_pour_75 : decode cX10_pour 75 = .ok (.iload 4, 2) := by decide +kernel
theorem dX10_pour_77 : decode cX10_pour 77 = .ok (.iconst 0, 1) := by decide +kernel
theorem dX10_pour_78 : decode cX10_pour 78 = .ok (.bipush 99, 2) := by decide +kernel
theorem dX10_pour_80 : decode cX10_pour 80 = .ok (.invokestatic 140, 3) := by decide +kernel
theorem dX10_pour_83 : decode cX10_pour 83 = .ok (.istore 5, 2) := by decide +kernel
theorem dX10_pour_85 : decode cX10_pour 85 = .ok (.iload_n 2, 1) := by decide +kernel
theorem dX10_pour_86 : decode cX10_pour 86 = .ok (.aload_n 0, 1) := by decide +kernel
theorem dX10_pour_87 : decode cX10_pour 87 = .ok (.bipush 38, 2) := by decide +kernel
theorem dX10_pour_89 : decode cX10_pour 89 = .ok (.iconst 4, 1) := by decide +kernel
theorem dX10_pour_90 : decode cX10_pour 90 = .ok (.iload_n 3, 1) := by decide +kernel
theorem dX10_pour_91 : decode cX10_pour 91 = .ok (.imul, 1) := by decide +kernel
theorem dX10_pour_92 : decode cX10_pour 92 = .ok (.iadd, 1) := by decide +kernel
theorem dX10_pour_93 : decode cX10_pour 93 = .ok (.iconst 3, 1) := by decide +kernel
theorem dX10_pour_94 : decode cX10_pour 94 = .ok (.iadd, 1) := by decide +kernel
theorem dX10_pour_95 : decode cX10_pour 95 = .ok (.iload 5, 2) := by decide +kernel
theorem dX10_pour_97 : decode cX10_pour 97 = .ok (.invokevirtual 125, 3) := by decide +kernel
theorem dX10_pour_100 : decode cX10_pour 100 = .ok (.iload 5, 2) := by decide +kernel
theorem dX10_pour_102 : decode cX10_pour 102 = .ok (.if_icmp .ne 7, 3) := by decide +kernel
theorem dX10_pour_105 : decode cX10_pour 105 = .ok (.iconst 0, 1) := by decide +kernel
theorem dX10_pour_106 : decode cX10_pour 106 = .ok (.goto 4, 3) := by decide +kernel
theorem dX10_pour_109 : decode cX10_pour 109 = .ok (.iconst 1, 1) := by decide +kernel
theorem dX10_pour_110 : decode cX10_pour 110 = .ok (.iadd, 1) := by decide +kernel
theorem dX10_pour_111 : decode cX10_pour 111 = .ok (.istore_n 2, 1) := by decide +kernel
theorem dX10_pour_112 : decode cX10_pour 112 = .ok (.iinc 3 1, 3) := by decide +kernel
theorem dX10_pour_115 : decode cX10_pour 115 = .ok (.goto (-89), 3) := by decide +kernel
theorem dX10_pour_118 : decode cX10_pour 118 = .ok (.iload_n 2, 1) := by decide +kernel
theorem dX10_pour_119 : decode cX10_pour 119 = .ok (.ireturn, 1) := by decide +kernel
theorem dX10_reads_0 : decode cX10_reads 0 = .ok (.iload_n 1, 1) := by decide +kernel
theorem dX10_reads_1 : decode cX10_reads 1 = .ok (.invokestatic 188, 3) := by decide +kernel
theorem dX10_reads_4 : decode cX10_reads 4 = .ok (.ifCond .ne 6, 3) := by decide +kernel
theorem dX10_reads_7 : decode cX10_reads 7 = .ok (.ldc 97, 2) := by decide +kernel
theorem dX10_reads_9 : decode cX10_reads 9 = .ok (.ireturn, 1) := by decide +kernel
theorem dX10_reads_10 : decode cX10_reads 10 = .ok (.aload_n 0, 1) := by decide +kernel
theorem dX10_reads_11 : decode cX10_reads 11 = .ok (.getfield 61, 3) := by decide +kernel
theorem dX10_reads_14 : decode cX10_reads 14 = .ok (.iload_n 1, 1) := by decide +kernel
theorem dX10_reads_15 : decode cX10_reads 15 = .ok (.iaload, 1) := by decide +kernel
theorem dX10_reads_16 : decode cX10_reads 16 = .ok (.ifCond .ge 6, 3) := by decide +kernel
theorem dX10_reads_19 : decode cX10_reads 19 = .ok (.ldc 191, 2) := by decide +kernel
theorem dX10_reads_21 : decode cX10_reads 21 = .ok (.ireturn, 1) := by decide +kernel
theorem dX10_reads_22 : decode cX10_reads 22 = .ok (.aload_n 0, 1) := by decide +kernel
theorem dX10_reads_23 : decode cX10_reads 23 = .ok (.invokevirtual 114, 3) := by decide +kernel
theorem dX10_reads_26 : decode cX10_reads 26 = .ok (.iconst 0, 1) := by decide +kernel
theorem dX10_reads_27 : decode cX10_reads 27 = .ok (.istore_n 2, 1) := by decide +kernel
theorem dX10_reads_28 : decode cX10_reads 28 = .ok (.iload_n 2, 1) := by decide +kernel
theorem dX10_reads_29 : decode cX10_reads 29 = .ok (.aload_n 0, 1) := by decide +kernel
theorem dX10_reads_30 : decode cX10_reads 30 = .ok (.getfield 64, 3) := by decide +kernel
theorem dX10_reads_33 : decode cX10_reads 33 = .ok (.iload_n 1, 1) := by decide +kernel
theorem dX10_reads_34 : decode cX10_reads 34 = .ok (.iaload, 1) := by decide +kernel
theorem dX10_reads_35 : decode cX10_reads 35 = .ok (.if_icmp .ge 47, 3) := by decide +kernel
theorem dX10_reads_38 : decode cX10_reads 38 = .ok (.aload_n 0, 1) := by decide +kernel
theorem dX10_reads_39 : decode cX10_reads 39 = .ok (.getfield 67, 3) := by decide +kernel
theorem dX10_reads_42 : decode cX10_reads 42 = .ok (.bipush 24, 2) := by decide +kernel
theorem dX10_reads_44 : decode cX10_reads 44 = .ok (.iload_n 1, 1) := by decide +kernel
theorem dX10_reads_45 : decode cX10_reads 45 = .ok (.imul, 1) := by decide +kernel
theorem dX10_reads_46 : decode cX10_reads 46 = .ok (.iload_n 2, 1) := by decide +kernel
theorem dX10_reads_47 : decode cX10_reads 47 = .ok (.iadd, 1) := by decide +kernel
theorem dX10_reads_48 : decode cX10_reads 48 = .ok (.iaload, 1) := by decide +kernel
theorem dX10_reads_49 : decode cX10_reads 49 = .ok (.istore_n 3, 1) := by decide +kernel
theorem dX10_reads_50 : decode cX10_reads 50 = .ok (.iload_n 3, 1) := by decide +kernel
theorem dX10_reads_51 : decode cX10_reads 51 = .ok (.ldc 88, 2) := by decide +kernel
theorem dX10_reads_53 : decode cX10_reads 53 = .ok (.if_icmp .eq 23, 3) := by decide +kernel
theorem dX10_reads_56 : decode cX10_reads 56 = .ok (.aload_n 0, 1) := by decide +kernel
theorem dX10_reads_57 : decode cX10_reads 57 = .ok (.iload_n 2, 1) := by decide +kernel
theorem dX10_reads_58 : decode cX10_reads 58 = .ok (.invokevirtual 131, 3) := by decide +kernel
theorem dX10_reads_61 : decode cX10_reads 61 = .ok (.ifCond .eq 13, 3) := by decide +kernel
theorem dX10_reads_64 : decode cX10_reads 64 = .ok (.iload_n 3, 1) := by decide +kernel
theorem dX10_reads_65 : decode cX10_reads 65 = .ok (.aload_n 0, 1) := by decide +kernel
theorem dX10_reads_66 : decode cX10_reads 66 = .ok (.getfield 26, 3) := by decide +kernel
theorem dX10_reads_69 : decode cX10_reads 69 = .ok (.iload_n 2, 1) := by decide +kernel
theorem dX10_reads_70 : decode cX10_reads 70 = .ok (.iaload, 1) := by decide +kernel
theorem dX10_reads_71 : decode cX10_reads 71 = .ok (.if_icmp .eq 5, 3) := by decide +kernel
theorem dX10_reads_74 : decode cX10_reads 74 = .ok (.iload_n 2, 1) := by decide +kernel
theorem dX10_reads_75 : decode cX10_reads 75 = .ok (.ireturn, 1) := by decide +kernel
theorem dX10_reads_76 : decode cX10_reads 76 = .ok (.iinc 2 1, 3) := by decide +kernel
theorem dX10_reads_79 : decode cX10_reads 79 = .ok (.goto (-51), 3) := by decide +kernel
theorem dX10_reads_82 : decode cX10_reads 82 = .ok (.ldc 88, 2) := by decide +kernel
theorem dX10_reads_84 : decode cX10_reads 84 = .ok (.ireturn, 1) := by decide +kernel
theorem dX10_copy_0 : decode cX10_copy 0 = .ok (.iload_n 1, 1) := by decide +kernel
theorem dX10_copy_1 : decode cX10_copy 1 = .ok (.invokestatic 188, 3) := by decide +kernel
theorem dX10_copy_4 : decode cX10_copy 4 = .ok (.ifCond .eq 10, 3) := by decide +kernel
theorem dX10_copy_7 : decode cX10_copy 7 = .ok (.iload_n 3, 1) := by decide +kernel
theorem dX10_copy_8 : decode cX10_copy 8 = .ok (.invokestatic 188, 3) := by decide +kernel
theorem dX10_copy_11 : decode cX10_copy 11 = .ok (.ifCond .ne 6, 3) := by decide +kernel
theorem dX10_copy_14 : decode cX10_copy 14 = .ok (.ldc 97, 2) := by decide +kernel
theorem dX10_copy_16 : decode cX10_copy 16 = .ok (.ireturn, 1) := by decide +kernel
theorem dX10_copy_17 : decode cX10_copy 17 = .ok (.aload_n 0, 1) := by decide +kernel
theorem dX10_copy_18 : decode cX10_copy 18 = .ok (.getfield 61, 3) := by decide +kernel
theorem dX10_copy_21 : decode cX10_copy 21 = .ok (.iload_n 1, 1) := by decide +kernel
theorem dX10_copy_22 : decode cX10_copy 22 = .ok (.iaload, 1) := by decide +kernel
theorem dX10_copy_23 : decode cX10_copy 23 = .ok (.ifCond .lt 12, 3) := by decide +kernel
theorem dX10_copy_26 : decode cX10_copy 26 = .ok (.aload_n 0, 1) := by decide +kernel
theorem dX10_copy_27 : decode cX10_copy 27 = .ok (.getfield 61, 3) := by decide +kernel
theorem dX10_copy_30 : decode cX10_copy 30 = .ok (.iload_n 3, 1) := by decide +kernel
theorem dX10_copy_31 : decode cX10_copy 31 = .ok (.iaload, 1) := by decide +kernel
theorem dX10_copy_32 : decode cX10_copy 32 = .ok (.ifCond .ge 6, 3) := by decide +kernel
theorem dX10_copy_35 : decode cX10_copy 35 = .ok (.ldc 191, 2) := by decide +kernel
theorem dX10_copy_37 : decode cX10_copy 37 = .ok (.ireturn, 1) := by decide +kernel
theorem dX10_copy_38 : decode cX10_copy 38 = .ok (.aload_n 0, 1) := by decide +kernel
theorem dX10_copy_39 : decode cX10_copy 39 = .ok (.getfield 61, 3) := by decide +kernel
theorem dX10_copy_42 : decode cX10_copy 42 = .ok (.iload_n 1, 1) := by decide +kernel
theorem dX10_copy_43 : decode cX10_copy 43 = .ok (.iaload, 1) := by decide +kernel
theorem dX10_copy_44 : decode cX10_copy 44 = .ok (.aload_n 0, 1) := by decide +kernel
theorem dX10_copy_45 : decode cX10_copy 45 = .ok (.getfield 61, 3) := by decide +kernel
theorem dX10_copy_48 : decode cX10_copy 48 = .ok (.iload_n 3, 1) := by decide +kernel
theorem dX10_copy_49 : decode cX10_copy 49 = .ok (.iaload, 1) := by decide +kernel
theorem dX10_copy_50 : decode cX10_copy 50 = .ok (.if_icmp .eq 6, 3) := by decide +kernel
theorem dX10_copy_53 : decode cX10_copy 53 = .ok (.ldc 124, 2) := by decide +kernel
theorem dX10_copy_55 : decode cX10_copy 55 = .ok (.ireturn, 1) := by decide +kernel
theorem dX10_copy_56 : decode cX10_copy 56 = .ok (.iload_n 2, 1) := by decide +kernel
theorem dX10_copy_57 : decode cX10_copy 57 = .ok (.ifCond .lt 40, 3) := by decide +kernel
theorem dX10_copy_60 : decode cX10_copy 60 = .ok (.iload 4, 2) := by decide +kernel
theorem dX10_copy_62 : decode cX10_copy 62 = .ok (.ifCond .lt 35, 3) := by decide +kernel
theorem dX10_copy_65 : decode cX10_copy 65 = .ok (.iload 5, 2) := by decide +kernel
theorem dX10_copy_67 : decode cX10_copy 67 = .ok (.ifCond .lt 30, 3) := by decide +kernel
theorem dX10_copy_70 : decode cX10_copy 70 = .ok (.iload_n 2, 1) := by decide +kernel
theorem dX10_copy_71 : decode cX10_copy 71 = .ok (.aload_n 0, 1) := by decide +kernel
theorem dX10_copy_72 : decode cX10_copy 72 = .ok (.getfield 64, 3) := by decide +kernel
theorem dX10_copy_75 : decode cX10_copy 75 = .ok (.iload_n 1, 1) := by decide +kernel
theorem dX10_copy_76 : decode cX10_copy 76 = .ok (.iaload, 1) := by decide +kernel
theorem dX10_copy_77 : decode cX10_copy 77 = .ok (.iload 5, 2) := by decide +kernel
theorem dX10_copy_79 : decode cX10_copy 79 = .ok (.isub, 1) := by decide +kernel
theorem dX10_copy_80 : decode cX10_copy 80 = .ok (.if_icmp .gt 17, 3) := by decide +kernel
theorem dX10_copy_83 : decode cX10_copy 83 = .ok (.iload 4, 2) := by decide +kernel
theorem dX10_copy_85 : decode cX10_copy 85 = .ok (.aload_n 0, 1) := by decide +kernel
theorem dX10_copy_86 : decode cX10_copy 86 = .ok (.getfield 64, 3) := by decide +kernel
theorem dX10_copy_89 : decode cX10_copy 89 = .ok (.iload_n 3, 1) := by decide +kernel
theorem dX10_copy_90 : decode cX10_copy 90 = .ok (.iaload, 1) := by decide +kernel
theorem dX10_copy_91 : decode cX10_copy 91 = .ok (.iload 5, 2) := by decide +kernel
theorem dX10_copy_93 : decode cX10_copy 93 = .ok (.isub, 1) := by decide +kernel
theorem dX10_copy_94 : decode cX10_copy 94 = .ok (.if_icmp .le 7, 3) := by decide +kernel
theorem dX10_copy_97 : decode cX10_copy 97 = .ok (.ldc_w 267, 3) := by decide +kernel
theorem dX10_copy_100 : decode cX10_copy 100 = .ok (.ireturn, 1) := by decide +kernel
theorem dX10_copy_101 : decode cX10_copy 101 = .ok (.iconst 0, 1) := by decide +kernel
theorem dX10_copy_102 : decode cX10_copy 102 = .ok (.istore 6, 2) := by decide +kernel
theorem dX10_copy_104 : decode cX10_copy 104 = .ok (.iload 6, 2) := by decide +kernel
theorem dX10_copy_106 : decode cX10_copy 106 = .ok (.iload 5, 2) := by decide +kernel
theorem dX10_copy_108 : decode cX10_copy 108 = .ok (.if_icmp .ge 30, 3) := by decide +kernel
theorem dX10_copy_111 : decode cX10_copy 111 = .ok (.aload_n 0, 1) := by decide +kernel
theorem dX10_copy_112 : decode cX10_copy 112 = .ok (.getfield 82, 3) := by decide +kernel
theorem dX10_copy_115 : decode cX10_copy 115 = .ok (.iload 6, 2) := by decide +kernel
theorem dX10_copy_117 : decode cX10_copy 117 = .ok (.aload_n 0, 1) := by decide +kernel
theorem dX10_copy_118 : decode cX10_copy 118 = .ok (.getfield 67, 3) := by decide +kernel
theorem dX10_copy_121 : decode cX10_copy 121 = .ok (.bipush 24, 2) := by decide +kernel
theorem dX10_copy_123 : decode cX10_copy 123 = .ok (.iload_n 1, 1) := by decide +kernel
theorem dX10_copy_124 : decode cX10_copy 124 = .ok (.imul, 1) := by decide +kernel
theorem dX10_copy_125 : decode cX10_copy 125 = .ok (.iload_n 2, 1) := by decide +kernel
theorem dX10_copy_126 : decode cX10_copy 126 = .ok (.iadd, 1) := by decide +kernel
theorem dX10_copy_127 : decode cX10_copy 127 = .ok (.iload 6, 2) := by decide +kernel
theorem dX10_copy_129 : decode cX10_copy 129 = .ok (.iadd, 1) := by decide +kernel
theorem dX10_copy_130 : decode cX10_copy 130 = .ok (.iaload, 1) := by decide +kernel
theorem dX10_copy_131 : decode cX10_copy 131 = .ok (.iastore, 1) := by decide +kernel
theorem dX10_copy_132 : decode cX10_copy 132 = .ok (.iinc 6 1, 3) := by decide +kernel
theorem dX10_copy_135 : decode cX10_copy 135 = .ok (.goto (-31), 3) := by decide +kernel
theorem dX10_copy_138 : decode cX10_copy 138 = .ok (.iconst 0, 1) := by decide +kernel
theorem dX10_copy_139 : decode cX10_copy 139 = .ok (.istore 6, 2) := by decide +kernel
theorem dX10_copy_141 : decode cX10_copy 141 = .ok (.iload 6, 2) := by decide +kernel
theorem dX10_copy_143 : decode cX10_copy 143 = .ok (.iload 5, 2) := by decide +kernel
theorem dX10_copy_145 : decode cX10_copy 145 = .ok (.if_icmp .ge 31, 3) := by decide +kernel
theorem dX10_copy_148 : decode cX10_copy 148 = .ok (.aload_n 0, 1) := by decide +kernel
theorem dX10_copy_149 : decode cX10_copy 149 = .ok (.getfield 67, 3) := by decide +kernel
theorem dX10_copy_152 : decode cX10_copy 152 = .ok (.bipush 24, 2) := by decide +kernel
theorem dX10_copy_154 : decode cX10_copy 154 = .ok (.iload_n 3, 1) := by decide +kernel
theorem dX10_copy_155 : decode cX10_copy 155 = .ok (.imul, 1) := by decide +kernel
theorem dX10_copy_156 : decode cX10_copy 156 = .ok (.iload 4, 2) := by decide +kernel
theorem dX10_copy_158 : decode cX10_copy 158 = .ok (.iadd, 1) := by decide +kernel
theorem dX10_copy_159 : decode cX10_copy 159 = .ok (.iload 6, 2) := by decide +kernel
theorem dX10_copy_161 : decode cX10_copy 161 = .ok (.iadd, 1) := by decide +kernel
theorem dX10_copy_162 : decode cX10_copy 162 = .ok (.aload_n 0, 1) := by decide +kernel
theorem dX10_copy_163 : decode cX10_copy 163 = .ok (.getfield 82, 3) := by decide +kernel
theorem dX10_copy_166 : decode cX10_copy 166 = .ok (.iload 6, 2) := by decide +kernel
theorem dX10_copy_168 : decode cX10_copy 168 = .ok (.iaload, 1) := by decide +kernel
theorem dX10_copy_169 : decode cX10_copy 169 = .ok (.iastore, 1) := by decide +kernel
theorem dX10_copy_170 : decode cX10_copy 170 = .ok (.iinc 6 1, 3) := by decide +kernel
theorem dX10_copy_173 : decode cX10_copy 173 = .ok (.goto (-32), 3) := by decide +kernel
theorem dX10_copy_176 : decode cX10_copy 176 = .ok (.iload 5, 2) := by decide +kernel
theorem dX10_copy_178 : decode cX10_copy 178 = .ok (.ireturn, 1) := by decide +kernel
theorem dX10_lay_0 : decode cX10_lay 0 = .ok (.iload_n 1, 1) := by decide +kernel
theorem dX10_lay_1 : decode cX10_lay 1 = .ok (.invokestatic 270, 3) := by decide +kernel
theorem dX10_lay_4 : decode cX10_lay 4 = .ok (.ifCond .eq 37, 3) := by decide +kernel
theorem dX10_lay_7 : decode cX10_lay 7 = .ok (.iload_n 2, 1) := by decide +kernel
theorem dX10_lay_8 : decode cX10_lay 8 = .ok (.iconst 0, 1) := by decide +kernel
theorem dX10_lay_9 : decode cX10_lay 9 = .ok (.iconst 3, 1) := by decide +kernel
theorem dX10_lay_10 : decode cX10_lay 10 = .ok (.invokestatic 89, 3) := by decide +kernel
theorem dX10_lay_13 : decode cX10_lay 13 = .ok (.ifCond .eq 28, 3) := by decide +kernel
theorem dX10_lay_16 : decode cX10_lay 16 = .ok (.iload_n 2, 1) := by decide +kernel
theorem dX10_lay_17 : decode cX10_lay 17 = .ok (.iconst 1, 1) := by decide +kernel
theorem dX10_lay_18 : decode cX10_lay 18 = .ok (.if_icmp .ne 11, 3) := by decide +kernel
theorem dX10_lay_21 : decode cX10_lay 21 = .ok (.aload_n 0, 1) := by decide +kernel
theorem dX10_lay_22 : decode cX10_lay 22 = .ok (.iload_n 3, 1) := by decide +kernel
theorem dX10_lay_23 : decode cX10_lay 23 = .ok (.invokevirtual 107, 3) := by decide +kernel
theorem dX10_lay_26 : decode cX10_lay 26 = .ok (.ifCond .eq 15, 3) := by decide +kernel
theorem dX10_lay_29 : decode cX10_lay 29 = .ok (.iload_n 2, 1) := by decide +kernel
theorem dX10_lay_30 : decode cX10_lay 30 = .ok (.iconst 2, 1) := by decide +kernel
theorem dX10_lay_31 : decode cX10_lay 31 = .ok (.if_icmp .ne 13, 3) := by decide +kernel
theorem dX10_lay_34 : decode cX10_lay 34 = .ok (.iload_n 3, 1) := by decide +kernel
theorem dX10_lay_35 : decode cX10_lay 35 = .ok (.invokestatic 188, 3) := by decide +kernel
theorem dX10_lay_38 : decode cX10_lay 38 = .ok (.ifCond .ne 6, 3) := by decide +kernel
theorem dX10_lay_41 : decode cX10_lay 41 = .ok (.ldc 97, 2) := by decide +kernel
theorem dX10_lay_43 : decode cX10_lay 43 = .ok (.ireturn, 1) := by decide +kernel
theorem dX10_lay_44 : decode cX10_lay 44 = .ok (.iload_n 2, 1) := by decide +kernel
theorem dX10_lay_45 : decode cX10_lay 45 = .ok (.iconst 2, 1) := by decide +kernel
theorem dX10_lay_46 : decode cX10_lay 46 = .ok (.if_icmp .ne 15, 3) := by decide +kernel
theorem dX10_lay_49 : decode cX10_lay 49 = .ok (.aload_n 0, 1) := by decide +kernel
theorem dX10_lay_50 : decode cX10_lay 50 = .ok (.getfield 61, 3) := by decide +kernel
theorem dX10_lay_53 : decode cX10_lay 53 = .ok (.iload_n 3, 1) := by decide +kernel
theorem dX10_lay_54 : decode cX10_lay 54 = .ok (.iaload, 1) := by decide +kernel
theorem dX10_lay_55 : decode cX10_lay 55 = .ok (.ifCond .ge 6, 3) := by decide +kernel
theorem dX10_lay_58 : decode cX10_lay 58 = .ok (.ldc 191, 2) := by decide +kernel
theorem dX10_lay_60 : decode cX10_lay 60 = .ok (.ireturn, 1) := by decide +kernel
theorem dX10_lay_61 : decode cX10_lay 61 = .ok (.aload_n 0, 1) := by decide +kernel
theorem dX10_lay_62 : decode cX10_lay 62 = .ok (.getfield 70, 3) := by decide +kernel
theorem dX10_lay_65 : decode cX10_lay 65 = .ok (.iload_n 1, 1) := by decide +kernel
theorem dX10_lay_66 : decode cX10_lay 66 = .ok (.iaload, 1) := by decide +kernel
theorem dX10_lay_67 : decode cX10_lay 67 = .ok (.istore 4, 2) := by decide +kernel
theorem dX10_lay_69 : decode cX10_lay 69 = .ok (.aload_n 0, 1) := by decide +kernel
theorem dX10_lay_70 : decode cX10_lay 70 = .ok (.getfield 70, 3) := by decide +kernel
theorem dX10_lay_73 : decode cX10_lay 73 = .ok (.iload_n 1, 1) := by decide +kernel
theorem dX10_lay_74 : decode cX10_lay 74 = .ok (.iload_n 2, 1) := by decide +kernel
theorem dX10_lay_75 : decode cX10_lay 75 = .ok (.iastore, 1) := by decide +kernel
theorem dX10_lay_76 : decode cX10_lay 76 = .ok (.aload_n 0, 1) := by decide +kernel
theorem dX10_lay_77 : decode cX10_lay 77 = .ok (.getfield 73, 3) := by decide +kernel
theorem dX10_lay_80 : decode cX10_lay 80 = .ok (.iload_n 1, 1) := by decide +kernel
theorem dX10_lay_81 : decode cX10_lay 81 = .ok (.iload_n 2, 1) := by decide +kernel
theorem dX10_lay_82 : decode cX10_lay 82 = .ok (.iconst 1, 1) := by decide +kernel
theorem dX10_lay_83 : decode cX10_lay 83 = .ok (.if_icmp .ne 12, 3) := by decide +kernel
theorem dX10_lay_86 : decode cX10_lay 86 = .ok (.aload_n 0, 1) := by decide +kernel
theorem dX10_lay_87 : decode cX10_lay 87 = .ok (.iload_n 3, 1) := by decide +kernel
theorem dX10_lay_88 : decode cX10_lay 88 = .ok (.iconst 0, 1) := by decide +kernel
theorem dX10_lay_89 : decode cX10_lay 89 = .ok (.invokevirtual 103, 3) := by decide +kernel
theorem dX10_lay_92 : decode cX10_lay 92 = .ok (.goto 18, 3) := by decide +kernel
theorem dX10_lay_95 : decode cX10_lay 95 = .ok (.iload_n 2, 1) := by decide +kernel
theorem dX10_lay_96 : decode cX10_lay 96 = .ok (.iconst 2, 1) := by decide +kernel
theorem dX10_lay_97 : decode cX10_lay 97 = .ok (.if_icmp .ne 12, 3) := by decide +kernel
theorem dX10_lay_100 : decode cX10_lay 100 = .ok (.aload_n 0, 1) := by decide +kernel
theorem dX10_lay_101 : decode cX10_lay 101 = .ok (.getfield 64, 3) := by decide +kernel
theorem dX10_lay_104 : decode cX10_lay 104 = .ok (.iload_n 3, 1) := by decide +kernel
theorem dX10_lay_105 : decode cX10_lay 105 = .ok (.iaload, 1) := by decide +kernel
theorem dX10_lay_106 : decode cX10_lay 106 = .ok (.goto 4, 3) := by decide +kernel
theorem dX10_lay_109 : decode cX10_lay 109 = .ok (.iload_n 3, 1) := by decide +kernel
theorem dX10_lay_110 : decode cX10_lay 110 = .ok (.iastore, 1) := by decide +kernel
theorem dX10_lay_111 : decode cX10_lay 111 = .ok (.aload_n 0, 1) := by decide +kernel
theorem dX10_lay_112 : decode cX10_lay 112 = .ok (.getfield 76, 3) := by decide +kernel
theorem dX10_lay_115 : decode cX10_lay 115 = .ok (.iload_n 1, 1) := by decide +kernel
theorem dX10_lay_116 : decode cX10_lay 116 = .ok (.iload_n 2, 1) := by decide +kernel
theorem dX10_lay_117 : decode cX10_lay 117 = .ok (.iconst 1, 1) := by decide +kernel
theorem dX10_lay_118 : decode cX10_lay 118 = .ok (.if_icmp .ne 11, 3) := by decide +kernel
theorem dX10_lay_121 : decode cX10_lay 121 = .ok (.aload_n 0, 1) := by decide +kernel
theorem dX10_lay_122 : decode cX10_lay 122 = .ok (.iload_n 3, 1) := by decide +kernel
theorem dX10_lay_123 : decode cX10_lay 123 = .ok (.invokevirtual 110, 3) := by decide +kernel
theorem dX10_lay_126 : decode cX10_lay 126 = .ok (.goto 4, 3) := by decide +kernel
theorem dX10_lay_129 : decode cX10_lay 129 = .ok (.iconst 0, 1) := by decide +kernel
theorem dX10_lay_130 : decode cX10_lay 130 = .ok (.iastore, 1) := by decide +kernel
theorem dX10_lay_131 : decode cX10_lay 131 = .ok (.iconst 0, 1) := by decide +kernel
theorem dX10_lay_132 : decode cX10_lay 132 = .ok (.istore 5, 2) := by decide +kernel
theorem dX10_lay_134 : decode cX10_lay 134 = .ok (.iload 5, 2) := by decide +kernel
theorem dX10_lay_136 : decode cX10_lay 136 = .ok (.bipush 24, 2) := by decide +kernel
theorem dX10_lay_138 : decode cX10_lay 138 = .ok (.if_icmp .ge 38, 3) := by decide +kernel
theorem dX10_lay_141 : decode cX10_lay 141 = .ok (.iload_n 2, 1) := by decide +kernel
theorem dX10_lay_142 : decode cX10_lay 142 = .ok (.iconst 2, 1) := by decide +kernel
theorem dX10_lay_143 : decode cX10_lay 143 = .ok (.if_icmp .ne 33, 3) := by decide +kernel
theorem dX10_lay_146 : decode cX10_lay 146 = .ok (.aload_n 0, 1) := by decide +kernel
theorem dX10_lay_147 : decode cX10_lay 147 = .ok (.getfield 79, 3) := by decide +kernel
theorem dX10_lay_150 : decode cX10_lay 150 = .ok (.bipush 24, 2) := by decide +kernel
theorem dX10_lay_152 : decode cX10_lay 152 = .ok (.iload_n 1, 1) := by decide +kernel
theorem dX10_lay_153 : decode cX10_lay 153 = .ok (.imul, 1) := by decide +kernel
theorem dX10_lay_154 : decode cX10_lay 154 = .ok (.iload 5, 2) := by decide +kernel
theorem dX10_lay_156 : decode cX10_lay 156 = .ok (.iadd, 1) := by decide +kernel
theorem dX10_lay_157 : decode cX10_lay 157 = .ok (.aload_n 0, 1) := by decide +kernel
theorem dX10_lay_158 : decode cX10_lay 158 = .ok (.getfield 67, 3) := by decide +kernel
theorem dX10_lay_161 : decode cX10_lay 161 = .ok (.bipush 24, 2) := by decide +kernel
theorem dX10_lay_163 : decode cX10_lay 163 = .ok (.iload_n 3, 1) := by decide +kernel
theorem dX10_lay_164 : decode cX10_lay 164 = .ok (.imul, 1) := by decide +kernel
theorem dX10_lay_165 : decode cX10_lay 165 = .ok (.iload 5, 2) := by decide +kernel
theorem dX10_lay_167 : decode cX10_lay 167 = .ok (.iadd, 1) := by decide +kernel
theorem dX10_lay_168 : decode cX10_lay 168 = .ok (.iaload, 1) := by decide +kernel
theorem dX10_lay_169 : decode cX10_lay 169 = .ok (.iastore, 1) := by decide +kernel
theorem dX10_lay_170 : decode cX10_lay 170 = .ok (.iinc 5 1, 3) := by decide +kernel
theorem dX10_lay_173 : decode cX10_lay 173 = .ok (.goto (-39), 3) := by decide +kernel
theorem dX10_lay_176 : decode cX10_lay 176 = .ok (.iload 4, 2) := by decide +kernel
theorem dX10_lay_178 : decode cX10_lay 178 = .ok (.ireturn, 1) := by decide +kernel
theorem dX10_ask_0 : decode cX10_ask 0 = .ok (.iload_n 1, 1) := by decide +kernel
theorem dX10_ask_1 : decode cX10_ask 1 = .ok (.invokestatic 270, 3) := by decide +kernel
theorem dX10_ask_4 : decode cX10_ask 4 = .ok (.ifCond .eq 12, 3) := by decide +kernel
theorem dX10_ask_7 : decode cX10_ask 7 = .ok (.iload_n 2, 1) := by decide +kernel
theorem dX10_ask_8 : decode cX10_ask 8 = .ok (.iconst 0, 1) := by decide +kernel
theorem dX10_ask_9 : decode cX10_ask 9 = .ok (.iconst 5, 1) := by decide +kernel
theorem dX10_ask_10 : decode cX10_ask 10 = .ok (.invokestatic 89, 3) := by decide +kernel
theorem dX10_ask_13 : decode cX10_ask 13 = .ok (.ifCond .ne 6, 3) := by decide +kernel
theorem dX10_ask_16 : decode cX10_ask 16 = .ok (.ldc 97, 2) := by decide +kernel
theorem dX10_ask_18 : decode cX10_ask 18 = .ok (.ireturn, 1) := by decide +kernel
theorem dX10_ask_19 : decode cX10_ask 19 = .ok (.aload_n 0, 1) := by decide +kernel
theorem dX10_ask_20 : decode cX10_ask 20 = .ok (.getfield 70, 3) := by decide +kernel
theorem dX10_ask_23 : decode cX10_ask 23 = .ok (.iload_n 1, 1) := by decide +kernel
theorem dX10_ask_24 : decode cX10_ask 24 = .ok (.iaload, 1) := by decide +kernel
theorem dX10_ask_25 : decode cX10_ask 25 = .ok (.ifCond .ne 6, 3) := by decide +kernel
theorem dX10_ask_28 : decode cX10_ask 28 = .ok (.ldc 191, 2) := by decide +kernel
theorem dX10_ask_30 : decode cX10_ask 30 = .ok (.ireturn, 1) := by decide +kernel
theorem dX10_ask_31 : decode cX10_ask 31 = .ok (.aload_n 0, 1) := by decide +kernel
theorem dX10_ask_32 : decode cX10_ask 32 = .ok (.getfield 70, 3) := by decide +kernel
theorem dX10_ask_35 : decode cX10_ask 35 = .ok (.iload_n 1, 1) := by decide +kernel
theorem dX10_ask_36 : decode cX10_ask 36 = .ok (.iaload, 1) := by decide +kernel
theorem dX10_ask_37 : decode cX10_ask 37 = .ok (.iconst 1, 1) := by decide +kernel
theorem dX10_ask_38 : decode cX10_ask 38 = .ok (.if_icmp .ne 25, 3) := by decide +kernel
theorem dX10_ask_41 : decode cX10_ask 41 = .ok (.aload_n 0, 1) := by decide +kernel
theorem dX10_ask_42 : decode cX10_ask 42 = .ok (.getfield 73, 3) := by decide +kernel
theorem dX10_ask_45 : decode cX10_ask 45 = .ok (.iload_n 1, 1) := by decide +kernel
theorem dX10_ask_46 : decode cX10_ask 46 = .ok (.iaload, 1) := by decide +kernel
theorem dX10_ask_47 : decode cX10_ask 47 = .ok (.iload_n 2, 1) := by decide +kernel
theorem dX10_ask_48 : decode cX10_ask 48 = .ok (.invokestatic 120, 3) := by decide +kernel
theorem dX10_ask_51 : decode cX10_ask 51 = .ok (.ifCond .eq 12, 3) := by decide +kernel
theorem dX10_ask_54 : decode cX10_ask 54 = .ok (.aload_n 0, 1) := by decide +kernel
theorem dX10_ask_55 : decode cX10_ask 55 = .ok (.getfield 76, 3) := by decide +kernel
theorem dX10_ask_58 : decode cX10_ask 58 = .ok (.iload_n 1, 1) := by decide +kernel
theorem dX10_ask_59 : decode cX10_ask 59 = .ok (.iaload, 1) := by decide +kernel
theorem dX10_ask_60 : decode cX10_ask 60 = .ok (.goto 5, 3) := by decide +kernel
theorem dX10_ask_63 : decode cX10_ask 63 = .ok (.ldc 124, 2) := by decide +kernel
theorem dX10_ask_65 : decode cX10_ask 65 = .ok (.ireturn, 1) := by decide +kernel
theorem dX10_item_0 : decode cX10_item 0 = .ok (.iload_n 1, 1) := by decide +kernel
theorem dX10_item_1 : decode cX10_item 1 = .ok (.invokestatic 270, 3) := by decide +kernel
theorem dX10_item_4 : decode cX10_item 4 = .ok (.ifCond .ne 6, 3) := by decide +kernel
theorem dX10_item_7 : decode cX10_item 7 = .ok (.ldc 97, 2) := by decide +kernel
theorem dX10_item_9 : decode cX10_item 9 = .ok (.ireturn, 1) := by decide +kernel
theorem dX10_item_10 : decode cX10_item 10 = .ok (.aload_n 0, 1) := by decide +kernel
theorem dX10_item_11 : decode cX10_item 11 = .ok (.getfield 70, 3) := by decide +kernel
theorem dX10_item_14 : decode cX10_item 14 = .ok (.iload_n 1, 1) := by decide +kernel
theorem dX10_item_15 : decode cX10_item 15 = .ok (.iaload, 1) := by decide +kernel
theorem dX10_item_16 : decode cX10_item 16 = .ok (.ifCond .ne 6, 3) := by decide +kernel
theorem dX10_item_19 : decode cX10_item 19 = .ok (.ldc 191, 2) := by decide +kernel
theorem dX10_item_21 : decode cX10_item 21 = .ok (.ireturn, 1) := by decide +kernel
theorem dX10_item_22 : decode cX10_item 22 = .ok (.aload_n 0, 1) := by decide +kernel
theorem dX10_item_23 : decode cX10_item 23 = .ok (.getfield 70, 3) := by decide +kernel
theorem dX10_item_26 : decode cX10_item 26 = .ok (.iload_n 1, 1) := by decide +kernel
theorem dX10_item_27 : decode cX10_item 27 = .ok (.iaload, 1) := by decide +kernel
theorem dX10_item_28 : decode cX10_item 28 = .ok (.iconst 2, 1) := by decide +kernel
theorem dX10_item_29 : decode cX10_item 29 = .ok (.if_icmp .eq 6, 3) := by decide +kernel
theorem dX10_item_32 : decode cX10_item 32 = .ok (.ldc 124, 2) := by decide +kernel
theorem dX10_item_34 : decode cX10_item 34 = .ok (.ireturn, 1) := by decide +kernel
theorem dX10_item_35 : decode cX10_item 35 = .ok (.iload_n 2, 1) := by decide +kernel
theorem dX10_item_36 : decode cX10_item 36 = .ok (.iconst 0, 1) := by decide +kernel
theorem dX10_item_37 : decode cX10_item 37 = .ok (.aload_n 0, 1) := by decide +kernel
theorem dX10_item_38 : decode cX10_item 38 = .ok (.getfield 73, 3) := by decide +kernel
theorem dX10_item_41 : decode cX10_item 41 = .ok (.iload_n 1, 1) := by decide +kernel
theorem dX10_item_42 : decode cX10_item 42 = .ok (.iaload, 1) := by decide +kernel
theorem dX10_item_43 : decode cX10_item 43 = .ok (.iconst 1, 1) := by decide +kernel
theorem dX10_item_44 : decode cX10_item 44 = .ok (.isub, 1) := by decide +kernel
theorem dX10_item_45 : decode cX10_item 45 = .ok (.invokestatic 89, 3) := by decide +kernel
theorem dX10_item_48 : decode cX10_item 48 = .ok (.ifCond .ne 7, 3) := by decide +kernel
theorem dX10_item_51 : decode cX10_item 51 = .ok (.ldc_w 267, 3) := by decide +kernel
theorem dX10_item_54 : decode cX10_item 54 = .ok (.ireturn, 1) := by decide +kernel
theorem dX10_item_55 : decode cX10_item 55 = .ok (.aload_n 0, 1) := by decide +kernel
theorem dX10_item_56 : decode cX10_item 56 = .ok (.getfield 79, 3) := by decide +kernel
theorem dX10_item_59 : decode cX10_item 59 = .ok (.bipush 24, 2) := by decide +kernel
theorem dX10_item_61 : decode cX10_item 61 = .ok (.iload_n 1, 1) := by decide +kernel
theorem dX10_item_62 : decode cX10_item 62 = .ok (.imul, 1) := by decide +kernel
theorem dX10_item_63 : decode cX10_item 63 = .ok (.iload_n 2, 1) := by decide +kernel
theorem dX10_item_64 : decode cX10_item 64 = .ok (.iadd, 1) := by decide +kernel
theorem dX10_item_65 : decode cX10_item 65 = .ok (.iaload, 1) := by decide +kernel
theorem dX10_item_66 : decode cX10_item 66 = .ok (.istore_n 3, 1) := by decide +kernel
theorem dX10_item_67 : decode cX10_item 67 = .ok (.iload_n 3, 1) := by decide +kernel
theorem dX10_item_68 : decode cX10_item 68 = .ok (.ldc 88, 2) := by decide +kernel
theorem dX10_item_70 : decode cX10_item 70 = .ok (.if_icmp .ne 8, 3) := by decide +kernel
theorem dX10_item_73 : decode cX10_item 73 = .ok (.ldc 124, 2) := by decide +kernel
theorem dX10_item_75 : decode cX10_item 75 = .ok (.goto 4, 3) := by decide +kernel
theorem dX10_item_78 : decode cX10_item 78 = .ok (.iload_n 3, 1) := by decide +kernel
theorem dX10_item_79 : decode cX10_item 79 = .ok (.ireturn, 1) := by decide +kernel
theorem dX10_rest_0 : decode cX10_rest 0 = .ok (.iload_n 1, 1) := by decide +kernel
theorem dX10_rest_1 : decode cX10_rest 1 = .ok (.invokestatic 270, 3) := by decide +kernel
theorem dX10_rest_4 : decode cX10_rest 4 = .ok (.ifCond .ne 6, 3) := by decide +kernel
theorem dX10_rest_7 : decode cX10_rest 7 = .ok (.ldc 97, 2) := by decide +kernel
theorem dX10_rest_9 : decode cX10_rest 9 = .ok (.ireturn, 1) := by decide +kernel
theorem dX10_rest_10 : decode cX10_rest 10 = .ok (.aload_n 0, 1) := by decide +kernel
theorem dX10_rest_11 : decode cX10_rest 11 = .ok (.getfield 70, 3) := by decide +kernel
theorem dX10_rest_14 : decode cX10_rest 14 = .ok (.iload_n 1, 1) := by decide +kernel
theorem dX10_rest_15 : decode cX10_rest 15 = .ok (.iaload, 1) := by decide +kernel
theorem dX10_rest_16 : decode cX10_rest 16 = .ok (.ifCond .ne 6, 3) := by decide +kernel
theorem dX10_rest_19 : decode cX10_rest 19 = .ok (.ldc 191, 2) := by decide +kernel
theorem dX10_rest_21 : decode cX10_rest 21 = .ok (.ireturn, 1) := by decide +kernel
theorem dX10_rest_22 : decode cX10_rest 22 = .ok (.aload_n 0, 1) := by decide +kernel
theorem dX10_rest_23 : decode cX10_rest 23 = .ok (.getfield 70, 3) := by decide +kernel
theorem dX10_rest_26 : decode cX10_rest 26 = .ok (.iload_n 1, 1) := by decide +kernel
theorem dX10_rest_27 : decode cX10_rest 27 = .ok (.iaload, 1) := by decide +kernel
theorem dX10_rest_28 : decode cX10_rest 28 = .ok (.iconst 3, 1) := by decide +kernel
theorem dX10_rest_29 : decode cX10_rest 29 = .ok (.if_icmp .eq 6, 3) := by decide +kernel
theorem dX10_rest_32 : decode cX10_rest 32 = .ok (.ldc 124, 2) := by decide +kernel
theorem dX10_rest_34 : decode cX10_rest 34 = .ok (.ireturn, 1) := by decide +kernel
theorem dX10_rest_35 : decode cX10_rest 35 = .ok (.iload_n 2, 1) := by decide +kernel
theorem dX10_rest_36 : decode cX10_rest 36 = .ok (.ifCond .ne 9, 3) := by decide +kernel
theorem dX10_rest_39 : decode cX10_rest 39 = .ok (.ldc_w 273, 3) := by decide +kernel
theorem dX10_rest_42 : decode cX10_rest 42 = .ok (.goto 20, 3) := by decide +kernel
theorem dX10_rest_45 : decode cX10_rest 45 = .ok (.iload_n 2, 1) := by decide +kernel
theorem dX10_rest_46 : decode cX10_rest 46 = .ok (.iconst (-1), 1) := by decide +kernel
theorem dX10_rest_47 : decode cX10_rest 47 = .ok (.if_icmp .ne 7, 3) := by decide +kernel
theorem dX10_rest_50 : decode cX10_rest 50 = .ok (.iconst 0, 1) := by decide +kernel
theorem dX10_rest_51 : decode cX10_rest 51 = .ok (.goto 11, 3) := by decide +kernel
theorem dX10_rest_54 : decode cX10_rest 54 = .ok (.aload_n 0, 1) := by decide +kernel
theorem dX10_rest_55 : decode cX10_rest 55 = .ok (.getfield 73, 3) := by decide +kernel
theorem dX10_rest_58 : decode cX10_rest 58 = .ok (.iload_n 1, 1) := by decide +kernel
theorem dX10_rest_59 : decode cX10_rest 59 = .ok (.iaload, 1) := by decide +kernel
theorem dX10_rest_60 : decode cX10_rest 60 = .ok (.iload_n 2, 1) := by decide +kernel
theorem dX10_rest_61 : decode cX10_rest 61 = .ok (.irem, 1) := by decide +kernel
theorem dX10_rest_62 : decode cX10_rest 62 = .ok (.ireturn, 1) := by decide +kernel
theorem dX10_tell_0 : decode cX10_tell 0 = .ok (.aload_n 0, 1) := by decide +kernel
theorem dX10_tell_1 : decode cX10_tell 1 = .ok (.getfield 274, 3) := by decide +kernel
theorem dX10_tell_4 : decode cX10_tell 4 = .ok (.bipush 60, 2) := by decide +kernel
theorem dX10_tell_6 : decode cX10_tell 6 = .ok (.if_icmp .ne 6, 3) := by decide +kernel
theorem dX10_tell_9 : decode cX10_tell 9 = .ok (.ldc 98, 2) := by decide +kernel
theorem dX10_tell_11 : decode cX10_tell 11 = .ok (.ireturn, 1) := by decide +kernel
theorem dX10_tell_12 : decode cX10_tell 12 = .ok (.aload_n 0, 1) := by decide +kernel
theorem dX10_tell_13 : decode cX10_tell 13 = .ok (.getfield 85, 3) := by decide +kernel
theorem dX10_tell_16 : decode cX10_tell 16 = .ok (.aload_n 0, 1) := by decide +kernel
theorem dX10_tell_17 : decode cX10_tell 17 = .ok (.getfield 274, 3) := by decide +kernel
theorem dX10_tell_20 : decode cX10_tell 20 = .ok (.iload_n 1, 1) := by decide +kernel
theorem dX10_tell_21 : decode cX10_tell 21 = .ok (.iastore, 1) := by decide +kernel
theorem dX10_tell_22 : decode cX10_tell 22 = .ok (.aload_n 0, 1) := by decide +kernel
theorem dX10_tell_23 : decode cX10_tell 23 = .ok (.dup, 1) := by decide +kernel
theorem dX10_tell_24 : decode cX10_tell 24 = .ok (.getfield 274, 3) := by decide +kernel
theorem dX10_tell_27 : decode cX10_tell 27 = .ok (.iconst 1, 1) := by decide +kernel
theorem dX10_tell_28 : decode cX10_tell 28 = .ok (.iadd, 1) := by decide +kernel
theorem dX10_tell_29 : decode cX10_tell 29 = .ok (.putfield 274, 3) := by decide +kernel
theorem dX10_tell_32 : decode cX10_tell 32 = .ok (.aload_n 0, 1) := by decide +kernel
theorem dX10_tell_33 : decode cX10_tell 33 = .ok (.getfield 274, 3) := by decide +kernel
theorem dX10_tell_36 : decode cX10_tell 36 = .ok (.ireturn, 1) := by decide +kernel
theorem dX10_check_0 : decode cX10_check 0 = .ok (.aload_n 0, 1) := by decide +kernel
theorem dX10_check_1 : decode cX10_check 1 = .ok (.getfield 274, 3) := by decide +kernel
theorem dX10_check_4 : decode cX10_check 4 = .ok (.istore_n 2, 1) := by decide +kernel
theorem dX10_check_5 : decode cX10_check 5 = .ok (.aload_n 0, 1) := by decide +kernel
theorem dX10_check_6 : decode cX10_check 6 = .ok (.iconst 0, 1) := by decide +kernel
theorem dX10_check_7 : decode cX10_check 7 = .ok (.putfield 274, 3) := by decide +kernel
theorem dX10_check_10 : decode cX10_check 10 = .ok (.iload_n 1, 1) := by decide +kernel
theorem dX10_check_11 : decode cX10_check 11 = .ok (.iconst 1, 1) := by decide +kernel
theorem dX10_check_12 : decode cX10_check 12 = .ok (.bipush 30, 2) := by decide +kernel
theorem dX10_check_14 : decode cX10_check 14 = .ok (.invokestatic 89, 3) := by decide +kernel
theorem dX10_check_17 : decode cX10_check 17 = .ok (.ifCond .ne 6, 3) := by decide +kernel
theorem dX10_check_20 : decode cX10_check 20 = .ok (.ldc 97, 2) := by decide +kernel
theorem dX10_check_22 : decode cX10_check 22 = .ok (.ireturn, 1) := by decide +kernel
theorem dX10_check_23 : decode cX10_check 23 = .ok (.aload_n 0, 1) := by decide +kernel
theorem dX10_check_24 : decode cX10_check 24 = .ok (.getfield 277, 3) := by decide +kernel
theorem dX10_check_27 : decode cX10_check 27 = .ok (.ifCond .ne 7, 3) := by decide +kernel
theorem dX10_check_30 : decode cX10_check 30 = .ok (.ldc_w 273, 3) := by decide +kernel
theorem dX10_check_33 : decode cX10_check 33 = .ok (.ireturn, 1) := by decide +kernel
theorem dX10_check_34 : decode cX10_check 34 = .ok (.aload_n 0, 1) := by decide +kernel
theorem dX10_check_35 : decode cX10_check 35 = .ok (.getfield 9, 3) := by decide +kernel
theorem dX10_check_38 : decode cX10_check 38 = .ok (.aload_n 0, 1) := by decide +kernel
theorem dX10_check_39 : decode cX10_check 39 = .ok (.getfield 16, 3) := by decide +kernel
theorem dX10_check_42 : decode cX10_check 42 = .ok (.invokestatic 281, 3) := by decide +kernel
theorem dX10_check_45 : decode cX10_check 45 = .ok (.aload_n 0, 1) := by decide +kernel
theorem dX10_check_46 : decode cX10_check 46 = .ok (.getfield 13, 3) := by decide +kernel
theorem dX10_check_49 : decode cX10_check 49 = .ok (.aload_n 0, 1) := by decide +kernel
theorem dX10_check_50 : decode cX10_check 50 = .ok (.getfield 9, 3) := by decide +kernel
theorem dX10_check_53 : decode cX10_check 53 = .ok (.invokestatic 281, 3) := by decide +kernel
theorem dX10_check_56 : decode cX10_check 56 = .ok (.iconst 2, 1) := by decide +kernel
theorem dX10_check_57 : decode cX10_check 57 = .ok (.sipush 999, 3) := by decide +kernel
theorem dX10_check_60 : decode cX10_check 60 = .ok (.aload_n 0, 1) := by decide +kernel
theorem dX10_check_61 : decode cX10_check 61 = .ok (.getfield 9, 3) := by decide +kernel
theorem dX10_check_64 : decode cX10_check 64 = .ok (.iconst 3, 1) := by decide +kernel
theorem dX10_check_65 : decode cX10_check 65 = .ok (.iaload, 1) := by decide +kernel
theorem dX10_check_66 : decode cX10_check 66 = .ok (.isub, 1) := by decide +kernel
theorem dX10_check_67 : decode cX10_check 67 = .ok (.iconst 0, 1) := by decide +kernel
theorem dX10_check_68 : decode cX10_check 68 = .ok (.iload_n 1, 1) := by decide +kernel
theorem dX10_check_69 : decode cX10_check 69 = .ok (.invokestatic 140, 3) := by decide +kernel
theorem dX10_check_72 : decode cX10_check 72 = .ok (.imul, 1) := by decide +kernel
theorem dX10_check_73 : decode cX10_check 73 = .ok (.istore_n 3, 1) := by decide +kernel
theorem dX10_check_74 : decode cX10_check 74 = .ok (.iconst 0, 1) := by decide +kernel
theorem dX10_check_75 : decode cX10_check 75 = .ok (.istore 4, 2) := by decide +kernel
theorem dX10_check_77 : decode cX10_check 77 = .ok (.iconst 0, 1) := by decide +kernel
theorem dX10_check_78 : decode cX10_check 78 = .ok (.istore 5, 2) := by decide +kernel
theorem dX10_check_80 : decode cX10_check 80 = .ok (.iconst 2, 1) := by decide +kernel
theorem dX10_check_81 : decode cX10_check 81 = .ok (.iload 5, 2) := by decide +kernel
theorem dX10_check_83 : decode cX10_check 83 = .ok (.imul, 1) := by decide +kernel
theorem dX10_check_84 : decode cX10_check 84 = .ok (.iload_n 3, 1) := by decide +kernel
theorem dX10_check_85 : decode cX10_check 85 = .ok (.if_icmp .ge 95, 3) := by decide +kernel
theorem dX10_check_88 : decode cX10_check 88 = .ok (.iload 4, 2) := by decide +kernel
theorem dX10_check_90 : decode cX10_check 90 = .ok (.iconst 2, 1) := by decide +kernel
theorem dX10_check_91 : decode cX10_check 91 = .ok (.iload 5, 2) := by decide +kernel
theorem dX10_check_93 : decode cX10_check 93 = .ok (.imul, 1) := by decide +kernel
theorem dX10_check_94 : decode cX10_check 94 = .ok (.if_icmp .ne 86, 3) := by decide +kernel
theorem dX10_check_97 : decode cX10_check 97 = .ok (.aload_n 0, 1) := by decide +kernel
theorem dX10_check_98 : decode cX10_check 98 = .ok (.invokevirtual 173, 3) := by decide +kernel
theorem dX10_check_101 : decode cX10_check 101 = .ok (.istore 6, 2) := by decide +kernel
theorem dX10_check_103 : decode cX10_check 103 = .ok (.iload 4, 2) := by decide +kernel
theorem dX10_check_105 : decode cX10_check 105 = .ok (.iload 4, 2) := by decide +kernel
theorem dX10_check_107 : decode cX10_check 107 = .ok (.iload_n 2, 1) := by decide +kernel
theorem dX10_check_108 : decode cX10_check 108 = .ok (.if_icmp .ge 21, 3) := by decide +kernel
theorem dX10_check_111 : decode cX10_check 111 = .ok (.aload_n 0, 1) := by decide +kernel
theorem dX10_check_112 : decode cX10_check 112 = .ok (.getfield 85, 3) := by decide +kernel
theorem dX10_check_115 : decode cX10_check 115 = .ok (.iload 4, 2) := by decide +kernel
theorem dX10_check_117 : decode cX10_check 117 = .ok (.iaload, 1) := by decide +kernel
theorem dX10_check_118 : decode cX10_check 118 = .ok (.aload_n 0, 1) := by decide +kernel
theorem dX10_check_119 : decode cX10_check 119 = .ok (.invokevirtual 170, 3) := by decide +kernel
theorem dX10_check_122 : decode cX10_check 122 = .ok (.if_icmp .ne 7, 3) := by decide +kernel
theorem dX10_check_125 : decode cX10_check 125 = .ok (.iconst 1, 1) := by decide +kernel
theorem dX10_check_126 : decode cX10_check 126 = .ok (.goto 4, 3) := by decide +kernel
theorem dX10_check_129 : decode cX10_check 129 = .ok (.iconst 0, 1) := by decide +kernel
theorem dX10_check_130 : decode cX10_check 130 = .ok (.iadd, 1) := by decide +kernel
theorem dX10_check_131 : decode cX10_check 131 = .ok (.istore 4, 2) := by decide +kernel
theorem dX10_check_133 : decode cX10_check 133 = .ok (.iload 4, 2) := by decide +kernel
theorem dX10_check_135 : decode cX10_check 135 = .ok (.iload 4, 2) := by decide +kernel
theorem dX10_check_137 : decode cX10_check 137 = .ok (.iconst 2, 1) := by decide +kernel
theorem dX10_check_138 : decode cX10_check 138 = .ok (.iload 5, 2) := by decide +kernel
theorem dX10_check_140 : decode cX10_check 140 = .ok (.imul, 1) := by decide +kernel
theorem dX10_check_141 : decode cX10_check 141 = .ok (.iconst 1, 1) := by decide +kernel
theorem dX10_check_142 : decode cX10_check 142 = .ok (.iadd, 1) := by decide +kernel
theorem dX10_check_143 : decode cX10_check 143 = .ok (.if_icmp .ne 27, 3) := by decide +kernel
theorem dX10_check_146 : decode cX10_check 146 = .ok (.iload 4, 2) := by decide +kernel
theorem dX10_check_148 : decode cX10_check 148 = .ok (.iload_n 2, 1) := by decide +kernel
theorem dX10_check_149 : decode cX10_check 149 = .ok (.if_icmp .ge 21, 3) := by decide +kernel
theorem dX10_check_152 : decode cX10_check 152 = .ok (.aload_n 0, 1) := by decide +kernel
theorem dX10_check_153 : decode cX10_check 153 = .ok (.getfield 85, 3) := by decide +kernel
theorem dX10_check_156 : decode cX10_check 156 = .ok (.iload 4, 2) := by decide +kernel
theorem dX10_check_158 : decode cX10_check 158 = .ok (.iaload, 1) := by decide +kernel
theorem dX10_check_159 : decode cX10_check 159 = .ok (.aload_n 0, 1) := by decide +kernel
theorem dX10_check_160 : decode cX10_check 160 = .ok (.invokevirtual 185, 3) := by decide +kernel
theorem dX10_check_163 : decode cX10_check 163 = .ok (.if_icmp .ne 7, 3) := by decide +kernel
theorem dX10_check_166 : decode cX10_check 166 = .ok (.iconst 1, 1) := by decide +kernel
theorem dX10_check_167 : decode cX10_check 167 = .ok (.goto 4, 3) := by decide +kernel
theorem dX10_check_170 : decode cX10_check 170 = .ok (.iconst 0, 1) := by decide +kernel
theorem dX10_check_171 : decode cX10_check 171 = .ok (.iadd, 1) := by decide +kernel
theorem dX10_check_172 : decode cX10_check 172 = .ok (.istore 4, 2) := by decide +kernel
theorem dX10_check_174 : decode cX10_check 174 = .ok (.iinc 5 1, 3) := by decide +kernel
theorem dX10_check_177 : decode cX10_check 177 = .ok (.goto (-97), 3) := by decide +kernel
theorem dX10_check_180 : decode cX10_check 180 = .ok (.aload_n 0, 1) := by decide +kernel
theorem dX10_check_181 : decode cX10_check 181 = .ok (.getfield 16, 3) := by decide +kernel
theorem dX10_check_184 : decode cX10_check 184 = .ok (.aload_n 0, 1) := by decide +kernel
theorem dX10_check_185 : decode cX10_check 185 = .ok (.getfield 9, 3) := by decide +kernel
theorem dX10_check_188 : decode cX10_check 188 = .ok (.invokestatic 281, 3) := by decide +kernel
theorem dX10_check_191 : decode cX10_check 191 = .ok (.iload 4, 2) := by decide +kernel
theorem dX10_check_193 : decode cX10_check 193 = .ok (.iload_n 2, 1) := by decide +kernel
theorem dX10_check_194 : decode cX10_check 194 = .ok (.if_icmp .ne 13, 3) := by decide +kernel
theorem dX10_check_197 : decode cX10_check 197 = .ok (.iload 4, 2) := by decide +kernel
theorem dX10_check_199 : decode cX10_check 199 = .ok (.iload_n 3, 1) := by decide +kernel
theorem dX10_check_200 : decode cX10_check 200 = .ok (.if_icmp .ne 7, 3) := by decide +kernel
theorem dX10_check_203 : decode cX10_check 203 = .ok (.iconst 0, 1) := by decide +kernel
theorem dX10_check_204 : decode cX10_check 204 = .ok (.goto 7, 3) := by decide +kernel
theorem dX10_check_207 : decode cX10_check 207 = .ok (.iconst 1, 1) := by decide +kernel
theorem dX10_check_208 : decode cX10_check 208 = .ok (.iload 4, 2) := by decide +kernel
theorem dX10_check_210 : decode cX10_check 210 = .ok (.iadd, 1) := by decide +kernel
theorem dX10_check_211 : decode cX10_check 211 = .ok (.ireturn, 1) := by decide +kernel
theorem dX10_keep_0 : decode cX10_keep 0 = .ok (.aload_n 0, 1) := by decide +kernel
theorem dX10_keep_1 : decode cX10_keep 1 = .ok (.getfield 9, 3) := by decide +kernel
theorem dX10_keep_4 : decode cX10_keep 4 = .ok (.aload_n 0, 1) := by decide +kernel
theorem dX10_keep_5 : decode cX10_keep 5 = .ok (.getfield 13, 3) := by decide +kernel
theorem dX10_keep_8 : decode cX10_keep 8 = .ok (.invokestatic 281, 3) := by decide +kernel
theorem dX10_keep_11 : decode cX10_keep 11 = .ok (.aload_n 0, 1) := by decide +kernel
theorem dX10_keep_12 : decode cX10_keep 12 = .ok (.iconst 1, 1) := by decide +kernel
theorem dX10_keep_13 : decode cX10_keep 13 = .ok (.putfield 277, 3) := by decide +kernel
theorem dX10_keep_16 : decode cX10_keep 16 = .ok (.aload_n 0, 1) := by decide +kernel
theorem dX10_keep_17 : decode cX10_keep 17 = .ok (.getfield 9, 3) := by decide +kernel
theorem dX10_keep_20 : decode cX10_keep 20 = .ok (.iconst 1, 1) := by decide +kernel
theorem dX10_keep_21 : decode cX10_keep 21 = .ok (.iaload, 1) := by decide +kernel
theorem dX10_keep_22 : decode cX10_keep 22 = .ok (.ireturn, 1) := by decide +kernel
theorem dX10_back_0 : decode cX10_back 0 = .ok (.aload_n 0, 1) := by decide +kernel
theorem dX10_back_1 : decode cX10_back 1 = .ok (.getfield 277, 3) := by decide +kernel
theorem dX10_back_4 : decode cX10_back 4 = .ok (.ifCond .ne 7, 3) := by decide +kernel
theorem dX10_back_7 : decode cX10_back 7 = .ok (.ldc_w 273, 3) := by decide +kernel
theorem dX10_back_10 : decode cX10_back 10 = .ok (.ireturn, 1) := by decide +kernel
theorem dX10_back_11 : decode cX10_back 11 = .ok (.aload_n 0, 1) := by decide +kernel
theorem dX10_back_12 : decode cX10_back 12 = .ok (.getfield 13, 3) := by decide +kernel
theorem dX10_back_15 : decode cX10_back 15 = .ok (.aload_n 0, 1) := by decide +kernel
theorem dX10_back_16 : decode cX10_back 16 = .ok (.getfield 9, 3) := by decide +kernel
theorem dX10_back_19 : decode cX10_back 19 = .ok (.invokestatic 281, 3) := by decide +kernel
theorem dX10_back_22 : decode cX10_back 22 = .ok (.aload_n 0, 1) := by decide +kernel
theorem dX10_back_23 : decode cX10_back 23 = .ok (.getfield 9, 3) := by decide +kernel
theorem dX10_back_26 : decode cX10_back 26 = .ok (.iconst 1, 1) := by decide +kernel
theorem dX10_back_27 : decode cX10_back 27 = .ok (.iaload, 1) := by decide +kernel
theorem dX10_back_28 : decode cX10_back 28 = .ok (.ireturn, 1) := by decide +kernel
theorem dX10_nestsAll_0 : decode cX10_nestsAll 0 = .ok (.aload_n 0, 1) := by decide +kernel
theorem dX10_nestsAll_1 : decode cX10_nestsAll 1 = .ok (.invokevirtual 114, 3) := by decide +kernel
theorem dX10_nestsAll_4 : decode cX10_nestsAll 4 = .ok (.aload_n 0, 1) := by decide +kernel
theorem dX10_nestsAll_5 : decode cX10_nestsAll 5 = .ok (.iconst 0, 1) := by decide +kernel
theorem dX10_nestsAll_6 : decode cX10_nestsAll 6 = .ok (.invokevirtual 164, 3) := by decide +kernel
theorem dX10_nestsAll_9 : decode cX10_nestsAll 9 = .ok (.aload_n 0, 1) := by decide +kernel
theorem dX10_nestsAll_10 : decode cX10_nestsAll 10 = .ok (.iconst 1, 1) := by decide +kernel
theorem dX10_nestsAll_11 : decode cX10_nestsAll 11 = .ok (.invokevirtual 164, 3) := by decide +kernel
theorem dX10_nestsAll_14 : decode cX10_nestsAll 14 = .ok (.iadd, 1) := by decide +kernel
theorem dX10_nestsAll_15 : decode cX10_nestsAll 15 = .ok (.aload_n 0, 1) := by decide +kernel
theorem dX10_nestsAll_16 : decode cX10_nestsAll 16 = .ok (.iconst 2, 1) := by decide +kernel
theorem dX10_nestsAll_17 : decode cX10_nestsAll 17 = .ok (.invokevirtual 164, 3) := by decide +kernel
theorem dX10_nestsAll_20 : decode cX10_nestsAll 20 = .ok (.iadd, 1) := by decide +kernel
theorem dX10_nestsAll_21 : decode cX10_nestsAll 21 = .ok (.aload_n 0, 1) := by decide +kernel
theorem dX10_nestsAll_22 : decode cX10_nestsAll 22 = .ok (.iconst 3, 1) := by decide +kernel
theorem dX10_nestsAll_23 : decode cX10_nestsAll 23 = .ok (.invokevirtual 164, 3) := by decide +kernel
theorem dX10_nestsAll_26 : decode cX10_nestsAll 26 = .ok (.iadd, 1) := by decide +kernel
theorem dX10_nestsAll_27 : decode cX10_nestsAll 27 = .ok (.ireturn, 1) := by decide +kernel
theorem dX10_count_0 : decode cX10_count 0 = .ok (.iload_n 1, 1) := by decide +kernel
theorem dX10_count_1 : decode cX10_count 1 = .ok (.tableswitch 121 0 11 #[63, 70, 77, 82, 82, 82, 82, 91, 96, 104, 109, 114], 63) := by decide +kernel
theorem dX10_count_64 : decode cX10_count 64 = .ok (.aload_n 0, 1) := by decide +kernel
theorem dX10_count_65 : decode cX10_count 65 = .ok (.getfield 9, 3) := by decide +kernel
theorem dX10_count_68 : decode cX10_count 68 = .ok (.iconst 1, 1) := by decide +kernel
theorem dX10_count_69 : decode cX10_count 69 = .ok (.iaload, 1) := by decide +kernel
theorem dX10_count_70 : decode cX10_count 70 = .ok (.ireturn, 1) := by decide +kernel
theorem dX10_count_71 : decode cX10_count 71 = .ok (.aload_n 0, 1) := by decide +kernel
theorem dX10_count_72 : decode cX10_count 72 = .ok (.getfield 9, 3) := by decide +kernel
theorem dX10_count_75 : decode cX10_count 75 = .ok (.iconst 2, 1) := by decide +kernel
theorem dX10_count_76 : decode cX10_count 76 = .ok (.iaload, 1) := by decide +kernel
theorem dX10_count_77 : decode cX10_count 77 = .ok (.ireturn, 1) := by decide +kernel
theorem dX10_count_78 : decode cX10_count 78 = .ok (.aload_n 0, 1) := by decide +kernel
theorem dX10_count_79 : decode cX10_count 79 = .ok (.invokevirtual 185, 3) := by decide +kernel
theorem dX10_count_82 : decode cX10_count 82 = .ok (.ireturn, 1) := by decide +kernel
theorem dX10_count_83 : decode cX10_count 83 = .ok (.aload_n 0, 1) := by decide +kernel
theorem dX10_count_84 : decode cX10_count 84 = .ok (.getfield 9, 3) := by decide +kernel
theorem dX10_count_87 : decode cX10_count 87 = .ok (.iconst 0, 1) := by decide +kernel
theorem dX10_count_88 : decode cX10_count 88 = .ok (.iload_n 1, 1) := by decide +kernel
theorem dX10_count_89 : decode cX10_count 89 = .ok (.iadd, 1) := by decide +kernel
theorem dX10_count_90 : decode cX10_count 90 = .ok (.iaload, 1) := by decide +kernel
theorem dX10_count_91 : decode cX10_count 91 = .ok (.ireturn, 1) := by decide +kernel
theorem dX10_count_92 : decode cX10_count 92 = .ok (.aload_n 0, 1) := by decide +kernel
theorem dX10_count_93 : decode cX10_count 93 = .ok (.invokevirtual 285, 3) := by decide +kernel
theorem dX10_count_96 : decode cX10_count 96 = .ok (.ireturn, 1) := by decide +kernel
theorem dX10_count_97 : decode cX10_count 97 = .ok (.aload_n 0, 1) := by decide +kernel
theorem dX10_count_98 : decode cX10_count 98 = .ok (.getfield 9, 3) := by decide +kernel
theorem dX10_count_101 : decode cX10_count 101 = .ok (.bipush 7, 2) := by decide +kernel
theorem dX10_count_103 : decode cX10_count 103 = .ok (.iaload, 1) := by decide +kernel
theorem dX10_count_104 : decode cX10_count 104 = .ok (.ireturn, 1) := by decide +kernel
theorem dX10_count_105 : decode cX10_count 105 = .ok (.aload_n 0, 1) := by decide +kernel
theorem dX10_count_106 : decode cX10_count 106 = .ok (.getfield 274, 3) := by decide +kernel
theorem dX10_count_109 : decode cX10_count 109 = .ok (.ireturn, 1) := by decide +kernel
theorem dX10_count_110 : decode cX10_count 110 = .ok (.aload_n 0, 1) := by decide +kernel
theorem dX10_count_111 : decode cX10_count 111 = .ok (.getfield 199, 3) := by decide +kernel
theorem dX10_count_114 : decode cX10_count 114 = .ok (.ireturn, 1) := by decide +kernel
theorem dX10_count_115 : decode cX10_count 115 = .ok (.aload_n 0, 1) := by decide +kernel
theorem dX10_count_116 : decode cX10_count 116 = .ok (.getfield 9, 3) := by decide +kernel
theorem dX10_count_119 : decode cX10_count 119 = .ok (.iconst 0, 1) := by decide +kernel
theorem dX10_count_120 : decode cX10_count 120 = .ok (.iaload, 1) := by decide +kernel
theorem dX10_count_121 : decode cX10_count 121 = .ok (.ireturn, 1) := by decide +kernel
theorem dX10_count_122 : decode cX10_count 122 = .ok (.ldc 97, 2) := by decide +kernel
theorem dX10_count_124 : decode cX10_count 124 = .ok (.ireturn, 1) := by decide +kernel
