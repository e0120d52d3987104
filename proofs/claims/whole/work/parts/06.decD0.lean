theorem dX6_init_0 : decode cX6_init 0 = .ok (.aload_n 0, 1) := by decide +kernel
theorem dX6_init_1 : decode cX6_init 1 = .ok (.invokespecial 1, 3) := by decide +kernel
theorem dX6_init_4 : decode cX6_init 4 = .ok (.aload_n 0, 1) := by decide +kernel
theorem dX6_init_5 : decode cX6_init 5 = .ok (.sipush 414, 3) := by decide +kernel
theorem dX6_init_8 : decode cX6_init 8 = .ok (.newarray .int, 2) := by decide +kernel
theorem dX6_init_10 : decode cX6_init 10 = .ok (.putfield 7, 3) := by decide +kernel
theorem dX6_init_13 : decode cX6_init 13 = .ok (.aload_n 0, 1) := by decide +kernel
theorem dX6_init_14 : decode cX6_init 14 = .ok (.bipush 16, 2) := by decide +kernel
theorem dX6_init_16 : decode cX6_init 16 = .ok (.newarray .int, 2) := by decide +kernel
theorem dX6_init_18 : decode cX6_init 18 = .ok (.dup, 1) := by decide +kernel
theorem dX6_init_19 : decode cX6_init 19 = .ok (.iconst 0, 1) := by decide +kernel
theorem dX6_init_20 : decode cX6_init 20 = .ok (.iconst 3, 1) := by decide +kernel
theorem dX6_init_21 : decode cX6_init 21 = .ok (.iastore, 1) := by decide +kernel
theorem dX6_init_22 : decode cX6_init 22 = .ok (.dup, 1) := by decide +kernel
theorem dX6_init_23 : decode cX6_init 23 = .ok (.iconst 1, 1) := by decide +kernel
theorem dX6_init_24 : decode cX6_init 24 = .ok (.iconst 1, 1) := by decide +kernel
theorem dX6_init_25 : decode cX6_init 25 = .ok (.iastore, 1) := by decide +kernel
theorem dX6_init_26 : decode cX6_init 26 = .ok (.dup, 1) := by decide +kernel
theorem dX6_init_27 : decode cX6_init 27 = .ok (.iconst 2, 1) := by decide +kernel
theorem dX6_init_28 : decode cX6_init 28 = .ok (.bipush (-2), 2) := by decide +kernel
theorem dX6_init_30 : decode cX6_init 30 = .ok (.iastore, 1) := by decide +kernel
theorem dX6_init_31 : decode cX6_init 31 = .ok (.dup, 1) := by decide +kernel
theorem dX6_init_32 : decode cX6_init 32 = .ok (.iconst 3, 1) := by decide +kernel
theorem dX6_init_33 : decode cX6_init 33 = .ok (.bipush (-3), 2) := by decide +kernel
theorem dX6_init_35 : decode cX6_init 35 = .ok (.iastore, 1) := by decide +kernel
theorem dX6_init_36 : decode cX6_init 36 = .ok (.dup, 1) := by decide +kernel
theorem dX6_init_37 : decode cX6_init 37 = .ok (.iconst 4, 1) := by decide +kernel
theorem dX6_init_38 : decode cX6_init 38 = .ok (.bipush (-2), 2) := by decide +kernel
theorem dX6_init_40 : decode cX6_init 40 = .ok (.iastore, 1) := by decide +kernel
theorem dX6_init_41 : decode cX6_init 41 = .ok (.dup, 1) := by decide +kernel
theorem dX6_init_42 : decode cX6_init 42 = .ok (.iconst 5, 1) := by decide +kernel
theorem dX6_init_43 : decode cX6_init 43 = .ok (.iconst 1, 1) := by decide +kernel
theorem dX6_init_44 : decode cX6_init 44 = .ok (.iastore, 1) := by decide +kernel
theorem dX6_init_45 : decode cX6_init 45 = .ok (.dup, 1) := by decide +kernel
theorem dX6_init_46 : decode cX6_init 46 = .ok (.bipush 6, 2) := by decide +kernel
theorem dX6_init_48 : decode cX6_init 48 = .ok (.iconst 3, 1) := by decide +kernel
theorem dX6_init_49 : decode cX6_init 49 = .ok (.iastore, 1) := by decide +kernel
theorem dX6_init_50 : decode cX6_init 50 = .ok (.dup, 1) := by decide +kernel
theorem dX6_init_51 : decode cX6_init 51 = .ok (.bipush 7, 2) := by decide +kernel
theorem dX6_init_53 : decode cX6_init 53 = .ok (.bipush (-3), 2) := by decide +kernel
theorem dX6_init_55 : decode cX6_init 55 = .ok (.iastore, 1) := by decide +kernel
theorem dX6_init_56 : decode cX6_init 56 = .ok (.dup, 1) := by decide +kernel
theorem dX6_init_57 : decode cX6_init 57 = .ok (.bipush 8, 2) := by decide +kernel
theorem dX6_init_59 : decode cX6_init 59 = .ok (.iconst (-1), 1) := by decide +kernel
theorem dX6_init_60 : decode cX6_init 60 = .ok (.iastore, 1) := by decide +kernel
theorem dX6_init_61 : decode cX6_init 61 = .ok (.dup, 1) := by decide +kernel
theorem dX6_init_62 : decode cX6_init 62 = .ok (.bipush 9, 2) := by decide +kernel
theorem dX6_init_64 : decode cX6_init 64 = .ok (.iconst 3, 1) := by decide +kernel
theorem dX6_init_65 : decode cX6_init 65 = .ok (.iastore, 1) := by decide +kernel
theorem dX6_init_66 : decode cX6_init 66 = .ok (.dup, 1) := by decide +kernel
theorem dX6_init_67 : decode cX6_init 67 = .ok (.bipush 10, 2) := by decide +kernel
theorem dX6_init_69 : decode cX6_init 69 = .ok (.iconst (-1), 1) := by decide +kernel
theorem dX6_init_70 : decode cX6_init 70 = .ok (.iastore, 1) := by decide +kernel
theorem dX6_init_71 : decode cX6_init 71 = .ok (.dup, 1) := by decide +kernel
theorem dX6_init_72 : decode cX6_init 72 = .ok (.bipush 11, 2) := by decide +kernel
theorem dX6_init_74 : decode cX6_init 74 = .ok (.iconst (-1), 1) := by decide +kernel
theorem dX6_init_75 : decode cX6_init 75 = .ok (.iastore, 1) := by decide +kernel
theorem dX6_init_76 : decode cX6_init 76 = .ok (.dup, 1) := by decide +kernel
theorem dX6_init_77 : decode cX6_init 77 = .ok (.bipush 12, 2) := by decide +kernel
theorem dX6_init_79 : decode cX6_init 79 = .ok (.bipush (-3), 2) := by decide +kernel
theorem dX6_init_81 : decode cX6_init 81 = .ok (.iastore, 1) := by decide +kernel
theorem dX6_init_82 : decode cX6_init 82 = .ok (.dup, 1) := by decide +kernel
theorem dX6_init_83 : decode cX6_init 83 = .ok (.bipush 13, 2) := by decide +kernel
theorem dX6_init_85 : decode cX6_init 85 = .ok (.iconst 0, 1) := by decide +kernel
theorem dX6_init_86 : decode cX6_init 86 = .ok (.iastore, 1) := by decide +kernel
theorem dX6_init_87 : decode cX6_init 87 = .ok (.dup, 1) := by decide +kernel
theorem dX6_init_88 : decode cX6_init 88 = .ok (.bipush 14, 2) := by decide +kernel
theorem dX6_init_90 : decode cX6_init 90 = .ok (.iconst 4, 1) := by decide +kernel
theorem dX6_init_91 : decode cX6_init 91 = .ok (.iastore, 1) := by decide +kernel
theorem dX6_init_92 : decode cX6_init 92 = .ok (.dup, 1) := by decide +kernel
theorem dX6_init_93 : decode cX6_init 93 = .ok (.bipush 15, 2) := by decide +kernel
theorem dX6_init_95 : decode cX6_init 95 = .ok (.bipush (-4), 2) := by decide +kernel
theorem dX6_init_97 : decode cX6_init 97 = .ok (.iastore, 1) := by decide +kernel
theorem dX6_init_98 : decode cX6_init 98 = .ok (.putfield 13, 3) := by decide +kernel
theorem dX6_init_101 : decode cX6_init 101 = .ok (.aload_n 0, 1) := by decide +kernel
theorem dX6_init_102 : decode cX6_init 102 = .ok (.bipush 69, 2) := by decide +kernel
theorem dX6_init_104 : decode cX6_init 104 = .ok (.newarray .int, 2) := by decide +kernel
theorem dX6_init_106 : decode cX6_init 106 = .ok (.putfield 16, 3) := by decide +kernel
theorem dX6_init_109 : decode cX6_init 109 = .ok (.aload_n 0, 1) := by decide +kernel
theorem dX6_init_110 : decode cX6_init 110 = .ok (.sipush 160, 3) := by decide +kernel
theorem dX6_init_113 : decode cX6_init 113 = .ok (.newarray .int, 2) := by decide +kernel
theorem dX6_init_115 : decode cX6_init 115 = .ok (.putfield 19, 3) := by decide +kernel
theorem dX6_init_118 : decode cX6_init 118 = .ok (.aload_n 0, 1) := by decide +kernel
theorem dX6_init_119 : decode cX6_init 119 = .ok (.bipush 13, 2) := by decide +kernel
theorem dX6_init_121 : decode cX6_init 121 = .ok (.newarray .int, 2) := by decide +kernel
theorem dX6_init_123 : decode cX6_init 123 = .ok (.dup, 1) := by decide +kernel
theorem dX6_init_124 : decode cX6_init 124 = .ok (.iconst 0, 1) := by decide +kernel
theorem dX6_init_125 : decode cX6_init 125 = .ok (.iconst 0, 1) := by decide +kernel
theorem dX6_init_126 : decode cX6_init 126 = .ok (.iastore, 1) := by decide +kernel
theorem dX6_init_127 : decode cX6_init 127 = .ok (.dup, 1) := by decide +kernel
theorem dX6_init_128 : decode cX6_init 128 = .ok (.iconst 1, 1) := by decide +kernel
theorem dX6_init_129 : decode cX6_init 129 = .ok (.bipush 6, 2) := by decide +kernel
theorem dX6_init_131 : decode cX6_init 131 = .ok (.iastore, 1) := by decide +kernel
theorem dX6_init_132 : decode cX6_init 132 = .ok (.dup, 1) := by decide +kernel
theorem dX6_init_133 : decode cX6_init 133 = .ok (.iconst 2, 1) := by decide +kernel
theorem dX6_init_134 : decode cX6_init 134 = .ok (.bipush 13, 2) := by decide +kernel
theorem dX6_init_136 : decode cX6_init 136 = .ok (.iastore, 1) := by decide +kernel
theorem dX6_init_137 : decode cX6_init 137 = .ok (.dup, 1) := by decide +kernel
theorem dX6_init_138 : decode cX6_init 138 = .ok (.iconst 3, 1) := by decide +kernel
theorem dX6_init_139 : decode cX6_init 139 = .ok (.bipush 19, 2) := by decide +kernel
theorem dX6_init_141 : decode cX6_init 141 = .ok (.iastore, 1) := by decide +kernel
theorem dX6_init_142 : decode cX6_init 142 = .ok (.dup, 1) := by decide +kernel
theorem dX6_init_143 : decode cX6_init 143 = .ok (.iconst 4, 1) := by decide +kernel
theorem dX6_init_144 : decode cX6_init 144 = .ok (.bipush 24, 2) := by decide +kernel
theorem dX6_init_146 : decode cX6_init 146 = .ok (.iastore, 1) := by decide +kernel
theorem dX6_init_147 : decode cX6_init 147 = .ok (.dup, 1) := by decide +kernel
theorem dX6_init_148 : decode cX6_init 148 = .ok (.iconst 5, 1) := by decide +kernel
theorem dX6_init_149 : decode cX6_init 149 = .ok (.bipush 29, 2) := by decide +kernel
theorem dX6_init_151 : decode cX6_init 151 = .ok (.iastore, 1) := by decide +kernel
theorem dX6_init_152 : decode cX6_init 152 = .ok (.dup, 1) := by decide +kernel
theorem dX6_init_153 : decode cX6_init 153 = .ok (.bipush 6, 2) := by decide +kernel
theorem dX6_init_155 : decode cX6_init 155 = .ok (.bipush 33, 2) := by decide +kernel
theorem dX6_init_157 : decode cX6_init 157 = .ok (.iastore, 1) := by decide +kernel
theorem dX6_init_158 : decode cX6_init 158 = .ok (.dup, 1) := by decide +kernel
theorem dX6_init_159 : decode cX6_init 159 = .ok (.bipush 7, 2) := by decide +kernel
theorem dX6_init_161 : decode cX6_init 161 = .ok (.bipush 38, 2) := by decide +kernel
theorem dX6_init_163 : decode cX6_init 163 = .ok (.iastore, 1) := by decide +kernel
theorem dX6_init_164 : decode cX6_init 164 = .ok (.dup, 1) := by decide +kernel
theorem dX6_init_165 : decode cX6_init 165 = .ok (.bipush 8, 2) := by decide +kernel
theorem dX6_init_167 : decode cX6_init 167 = .ok (.bipush 41, 2) := by decide +kernel
theorem dX6_init_169 : decode cX6_init 169 = .ok (.iastore, 1) := by decide +kernel
theorem dX6_init_170 : decode cX6_init 170 = .ok (.dup, 1) := by decide +kernel
theorem dX6_init_171 : decode cX6_init 171 = .ok (.bipush 9, 2) := by decide +kernel
theorem dX6_init_173 : decode cX6_init 173 = .ok (.bipush 44, 2) := by decide +kernel
theorem dX6_init_175 : decode cX6_init 175 = .ok (.iastore, 1) := by decide +kernel
theorem dX6_init_176 : decode cX6_init 176 = .ok (.dup, 1) := by decide +kernel
theorem dX6_init_177 : decode cX6_init 177 = .ok (.bipush 10, 2) := by decide +kernel
theorem dX6_init_179 : decode cX6_init 179 = .ok (.bipush 48, 2) := by decide +kernel
theorem dX6_init_181 : decode cX6_init 181 = .ok (.iastore, 1) := by decide +kernel
theorem dX6_init_182 : decode cX6_init 182 = .ok (.dup, 1) := by decide +kernel
theorem dX6_init_183 : decode cX6_init 183 = .ok (.bipush 11, 2) := by decide +kernel
theorem dX6_init_185 : decode cX6_init 185 = .ok (.bipush 51, 2) := by decide +kernel
theorem dX6_init_187 : decode cX6_init 187 = .ok (.iastore, 1) := by decide +kernel
theorem dX6_init_188 : decode cX6_init 188 = .ok (.dup, 1) := by decide +kernel
theorem dX6_init_189 : decode cX6_init 189 = .ok (.bipush 12, 2) := by decide +kernel
theorem dX6_init_191 : decode cX6_init 191 = .ok (.bipush 56, 2) := by decide +kernel
theorem dX6_init_193 : decode cX6_init 193 = .ok (.iastore, 1) := by decide +kernel
theorem dX6_init_194 : decode cX6_init 194 = .ok (.putfield 22, 3) := by decide +kernel
theorem dX6_init_197 : decode cX6_init 197 = .ok (.aload_n 0, 1) := by decide +kernel
theorem dX6_init_198 : decode cX6_init 198 = .ok (.bipush 56, 2) := by decide +kernel
theorem dX6_init_200 : decode cX6_init 200 = .ok (.newarray .int, 2) := by decide +kernel
theorem dX6_init_202 : decode cX6_init 202 = .ok (.dup, 1) := by decide +kernel
theorem dX6_init_203 : decode cX6_init 203 = .ok (.iconst 0, 1) := by decide +kernel
theorem dX6_init_204 : decode cX6_init 204 = .ok (.bipush 102, 2) := by decide +kernel
theorem dX6_init_206 : decode cX6_init 206 = .ok (.iastore, 1) := by decide +kernel
theorem dX6_init_207 : decode cX6_init 207 = .ok (.dup, 1) := by decide +kernel
theorem dX6_init_208 : decode cX6_init 208 = .ok (.iconst 1, 1) := by decide +kernel
theorem dX6_init_209 : decode cX6_init 209 = .ok (.bipush 97, 2) := by decide +kernel
theorem dX6_init_211 : decode cX6_init 211 = .ok (.iastore, 1) := by decide +kernel
theorem dX6_init_212 : decode cX6_init 212 = .ok (.dup, 1) := by decide +kernel
theorem dX6_init_213 : decode cX6_init 213 = .ok (.iconst 2, 1) := by decide +kernel
theorem dX6_init_214 : decode cX6_init 214 = .ok (.bipush 114, 2) := by decide +kernel
theorem dX6_init_216 : decode cX6_init 216 = .ok (.iastore, 1) := by decide +kernel
theorem dX6_init_217 : decode cX6_init 217 = .ok (.dup, 1) := by decide +kernel
theorem dX6_init_218 : decode cX6_init 218 = .ok (.iconst 3, 1) := by decide +kernel
theorem dX6_init_219 : decode cX6_init 219 = .ok (.bipush 109, 2) := by decide +kernel
theorem dX6_init_221 : decode cX6_init 221 = .ok (.iastore, 1) := by decide +kernel
theorem dX6_init_222 : decode cX6_init 222 = .ok (.dup, 1) := by decide +kernel
theorem dX6_init_223 : decode cX6_init 223 = .ok (.iconst 4, 1) := by decide +kernel
theorem dX6_init_224 : decode cX6_init 224 = .ok (.bipush 101, 2) := by decide +kernel
theorem dX6_init_226 : decode cX6_init 226 = .ok (.iastore, 1) := by decide +kernel
theorem dX6_init_227 : decode cX6_init 227 = .ok (.dup, 1) := by decide +kernel
theorem dX6_init_228 : decode cX6_init 228 = .ok (.iconst 5, 1) := by decide +kernel
theorem dX6_init_229 : decode cX6_init 229 = .ok (.bipush 114, 2) := by decide +kernel
theorem dX6_init_231 : decode cX6_init 231 = .ok (.iastore, 1) := by decide +kernel
theorem dX6_init_232 : decode cX6_init 232 = .ok (.dup, 1) := by decide +kernel
theorem dX6_init_233 : decode cX6_init 233 = .ok (.bipush 6, 2) := by decide +kernel
theorem dX6_init_235 : decode cX6_init 235 = .ok (.bipush 98, 2) := by decide +kernel
theorem dX6_init_237 : decode cX6_init 237 = .ok (.iastore, 1) := by decide +kernel
theorem dX6_init_238 : decode cX6_init 238 = .ok (.dup, 1) := by decide +kernel
theorem dX6_init_239 : decode cX6_init 239 = .ok (.bipush 7, 2) := by decide +kernel
theorem dX6_init_241 : decode cX6_init 241 = .ok (.bipush 111, 2) := by decide +kernel
theorem dX6_init_243 : decode cX6_init 243 = .ok (.iastore, 1) := by decide +kernel
theorem dX6_init_244 : decode cX6_init 244 = .ok (.dup, 1) := by decide +kernel
theorem dX6_init_245 : decode cX6_init 245 = .ok (.bipush 8, 2) := by decide +kernel
theorem dX6_init_247 : decode cX6_init 247 = .ok (.bipush 97, 2) := by decide +kernel
theorem dX6_init_249 : decode cX6_init 249 = .ok (.iastore, 1) := by decide +kernel
theorem dX6_init_250 : decode cX6_init 250 = .ok (.dup, 1) := by decide +kernel
theorem dX6_init_251 : decode cX6_init 251 = .ok (.bipush 9, 2) := by decide +kernel
theorem dX6_init_253 : decode cX6_init 253 = .ok (.bipush 116, 2) := by decide +kernel
theorem dX6_init_255 : decode cX6_init 255 = .ok (.iastore, 1) := by decide +kernel
theorem dX6_init_256 : decode cX6_init 256 = .ok (.dup, 1) := by decide +kernel
theorem dX6_init_257 : decode cX6_init 257 = .ok (.bipush 10, 2) := by decide +kernel
theorem dX6_init_259 : decode cX6_init 259 = .ok (.bipush 109, 2) := by decide +kernel
theorem dX6_init_261 : decode cX6_init 261 = .ok (.iastore, 1) := by decide +kernel
theorem dX6_init_262 : decode cX6_init 262 = .ok (.dup, 1) := by decide +kernel
theorem dX6_init_263 : decode cX6_init 263 = .ok (.bipush 11, 2) := by decide +kernel
theorem dX6_init_265 : decode cX6_init 265 = .ok (.bipush 97, 2) := by decide +kernel
theorem dX6_init_267 : decode cX6_init 267 = .ok (.iastore, 1) := by decide +kernel
theorem dX6_init_268 : decode cX6_init 268 = .ok (.dup, 1) := by decide +kernel
theorem dX6_init_269 : decode cX6_init 269 = .ok (.bipush 12, 2) := by decide +kernel
theorem dX6_init_271 : decode cX6_init 271 = .ok (.bipush 110, 2) := by decide +kernel
theorem dX6_init_273 : decode cX6_init 273 = .ok (.iastore, 1) := by decide +kernel
theorem dX6_init_274 : decode cX6_init 274 = .ok (.dup, 1) := by decide +kernel
theorem dX6_init_275 : decode cX6_init 275 = .ok (.bipush 13, 2) := by decide +kernel
theorem dX6_init_277 : decode cX6_init 277 = .ok (.bipush 109, 2) := by decide +kernel
theorem dX6_init_279 : decode cX6_init 279 = .ok (.iastore, 1) := by decide +kernel
theorem dX6_init_280 : decode cX6_init 280 = .ok (.dup, 1) := by decide +kernel
theorem dX6_init_281 : decode cX6_init 281 = .ok (.bipush 14, 2) := by decide +kernel
theorem dX6_init_283 : decode cX6_init 283 = .ok (.bipush 105, 2) := by decide +kernel
theorem dX6_init_285 : decode cX6_init 285 = .ok (.iastore, 1) := by decide +kernel
theorem dX6_init_286 : decode cX6_init 286 = .ok (.dup, 1) := by decide +kernel
theorem dX6_init_287 : decode cX6_init 287 = .ok (.bipush 15, 2) := by decide +kernel
theorem dX6_init_289 : decode cX6_init 289 = .ok (.bipush 108, 2) := by decide +kernel
theorem dX6_init_291 : decode cX6_init 291 = .ok (.iastore, 1) := by decide +kernel
theorem dX6_init_292 : decode cX6_init 292 = .ok (.dup, 1) := by decide +kernel
theorem dX6_init_293 : decode cX6_init 293 = .ok (.bipush 16, 2) := by decide +kernel
theorem dX6_init_295 : decode cX6_init 295 = .ok (.bipush 108, 2) := by decide +kernel
theorem dX6_init_297 : decode cX6_init 297 = .ok (.iastore, 1) := by decide +kernel
theorem dX6_init_298 : decode cX6_init 298 = .ok (.dup, 1) := by decide +kernel
theorem dX6_init_299 : decode cX6_init 299 = .ok (.bipush 17, 2) := by decide +kernel
theorem dX6_init_301 : decode cX6_init 301 = .ok (.bipush 101, 2) := by decide +kernel
theorem dX6_init_303 : decode cX6_init 303 = .ok (.iastore, 1) := by decide +kernel
theorem dX6_init_304 : decode cX6_init 304 = .ok (.dup, 1) := by decide +kernel
theorem dX6_init_305 : decode cX6_init 305 = .ok (.bipush 18, 2) := by decide +kernel
theorem dX6_init_307 : decode cX6_init 307 = .ok (.bipush 114, 2) := by decide +kernel
theorem dX6_init_309 : decode cX6_init 309 = .ok (.iastore, 1) := by decide +kernel
theorem dX6_init_310 : decode cX6_init 310 = .ok (.dup, 1) := by decide +kernel
theorem dX6_init_311 : decode cX6_init 311 = .ok (.bipush 19, 2) := by decide +kernel
theorem dX6_init_313 : decode cX6_init 313 = .ok (.bipush 101, 2) := by decide +kernel
theorem dX6_init_315 : decode cX6_init 315 = .ok (.iastore, 1) := by decide +kernel
theorem dX6_init_316 : decode cX6_init 316 = .ok (.dup, 1) := by decide +kernel
theorem dX6_init_317 : decode cX6_init 317 = .ok (.bipush 20, 2) := by decide +kernel
theorem dX6_init_319 : decode cX6_init 319 = .ok (.bipush 101, 2) := by decide +kernel
theorem dX6_init_321 : decode cX6_init 321 = .ok (.iastore, 1) := by decide +kernel
theorem dX6_init_322 : decode cX6_init 322 = .ok (.dup, 1) := by decide +kernel
theorem dX6_init_323 : decode cX6_init 323 = .ok (.bipush 21, 2) := by decide +kernel
theorem dX6_init_325 : decode cX6_init 325 = .ok (.bipush 108, 2) := by decide +kernel
theorem dX6_init_327 : decode cX6_init 327 = .ok (.iastore, 1) := by decide +kernel
theorem dX6_init_328 : decode cX6_init 328 = .ok (.dup, 1) := by decide +kernel
theorem dX6_init_329 : decode cX6_init 329 = .ok (.bipush 22, 2) := by decide +kernel
theorem dX6_init_331 : decode cX6_init 331 = .ok (.bipush 101, 2) := by decide +kernel
theorem dX6_init_333 : decode cX6_init 333 = .ok (.iastore, 1) := by decide +kernel
theorem dX6_init_334 : decode cX6_init 334 = .ok (.dup, 1) := by decide +kernel
theorem dX6_init_335 : decode cX6_init 335 = .ok (.bipush 23, 2) := by decide +kernel
theorem dX6_init_337 : decode cX6_init 337 = .ok (.bipush 114, 2) := by decide +kernel
theorem dX6_init_339 : decode cX6_init 339 = .ok (.iastore, 1) := by decide +kernel
theorem dX6_init_340 : decode cX6_init 340 = .ok (.dup, 1) := by decide +kernel
theorem dX6_init_341 : decode cX6_init 341 = .ok (.bipush 24, 2) := by decide +kernel
theorem dX6_init_343 : decode cX6_init 343 = .ok (.bipush 99, 2) := by decide +kernel
theorem dX6_init_345 : decode cX6_init 345 = .ok (.iastore, 1) := by decide +kernel
theorem dX6_init_346 : decode cX6_init 346 = .ok (.dup, 1) := by decide +kernel
theorem dX6_init_347 : decode cX6_init 347 = .ok (.bipush 25, 2) := by decide +kernel
theorem dX6_init_349 : decode cX6_init 349 = .ok (.bipush 111, 2) := by decide +kernel
theorem dX6_init_351 : decode cX6_init 351 = .ok (.iastore, 1) := by decide +kernel
theorem dX6_init_352 : decode cX6_init 352 = .ok (.dup, 1) := by decide +kernel
theorem dX6_init_353 : decode cX6_init 353 = .ok (.bipush 26, 2) := by decide +kernel
theorem dX6_init_355 : decode cX6_init 355 = .ok (.bipush 118, 2) := by decide +kernel
theorem dX6_init_357 : decode cX6_init 357 = .ok (.iastore, 1) := by decide +kernel
theorem dX6_init_358 : decode cX6_init 358 = .ok (.dup, 1) := by decide +kernel
theorem dX6_init_359 : decode cX6_init 359 = .ok (.bipush 27, 2) := by decide +kernel
theorem dX6_init_361 : decode cX6_init 361 = .ok (.bipush 101, 2) := by decide +kernel
theorem dX6_init_363 : decode cX6_init 363 = .ok (.iastore, 1) := by decide +kernel
theorem dX6_init_364 : decode cX6_init 364 = .ok (.dup, 1) := by decide +kernel
theorem dX6_init_365 : decode cX6_init 365 = .ok (.bipush 28, 2) := by decide +kernel
theorem dX6_init_367 : decode cX6_init 367 = .ok (.bipush 114, 2) := by decide +kernel
theorem dX6_init_369 : decode cX6_init 369 = .ok (.iastore, 1) := by decide +kernel
theorem dX6_init_370 : decode cX6_init 370 = .ok (.dup, 1) := by decide +kernel
theorem dX6_init_371 : decode cX6_init 371 = .ok (.bipush 29, 2) := by decide +kernel
theorem dX6_init_373 : decode cX6_init 373 = .ok (.bipush 111, 2) := by decide +kernel
theorem dX6_init_375 : decode cX6_init 375 = .ok (.iastore, 1) := by decide +kernel
theorem dX6_init_376 : decode cX6_init 376 = .ok (.dup, 1) := by decide +kernel
theorem dX6_init_377 : decode cX6_init 377 = .ok (.bipush 30, 2) := by decide +kernel
theorem dX6_init_379 : decode cX6_init 379 = .ok (.bipush 100, 2) := by decide +kernel
theorem dX6_init_381 : decode cX6_init 381 = .ok (.iastore, 1) := by decide +kernel
theorem dX6_init_382 : decode cX6_init 382 = .ok (.dup, 1) := by decide +kernel
theorem dX6_init_383 : decode cX6_init 383 = .ok (.bipush 31, 2) := by decide +kernel
theorem dX6_init_385 : decode cX6_init 385 = .ok (.bipush 100, 2) := by decide +kernel
theorem dX6_init_387 : decode cX6_init 387 = .ok (.iastore, 1) := by decide +kernel
theorem dX6_init_388 : decode cX6_init 388 = .ok (.dup, 1) := by decide +kernel
theorem dX6_init_389 : decode cX6_init 389 = .ok (.bipush 32, 2) := by decide +kernel
theorem dX6_init_391 : decode cX6_init 391 = .ok (.bipush 115, 2) := by decide +kernel
theorem dX6_init_393 : decode cX6_init 393 = .ok (.iastore, 1) := by decide +kernel
theorem dX6_init_394 : decode cX6_init 394 = .ok (.dup, 1) := by decide +kernel
theorem dX6_init_395 : decode cX6_init 395 = .ok (.bipush 33, 2) := by decide +kernel
theorem dX6_init_397 : decode cX6_init 397 = .ok (.bipush 102, 2) := by decide +kernel
theorem dX6_init_399 : decode cX6_init 399 = .ok (.iastore, 1) := by decide +kernel
theorem dX6_init_400 : decode cX6_init 400 = .ok (.dup, 1) := by decide +kernel
theorem dX6_init_401 : decode cX6_init 401 = .ok (.bipush 34, 2) := by decide +kernel
theorem dX6_init_403 : decode cX6_init 403 = .ok (.bipush 108, 2) := by decide +kernel
theorem dX6_init_405 : decode cX6_init 405 = .ok (.iastore, 1) := by decide +kernel
theorem dX6_init_406 : decode cX6_init 406 = .ok (.dup, 1) := by decide +kernel
theorem dX6_init_407 : decode cX6_init 407 = .ok (.bipush 35, 2) := by decide +kernel
theorem dX6_init_409 : decode cX6_init 409 = .ok (.bipush 111, 2) := by decide +kernel
theorem dX6_init_411 : decode cX6_init 411 = .ok (.iastore, 1) := by decide +kernel
theorem dX6_init_412 : decode cX6_init 412 = .ok (.dup, 1) := by decide +kernel
theorem dX6_init_413 : decode cX6_init 413 = .ok (.bipush 36, 2) := by decide +kernel
theorem dX6_init_415 : decode cX6_init 415 = .ok (.bipush 111, 2) := by decide +kernel
theorem dX6_init_417 : decode cX6_init 417 = .ok (.iastore, 1) := by decide +kernel
theorem dX6_init_418 : decode cX6_init 418 = .ok (.dup, 1) := by decide +kernel
theorem dX6_init_419 : decode cX6_init 419 = .ok (.bipush 37, 2) := by decide +kernel
theorem dX6_init_421 : decode cX6_init 421 = .ok (.bipush 114, 2) := by decide +kernel
theorem dX6_init_423 : decode cX6_init 423 = .ok (.iastore, 1) := by decide +kernel
theorem dX6_init_424 : decode cX6_init 424 = .ok (.dup, 1) := by decide +kernel
theorem dX6_init_425 : decode cX6_init 425 = .ok (.bipush 38, 2) := by decide +kernel
theorem dX6_init_427 : decode cX6_init 427 = .ok (.bipush 115, 2) := by decide +kernel
theorem dX6_init_429 : decode cX6_init 429 = .ok (.iastore, 1) := by decide +kernel
theorem dX6_init_430 : decode cX6_init 430 = .ok (.dup, 1) := by decide +kernel
theorem dX6_init_431 : decode cX6_init 431 = .ok (.bipush 39, 2) := by decide +kernel
theorem dX6_init_433 : decode cX6_init 433 = .ok (.bipush 107, 2) := by decide +kernel
theorem dX6_init_435 : decode cX6_init 435 = .ok (.iastore, 1) := by decide +kernel
theorem dX6_init_436 : decode cX6_init 436 = .ok (.dup, 1) := by decide +kernel
theorem dX6_init_437 : decode cX6_init 437 = .ok (.bipush 40, 2) := by decide +kernel
theorem dX6_init_439 : decode cX6_init 439 = .ok (.bipush 121, 2) := by decide +kernel
theorem dX6_init_441 : decode cX6_init 441 = .ok (.iastore, 1) := by decide +kernel
theorem dX6_init_442 : decode cX6_init 442 = .ok (.dup, 1) := by decide +kernel
theorem dX6_init_443 : decode cX6_init 443 = .ok (.bipush 41, 2) := by decide +kernel
theorem dX6_init_445 : decode cX6_init 445 = .ok (.bipush 115, 2) := by decide +kernel
theorem dX6_init_447 : decode cX6_init 447 = .ok (.iastore, 1) := by decide +kernel
theorem dX6_init_448 : decode cX6_init 448 = .ok (.dup, 1) := by decide +kernel
theorem dX6_init_449 : decode cX6_init 449 = .ok (.bipush 42, 2) := by decide +kernel
theorem dX6_init_451 : decode cX6_init 451 = .ok (.bipush 117, 2) := by decide +kernel
theorem dX6_init_453 : decode cX6_init 453 = .ok (.iastore, 1) := by decide +kernel
theorem dX6_init_454 : decode cX6_init 454 = .ok (.dup, 1) := by decide +kernel
theorem dX6_init_455 : decode cX6_init 455 = .ok (.bipush 43, 2) := by decide +kernel
theorem dX6_init_457 : decode cX6_init 457 = .ok (.bipush 110, 2) := by decide +kernel
theorem dX6_init_459 : decode cX6_init 459 = .ok (.iastore, 1) := by decide +kernel
theorem dX6_init_460 : decode cX6_init 460 = .ok (.dup, 1) := by decide +kernel
theorem dX6_init_461 : decode cX6_init 461 = .ok (.bipush 44, 2) := by decide +kernel
theorem dX6_init_463 : decode cX6_init 463 = .ok (.bipush 103, 2) := by decide +kernel
theorem dX6_init_465 : decode cX6_init 465 = .ok (.iastore, 1) := by decide +kernel
theorem dX6_init_466 : decode cX6_init 466 = .ok (.dup, 1) := by decide +kernel
theorem dX6_init_467 : decode cX6_init 467 = .ok (.bipush 45, 2) := by decide +kernel
theorem dX6_init_469 : decode cX6_init 469 = .ok (.bipush 114, 2) := by decide +kernel
theorem dX6_init_471 : decode cX6_init 471 = .ok (.iastore, 1) := by decide +kernel
theorem dX6_init_472 : decode cX6_init 472 = .ok (.dup, 1) := by decide +kernel
theorem dX6_init_473 : decode cX6_init 473 = .ok (.bipush 46, 2) := by decide +kernel
theorem dX6_init_475 : decode cX6_init 475 = .ok (.bipush 101, 2) := by decide +kernel
theorem dX6_init_477 : decode cX6_init 477 = .ok (.iastore, 1) := by decide +kernel
theorem dX6_init_478 : decode cX6_init 478 = .ok (.dup, 1) := by decide +kernel
theorem dX6_init_479 : decode cX6_init 479 = .ok (.bipush 47, 2) := by decide +kernel
theorem dX6_init_481 : decode cX6_init 481 = .ok (.bipush 121, 2) := by decide +kernel
theorem dX6_init_483 : decode cX6_init 483 = .ok (.iastore, 1) := by decide +kernel
theorem dX6_init_484 : decode cX6_init 484 = .ok (.dup, 1) := by decide +kernel
theorem dX6_init_485 : decode cX6_init 485 = .ok (.bipush 48, 2) := by decide +kernel
theorem dX6_init_487 : decode cX6_init 487 = .ok (.bipush 119, 2) := by decide +kernel
theorem dX6_init_489 : decode cX6_init 489 = .ok (.iastore, 1) := by decide +kernel
theorem dX6_init_490 : decode cX6_init 490 = .ok (.dup, 1) := by decide +kernel
theorem dX6_init_491 : decode cX6_init 491 = .ok (.bipush 49, 2) := by decide +kernel
theorem dX6_init_493 : decode cX6_init 493 = .ok (.bipush 101, 2) := by decide +kernel
theorem dX6_init_495 : decode cX6_init 495 = .ok (.iastore, 1) := by decide +kernel
theorem dX6_init_496 : decode cX6_init 496 = .ok (.dup, 1) := by decide +kernel
theorem dX6_init_497 : decode cX6_init 497 = .ok (.bipush 50, 2) := by decide +kernel
theorem dX6_init_499 : decode cX6_init 499 = .ok (.bipush 116, 2) := by decide +kernel
theorem dX6_init_501 : decode cX6_init 501 = .ok (.iastore, 1) := by decide +kernel
theorem dX6_init_502 : decode cX6_init 502 = .ok (.dup, 1) := by decide +kernel
theorem dX6_init_503 : decode cX6_init 503 = .ok (.bipush 51, 2) := by decide +kernel
theorem dX6_init_505 : decode cX6_init 505 = .ok (.bipush 102, 2) := by decide +kernel
theorem dX6_init_507 : decode cX6_init 507 = .ok (.iastore, 1) := by decide +kernel
theorem dX6_init_508 : decode cX6_init 508 = .ok (.dup, 1) := by decide +kernel
theorem dX6_init_509 : decode cX6_init 509 = .ok (.bipush 52, 2) := by decide +kernel
theorem dX6_init_511 : decode cX6_init 511 = .ok (.bipush 114, 2) := by decide +kernel
theorem dX6_init_513 : decode cX6_init 513 = .ok (.iastore, 1) := by decide +kernel
theorem dX6_init_514 : decode cX6_init 514 = .ok (.dup, 1) := by decide +kernel
theorem dX6_init_515 : decode cX6_init 515 = .ok (.bipush 53, 2) := by decide +kernel
theorem dX6_init_517 : decode cX6_init 517 = .ok (.bipush 111, 2) := by decide +kernel
theorem dX6_init_519 : decode cX6_init 519 = .ok (.iastore, 1) := by decide +kernel
theorem dX6_init_520 : decode cX6_init 520 = .ok (.dup, 1) := by decide +kernel
theorem dX6_init_521 : decode cX6_init 521 = .ok (.bipush 54, 2) := by decide +kernel
theorem dX6_init_523 : decode cX6_init 523 = .ok (.bipush 115, 2) := by decide +kernel
theorem dX6_init_525 : decode cX6_init 525 = .ok (.iastore, 1) := by decide +kernel
theorem dX6_init_526 : decode cX6_init 526 = .ok (.dup, 1) := by decide +kernel
theorem dX6_init_527 : decode cX6_init 527 = .ok (.bipush 55, 2) := by decide +kernel
theorem dX6_init_529 : decode cX6_init 529 = .ok (.bipush 116, 2) := by decide +kernel
theorem dX6_init_531 : decode cX6_init 531 = .ok (.iastore, 1) := by decide +kernel
theorem dX6_init_532 : decode cX6_init 532 = .ok (.putfield 25, 3) := by decide +kernel
theorem dX6_init_535 : decode cX6_init 535 = .ok (.aload_n 0, 1) := by decide +kernel
theorem dX6_init_536 : decode cX6_init 536 = .ok (.bipush 16, 2) := by decide +kernel
theorem dX6_init_538 : decode cX6_init 538 = .ok (.newarray .int, 2) := by decide +kernel
theorem dX6_init_540 : decode cX6_init 540 = .ok (.putfield 28, 3) := by decide +kernel
theorem dX6_init_543 : decode cX6_init 543 = .ok (.aload_n 0, 1) := by decide +kernel
theorem dX6_init_544 : decode cX6_init 544 = .ok (.bipush 18, 2) := by decide +kernel
theorem dX6_init_546 : decode cX6_init 546 = .ok (.newarray .int, 2) := by decide +kernel
theorem dX6_init_548 : decode cX6_init 548 = .ok (.putfield 31, 3) := by decide +kernel
theorem dX6_init_551 : decode cX6_init 551 = .ok (.aload_n 0, 1) := by decide +kernel
theorem dX6_init_552 : decode cX6_init 552 = .ok (.sipush 4096, 3) := by decide +kernel
theorem dX6_init_555 : decode cX6_init 555 = .ok (.newarray .int, 2) := by decide +kernel
theorem dX6_init_557 : decode cX6_init 557 = .ok (.putfield 34, 3) := by decide +kernel
theorem dX6_init_560 : decode cX6_init 560 = .ok (.aload_n 0, 1) := by decide +kernel
theorem dX6_init_561 : decode cX6_init 561 = .ok (.sipush 256, 3) := by decide +kernel
theorem dX6_init_564 : decode cX6_init 564 = .ok (.newarray .boolean, 2) := by decide +kernel
theorem dX6_init_566 : decode cX6_init 566 = .ok (.putfield 37, 3) := by decide +kernel
theorem dX6_init_569 : decode cX6_init 569 = .ok (.aload_n 0, 1) := by decide +kernel
theorem dX6_init_570 : decode cX6_init 570 = .ok (.iconst 2, 1) := by decide +kernel
theorem dX6_init_571 : decode cX6_init 571 = .ok (.newarray .boolean, 2) := by decide +kernel
theorem dX6_init_573 : decode cX6_init 573 = .ok (.putfield 41, 3) := by decide +kernel
theorem dX6_init_576 : decode cX6_init 576 = .ok (.aload_n 0, 1) := by decide +kernel
theorem dX6_init_577 : decode cX6_init 577 = .ok (.iconst 4, 1) := by decide +kernel
theorem dX6_init_578 : decode cX6_init 578 = .ok (.newarray .int, 2) := by decide +kernel
theorem dX6_init_580 : decode cX6_init 580 = .ok (.dup, 1) := by decide +kernel
theorem dX6_init_581 : decode cX6_init 581 = .ok (.iconst 0, 1) := by decide +kernel
theorem dX6_init_582 : decode cX6_init 582 = .ok (.bipush (-4), 2) := by decide +kernel
theorem dX6_init_584 : decode cX6_init 584 = .ok (.iastore, 1) := by decide +kernel
theorem dX6_init_585 : decode cX6_init 585 = .ok (.dup, 1) := by decide +kernel
theorem dX6_init_586 : decode cX6_init 586 = .ok (.iconst 1, 1) := by decide +kernel
theorem dX6_init_587 : decode cX6_init 587 = .ok (.bipush (-4), 2) := by decide +kernel
theorem dX6_init_589 : decode cX6_init 589 = .ok (.iastore, 1) := by decide +kernel
theorem dX6_init_590 : decode cX6_init 590 = .ok (.dup, 1) := by decide +kernel
theorem dX6_init_591 : decode cX6_init 591 = .ok (.iconst 2, 1) := by decide +kernel
theorem dX6_init_592 : decode cX6_init 592 = .ok (.bipush (-4), 2) := by decide +kernel
theorem dX6_init_594 : decode cX6_init 594 = .ok (.iastore, 1) := by decide +kernel
theorem dX6_init_595 : decode cX6_init 595 = .ok (.dup, 1) := by decide +kernel
theorem dX6_init_596 : decode cX6_init 596 = .ok (.iconst 3, 1) := by decide +kernel
theorem dX6_init_597 : decode cX6_init 597 = .ok (.bipush (-4), 2) := by decide +kernel
theorem dX6_init_599 : decode cX6_init 599 = .ok (.iastore, 1) := by decide +kernel
theorem dX6_init_600 : decode cX6_init 600 = .ok (.putfield 44, 3) := by decide +kernel
theorem dX6_init_603 : decode cX6_init 603 = .ok (.aload_n 0, 1) := by decide +kernel
theorem dX6_init_604 : decode cX6_init 604 = .ok (.iconst 4, 1) := by decide +kernel
theorem dX6_init_605 : decode cX6_init 605 = .ok (.newarray .int, 2) := by decide +kernel
theorem dX6_init_607 : decode cX6_init 607 = .ok (.putfield 47, 3) := by decide +kernel
theorem dX6_init_610 : decode cX6_init 610 = .ok (.aload_n 0, 1) := by decide +kernel
theorem dX6_init_611 : decode cX6_init 611 = .ok (.sipush 160, 3) := by decide +kernel
theorem dX6_init_614 : decode cX6_init 614 = .ok (.newarray .int, 2) := by decide +kernel
theorem dX6_init_616 : decode cX6_init 616 = .ok (.putfield 50, 3) := by decide +kernel
theorem dX6_init_619 : decode cX6_init 619 = .ok (.return_, 1) := by decide +kernel
theorem dX6_in_0 : decode cX6_in 0 = .ok (.lload_n 0, 1) := by decide +kernel
theorem dX6_in_1 : decode cX6_in 1 = .ok (.lload_n 2, 1) := by decide +kernel
theorem dX6_in_2 : decode cX6_in 2 = .ok (.lcmp, 1) := by decide +kernel
theorem dX6_in_3 : decode cX6_in 3 = .ok (.ifCond .lt 14, 3) := by decide +kernel
theorem dX6_in_6 : decode cX6_in 6 = .ok (.lload_n 0, 1) := by decide +kernel
theorem dX6_in_7 : decode cX6_in 7 = .ok (.lload 4, 2) := by decide +kernel
theorem dX6_in_9 : decode cX6_in 9 = .ok (.lcmp, 1) := by decide +kernel
theorem dX6_in_10 : decode cX6_in 10 = .ok (.ifCond .gt 7, 3) := by decide +kernel
theorem dX6_in_13 : decode cX6_in 13 = .ok (.iconst 1, 1) := by decide +kernel
theorem dX6_in_14 : decode cX6_in 14 = .ok (.goto 4, 3) := by decide +kernel
theorem dX6_in_17 : decode cX6_in 17 = .ok (.iconst 0, 1) := by decide +kernel
theorem dX6_in_18 : decode cX6_in 18 = .ok (.ireturn, 1) := by decide +kernel
theorem dX6_feed_0 : decode cX6_feed 0 = .ok (.iload_n 1, 1) := by decide +kernel
theorem dX6_feed_1 : decode cX6_feed 1 = .ok (.i2l, 1) := by decide +kernel
theorem dX6_feed_2 : decode cX6_feed 2 = .ok (.lconst 0, 1) := by decide +kernel
theorem dX6_feed_3 : decode cX6_feed 3 = .ok (.ldc2_w 53, 3) := by decide +kernel
theorem dX6_feed_6 : decode cX6_feed 6 = .ok (.invokestatic 55, 3) := by decide +kernel
theorem dX6_feed_9 : decode cX6_feed 9 = .ok (.ifCond .ne 5, 3) := by decide +kernel
theorem dX6_feed_12 : decode cX6_feed 12 = .ok (.iconst (-1), 1) := by decide +kernel
theorem dX6_feed_13 : decode cX6_feed 13 = .ok (.ireturn, 1) := by decide +kernel
theorem dX6_feed_14 : decode cX6_feed 14 = .ok (.aload_n 0, 1) := by decide +kernel
theorem dX6_feed_15 : decode cX6_feed 15 = .ok (.getfield 59, 3) := by decide +kernel
theorem dX6_feed_18 : decode cX6_feed 18 = .ok (.sipush 160, 3) := by decide +kernel
theorem dX6_feed_21 : decode cX6_feed 21 = .ok (.if_icmp .ne 6, 3) := by decide +kernel
theorem dX6_feed_24 : decode cX6_feed 24 = .ok (.bipush (-3), 2) := by decide +kernel
theorem dX6_feed_26 : decode cX6_feed 26 = .ok (.ireturn, 1) := by decide +kernel
theorem dX6_feed_27 : decode cX6_feed 27 = .ok (.aload_n 0, 1) := by decide +kernel
theorem dX6_feed_28 : decode cX6_feed 28 = .ok (.getfield 19, 3) := by decide +kernel
theorem dX6_feed_31 : decode cX6_feed 31 = .ok (.aload_n 0, 1) := by decide +kernel
theorem dX6_feed_32 : decode cX6_feed 32 = .ok (.getfield 59, 3) := by decide +kernel
theorem dX6_feed_35 : decode cX6_feed 35 = .ok (.iload_n 1, 1) := by decide +kernel
theorem dX6_feed_36 : decode cX6_feed 36 = .ok (.iastore, 1) := by decide +kernel
theorem dX6_feed_37 : decode cX6_feed 37 = .ok (.aload_n 0, 1) := by decide +kernel
theorem dX6_feed_38 : decode cX6_feed 38 = .ok (.dup, 1) := by decide +kernel
theorem dX6_feed_39 : decode cX6_feed 39 = .ok (.getfield 59, 3) := by decide +kernel
theorem dX6_feed_42 : decode cX6_feed 42 = .ok (.iconst 1, 1) := by decide +kernel
theorem dX6_feed_43 : decode cX6_feed 43 = .ok (.iadd, 1) := by decide +kernel
theorem dX6_feed_44 : decode cX6_feed 44 = .ok (.putfield 59, 3) := by decide +kernel
theorem dX6_feed_47 : decode cX6_feed 47 = .ok (.aload_n 0, 1) := by decide +kernel
theorem dX6_feed_48 : decode cX6_feed 48 = .ok (.getfield 59, 3) := by decide +kernel
theorem dX6_feed_51 : decode cX6_feed 51 = .ok (.ireturn, 1) := by decide +kernel
theorem dX6_end_0 : decode cX6_end 0 = .ok (.iload_n 1, 1) := by decide +kernel
theorem dX6_end_1 : decode cX6_end 1 = .ok (.i2l, 1) := by decide +kernel
theorem dX6_end_2 : decode cX6_end 2 = .ok (.lconst 0, 1) := by decide +kernel
theorem dX6_end_3 : decode cX6_end 3 = .ok (.aload_n 0, 1) := by decide +kernel
theorem dX6_end_4 : decode cX6_end 4 = .ok (.getfield 59, 3) := by decide +kernel
theorem dX6_end_7 : decode cX6_end 7 = .ok (.i2l, 1) := by decide +kernel
theorem dX6_end_8 : decode cX6_end 8 = .ok (.invokestatic 55, 3) := by decide +kernel
theorem dX6_end_11 : decode cX6_end 11 = .ok (.ifCond .ne 5, 3) := by decide +kernel
theorem dX6_end_14 : decode cX6_end 14 = .ok (.iconst (-1), 1) := by decide +kernel
theorem dX6_end_15 : decode cX6_end 15 = .ok (.ireturn, 1) := by decide +kernel
theorem dX6_end_16 : decode cX6_end 16 = .ok (.aload_n 0, 1) := by decide +kernel
theorem dX6_end_17 : decode cX6_end 17 = .ok (.getfield 59, 3) := by decide +kernel
theorem dX6_end_20 : decode cX6_end 20 = .ok (.istore_n 2, 1) := by decide +kernel
theorem dX6_end_21 : decode cX6_end 21 = .ok (.aload_n 0, 1) := by decide +kernel
theorem dX6_end_22 : decode cX6_end 22 = .ok (.iload_n 1, 1) := by decide +kernel
theorem dX6_end_23 : decode cX6_end 23 = .ok (.putfield 59, 3) := by decide +kernel
theorem dX6_end_26 : decode cX6_end 26 = .ok (.iload_n 2, 1) := by decide +kernel
theorem dX6_end_27 : decode cX6_end 27 = .ok (.ireturn, 1) := by decide +kernel
theorem dX6_byteAt_0 : decode cX6_byteAt 0 = .ok (.iload_n 1, 1) := by decide +kernel
theorem dX6_byteAt_1 : decode cX6_byteAt 1 = .ok (.aload_n 0, 1) := by decide +kernel
theorem dX6_byteAt_2 : decode cX6_byteAt 2 = .ok (.getfield 59, 3) := by decide +kernel
theorem dX6_byteAt_5 : decode cX6_byteAt 5 = .ok (.if_icmp .ge 12, 3) := by decide +kernel
theorem dX6_byteAt_8 : decode cX6_byteAt 8 = .ok (.aload_n 0, 1) := by decide +kernel
theorem dX6_byteAt_9 : decode cX6_byteAt 9 = .ok (.getfield 19, 3) := by decide +kernel
theorem dX6_byteAt_12 : decode cX6_byteAt 12 = .ok (.iload_n 1, 1) := by decide +kernel
theorem dX6_byteAt_13 : decode cX6_byteAt 13 = .ok (.iaload, 1) := by decide +kernel
theorem dX6_byteAt_14 : decode cX6_byteAt 14 = .ok (.goto 5, 3) := by decide +kernel
theorem dX6_byteAt_17 : decode cX6_byteAt 17 = .ok (.bipush (-4), 2) := by decide +kernel
theorem dX6_byteAt_19 : decode cX6_byteAt 19 = .ok (.ireturn, 1) := by decide +kernel
theorem dX6_fails_0 : decode cX6_fails 0 = .ok (.aload_n 0, 1) := by decide +kernel
theorem dX6_fails_1 : decode cX6_fails 1 = .ok (.getfield 63, 3) := by decide +kernel
theorem dX6_fails_4 : decode cX6_fails 4 = .ok (.ifCond .ne 16, 3) := by decide +kernel
theorem dX6_fails_7 : decode cX6_fails 7 = .ok (.aload_n 0, 1) := by decide +kernel
theorem dX6_fails_8 : decode cX6_fails 8 = .ok (.iload_n 1, 1) := by decide +kernel
theorem dX6_fails_9 : decode cX6_fails 9 = .ok (.putfield 63, 3) := by decide +kernel
theorem dX6_fails_12 : decode cX6_fails 12 = .ok (.aload_n 0, 1) := by decide +kernel
theorem dX6_fails_13 : decode cX6_fails 13 = .ok (.aload_n 0, 1) := by decide +kernel
theorem dX6_fails_14 : decode cX6_fails 14 = .ok (.getfield 66, 3) := by decide +kernel
theorem dX6_fails_17 : decode cX6_fails 17 = .ok (.putfield 69, 3) := by decide +kernel
theorem dX6_fails_20 : decode cX6_fails 20 = .ok (.return_, 1) := by decide +kernel
theorem dX6_nameHere_0 : decode cX6_nameHere 0 = .ok (.iconst 0, 1) := by decide +kernel
theorem dX6_nameHere_1 : decode cX6_nameHere 1 = .ok (.istore_n 1, 1) := by decide +kernel
theorem dX6_nameHere_2 : decode cX6_nameHere 2 = .ok (.iload_n 1, 1) := by decide +kernel
theorem dX6_nameHere_3 : decode cX6_nameHere 3 = .ok (.bipush 12, 2) := by decide +kernel
theorem dX6_nameHere_5 : decode cX6_nameHere 5 = .ok (.if_icmp .ge 113, 3) := by decide +kernel
theorem dX6_nameHere_8 : decode cX6_nameHere 8 = .ok (.aload_n 0, 1) := by decide +kernel
theorem dX6_nameHere_9 : decode cX6_nameHere 9 = .ok (.getfield 72, 3) := by decide +kernel
theorem dX6_nameHere_12 : decode cX6_nameHere 12 = .ok (.iconst 1, 1) := by decide +kernel
theorem dX6_nameHere_13 : decode cX6_nameHere 13 = .ok (.if_icmp .ne 105, 3) := by decide +kernel
theorem dX6_nameHere_16 : decode cX6_nameHere 16 = .ok (.aload_n 0, 1) := by decide +kernel
theorem dX6_nameHere_17 : decode cX6_nameHere 17 = .ok (.getfield 75, 3) := by decide +kernel
theorem dX6_nameHere_20 : decode cX6_nameHere 20 = .ok (.aload_n 0, 1) := by decide +kernel
theorem dX6_nameHere_21 : decode cX6_nameHere 21 = .ok (.getfield 66, 3) := by decide +kernel
theorem dX6_nameHere_24 : decode cX6_nameHere 24 = .ok (.isub, 1) := by decide +kernel
theorem dX6_nameHere_25 : decode cX6_nameHere 25 = .ok (.aload_n 0, 1) := by decide +kernel
theorem dX6_nameHere_26 : decode cX6_nameHere 26 = .ok (.getfield 22, 3) := by decide +kernel
theorem dX6_nameHere_29 : decode cX6_nameHere 29 = .ok (.iload_n 1, 1) := by decide +kernel
theorem dX6_nameHere_30 : decode cX6_nameHere 30 = .ok (.iconst 1, 1) := by decide +kernel
theorem dX6_nameHere_31 : decode cX6_nameHere 31 = .ok (.iadd, 1) := by decide +kernel
theorem dX6_nameHere_32 : decode cX6_nameHere 32 = .ok (.iaload, 1) := by decide +kernel
theorem dX6_nameHere_33 : decode cX6_nameHere 33 = .ok (.aload_n 0, 1) := by decide +kernel
theorem dX6_nameHere_34 : decode cX6_nameHere 34 = .ok (.getfield 22, 3) := by decide +kernel
theorem dX6_nameHere_37 : decode cX6_nameHere 37 = .ok (.iload_n 1, 1) := by decide +kernel
theorem dX6_nameHere_38 : decode cX6_nameHere 38 = .ok (.iaload, 1) := by decide +kernel
theorem dX6_nameHere_39 : decode cX6_nameHere 39 = .ok (.isub, 1) := by decide +kernel
theorem dX6_nameHere_40 : decode cX6_nameHere 40 = .ok (.if_icmp .ne 7, 3) := by decide +kernel
theorem dX6_nameHere_43 : decode cX6_nameHere 43 = .ok (.iconst 1, 1) := by decide +kernel
theorem dX6_nameHere_44 : decode cX6_nameHere 44 = .ok (.goto 4, 3) := by decide +kernel
theorem dX6_nameHere_47 : decode cX6_nameHere 47 = .ok (.iconst 0, 1) := by decide +kernel
theorem dX6_nameHere_48 : decode cX6_nameHere 48 = .ok (.istore_n 2, 1) := by decide +kernel
theorem dX6_nameHere_49 : decode cX6_nameHere 49 = .ok (.iconst 0, 1) := by decide +kernel
theorem dX6_nameHere_50 : decode cX6_nameHere 50 = .ok (.istore_n 3, 1) := by decide +kernel
theorem dX6_nameHere_51 : decode cX6_nameHere 51 = .ok (.iload_n 2, 1) := by decide +kernel
theorem dX6_nameHere_52 : decode cX6_nameHere 52 = .ok (.ifCond .eq 54, 3) := by decide +kernel
theorem dX6_nameHere_55 : decode cX6_nameHere 55 = .ok (.iload_n 3, 1) := by decide +kernel
theorem dX6_nameHere_56 : decode cX6_nameHere 56 = .ok (.aload_n 0, 1) := by decide +kernel
theorem dX6_nameHere_57 : decode cX6_nameHere 57 = .ok (.getfield 75, 3) := by decide +kernel
theorem dX6_nameHere_60 : decode cX6_nameHere 60 = .ok (.aload_n 0, 1) := by decide +kernel
theorem dX6_nameHere_61 : decode cX6_nameHere 61 = .ok (.getfield 66, 3) := by decide +kernel
theorem dX6_nameHere_64 : decode cX6_nameHere 64 = .ok (.isub, 1) := by decide +kernel
theorem dX6_nameHere_65 : decode cX6_nameHere 65 = .ok (.if_icmp .ge 41, 3) := by decide +kernel
theorem dX6_nameHere_68 : decode cX6_nameHere 68 = .ok (.aload_n 0, 1) := by decide +kernel
theorem dX6_nameHere_69 : decode cX6_nameHere 69 = .ok (.aload_n 0, 1) := by decide +kernel
theorem dX6_nameHere_70 : decode cX6_nameHere 70 = .ok (.getfield 66, 3) := by decide +kernel
theorem dX6_nameHere_73 : decode cX6_nameHere 73 = .ok (.iload_n 3, 1) := by decide +kernel
theorem dX6_nameHere_74 : decode cX6_nameHere 74 = .ok (.iadd, 1) := by decide +kernel
theorem dX6_nameHere_75 : decode cX6_nameHere 75 = .ok (.invokevirtual 78, 3) := by decide +kernel
theorem dX6_nameHere_78 : decode cX6_nameHere 78 = .ok (.aload_n 0, 1) := by decide +kernel
theorem dX6_nameHere_79 : decode cX6_nameHere 79 = .ok (.getfield 25, 3) := by decide +kernel
theorem dX6_nameHere_82 : decode cX6_nameHere 82 = .ok (.aload_n 0, 1) := by decide +kernel
theorem dX6_nameHere_83 : decode cX6_nameHere 83 = .ok (.getfield 22, 3) := by decide +kernel
theorem dX6_nameHere_86 : decode cX6_nameHere 86 = .ok (.iload_n 1, 1) := by decide +kernel
theorem dX6_nameHere_87 : decode cX6_nameHere 87 = .ok (.iaload, 1) := by decide +kernel
theorem dX6_nameHere_88 : decode cX6_nameHere 88 = .ok (.iload_n 3, 1) := by decide +kernel
theorem dX6_nameHere_89 : decode cX6_nameHere 89 = .ok (.iadd, 1) := by decide +kernel
theorem dX6_nameHere_90 : decode cX6_nameHere 90 = .ok (.iaload, 1) := by decide +kernel
theorem dX6_nameHere_91 : decode cX6_nameHere 91 = .ok (.if_icmp .ne 7, 3) := by decide +kernel
theorem dX6_nameHere_94 : decode cX6_nameHere 94 = .ok (.iconst 1, 1) := by decide +kernel
theorem dX6_nameHere_95 : decode cX6_nameHere 95 = .ok (.goto 4, 3) := by decide +kernel
theorem dX6_nameHere_98 : decode cX6_nameHere 98 = .ok (.iconst 0, 1) := by decide +kernel
theorem dX6_nameHere_99 : decode cX6_nameHere 99 = .ok (.istore_n 2, 1) := by decide +kernel
theorem dX6_nameHere_100 : decode cX6_nameHere 100 = .ok (.iinc 3 1, 3) := by decide +kernel
theorem dX6_nameHere_103 : decode cX6_nameHere 103 = .ok (.goto (-52), 3) := by decide +kernel
theorem dX6_nameHere_106 : decode cX6_nameHere 106 = .ok (.iload_n 2, 1) := by decide +kernel
theorem dX6_nameHere_107 : decode cX6_nameHere 107 = .ok (.ifCond .eq 5, 3) := by decide +kernel
theorem dX6_nameHere_110 : decode cX6_nameHere 110 = .ok (.iload_n 1, 1) := by decide +kernel
theorem dX6_nameHere_111 : decode cX6_nameHere 111 = .ok (.ireturn, 1) := by decide +kernel
theorem dX6_nameHere_112 : decode cX6_nameHere 112 = .ok (.iinc 1 1, 3) := by decide +kernel
theorem dX6_nameHere_115 : decode cX6_nameHere 115 = .ok (.goto (-113), 3) := by decide +kernel
theorem dX6_nameHere_118 : decode cX6_nameHere 118 = .ok (.bipush (-4), 2) := by decide +kernel
theorem dX6_nameHere_120 : decode cX6_nameHere 120 = .ok (.ireturn, 1) := by decide +kernel
theorem dX6_step_0 : decode cX6_step 0 = .ok (.aload_n 0, 1) := by decide +kernel
theorem dX6_step_1 : decode cX6_step 1 = .ok (.getfield 63, 3) := by decide +kernel
theorem dX6_step_4 : decode cX6_step 4 = .ok (.ifCond .le 4, 3) := by decide +kernel
theorem dX6_step_7 : decode cX6_step 7 = .ok (.return_, 1) := by decide +kernel
theorem dX6_step_8 : decode cX6_step 8 = .ok (.aload_n 0, 1) := by decide +kernel
theorem dX6_step_9 : decode cX6_step 9 = .ok (.aload_n 0, 1) := by decide +kernel
theorem dX6_step_10 : decode cX6_step 10 = .ok (.getfield 75, 3) := by decide +kernel
theorem dX6_step_13 : decode cX6_step 13 = .ok (.invokevirtual 78, 3) := by decide +kernel
theorem dX6_step_16 : decode cX6_step 16 = .ok (.bipush 32, 2) := by decide +kernel
theorem dX6_step_18 : decode cX6_step 18 = .ok (.if_icmp .ne 16, 3) := by decide +kernel
theorem dX6_step_21 : decode cX6_step 21 = .ok (.aload_n 0, 1) := by decide +kernel
theorem dX6_step_22 : decode cX6_step 22 = .ok (.dup, 1) := by decide +kernel
theorem dX6_step_23 : decode cX6_step 23 = .ok (.getfield 75, 3) := by decide +kernel
theorem dX6_step_26 : decode cX6_step 26 = .ok (.iconst 1, 1) := by decide +kernel
theorem dX6_step_27 : decode cX6_step 27 = .ok (.iadd, 1) := by decide +kernel
theorem dX6_step_28 : decode cX6_step 28 = .ok (.putfield 75, 3) := by decide +kernel
theorem dX6_step_31 : decode cX6_step 31 = .ok (.goto (-23), 3) := by decide +kernel
theorem dX6_step_34 : decode cX6_step 34 = .ok (.aload_n 0, 1) := by decide +kernel
theorem dX6_step_35 : decode cX6_step 35 = .ok (.aload_n 0, 1) := by decide +kernel
theorem dX6_step_36 : decode cX6_step 36 = .ok (.getfield 75, 3) := by decide +kernel
theorem dX6_step_39 : decode cX6_step 39 = .ok (.putfield 66, 3) := by decide +kernel
theorem dX6_step_42 : decode cX6_step 42 = .ok (.aload_n 0, 1) := by decide +kernel
theorem dX6_step_43 : decode cX6_step 43 = .ok (.aload_n 0, 1) := by decide +kernel
theorem dX6_step_44 : decode cX6_step 44 = .ok (.getfield 75, 3) := by decide +kernel
theorem dX6_step_47 : decode cX6_step 47 = .ok (.invokevirtual 78, 3) := by decide +kernel
theorem dX6_step_50 : decode cX6_step 50 = .ok (.istore_n 1, 1) := by decide +kernel
theorem dX6_step_51 : decode cX6_step 51 = .ok (.aload_n 0, 1) := by decide +kernel
theorem dX6_step_52 : decode cX6_step 52 = .ok (.iconst 0, 1) := by decide +kernel
theorem dX6_step_53 : decode cX6_step 53 = .ok (.putfield 82, 3) := by decide +kernel
theorem dX6_step_56 : decode cX6_step 56 = .ok (.iload_n 1, 1) := by decide +kernel
theorem dX6_step_57 : decode cX6_step 57 = .ok (.bipush (-4), 2) := by decide +kernel
theorem dX6_step_59 : decode cX6_step 59 = .ok (.if_icmp .ne 11, 3) := by decide +kernel
theorem dX6_step_62 : decode cX6_step 62 = .ok (.aload_n 0, 1) := by decide +kernel
theorem dX6_step_63 : decode cX6_step 63 = .ok (.iconst 0, 1) := by decide +kernel
theorem dX6_step_64 : decode cX6_step 64 = .ok (.putfield 72, 3) := by decide +kernel
theorem dX6_step_67 : decode cX6_step 67 = .ok (.goto 202, 3) := by decide +kernel
theorem dX6_step_70 : decode cX6_step 70 = .ok (.iload_n 1, 1) := by decide +kernel
theorem dX6_step_71 : decode cX6_step 71 = .ok (.i2l, 1) := by decide +kernel
theorem dX6_step_72 : decode cX6_step 72 = .ok (.ldc2_w 85, 3) := by decide +kernel
theorem dX6_step_75 : decode cX6_step 75 = .ok (.ldc2_w 87, 3) := by decide +kernel
theorem dX6_step_78 : decode cX6_step 78 = .ok (.invokestatic 55, 3) := by decide +kernel
theorem dX6_step_81 : decode cX6_step 81 = .ok (.ifCond .eq 45, 3) := by decide +kernel
theorem dX6_step_84 : decode cX6_step 84 = .ok (.aload_n 0, 1) := by decide +kernel
theorem dX6_step_85 : decode cX6_step 85 = .ok (.aload_n 0, 1) := by decide +kernel
theorem dX6_step_86 : decode cX6_step 86 = .ok (.getfield 75, 3) := by decide +kernel
theorem dX6_step_89 : decode cX6_step 89 = .ok (.invokevirtual 78, 3) := by decide +kernel
theorem dX6_step_92 : decode cX6_step 92 = .ok (.i2l, 1) := by decide +kernel
theorem dX6_step_93 : decode cX6_step 93 = .ok (.ldc2_w 85, 3) := by decide +kernel
theorem dX6_step_96 : decode cX6_step 96 = .ok (.ldc2_w 87, 3) := by decide +kernel
theorem dX6_step_99 : decode cX6_step 99 = .ok (.invokestatic 55, 3) := by decide +kernel
theorem dX6_step_102 : decode cX6_step 102 = .ok (.ifCond .eq 16, 3) := by decide +kernel
theorem dX6_step_105 : decode cX6_step 105 = .ok (.aload_n 0, 1) := by decide +kernel
theorem dX6_step_106 : decode cX6_step 106 = .ok (.dup, 1) := by decide +kernel
theorem dX6_step_107 : decode cX6_step 107 = .ok (.getfield 75, 3) := by decide +kernel
theorem dX6_step_110 : decode cX6_step 110 = .ok (.iconst 1, 1) := by decide +kernel
theorem dX6_step_111 : decode cX6_step 111 = .ok (.iadd, 1) := by decide +kernel
theorem dX6_step_112 : decode cX6_step 112 = .ok (.putfield 75, 3) := by decide +kernel
theorem dX6_step_115 : decode cX6_step 115 = .ok (.goto (-31), 3) := by decide +kernel
theorem dX6_step_118 : decode cX6_step 118 = .ok (.aload_n 0, 1) := by decide +kernel
theorem dX6_step_119 : decode cX6_step 119 = .ok (.iconst 1, 1) := by decide +kernel
theorem dX6_step_120 : decode cX6_step 120 = .ok (.putfield 72, 3) := by decide +kernel
theorem dX6_step_123 : decode cX6_step 123 = .ok (.goto 146, 3) := by decide +kernel
theorem dX6_step_126 : decode cX6_step 126 = .ok (.iload_n 1, 1) := by decide +kernel
theorem dX6_step_127 : decode cX6_step 127 = .ok (.i2l, 1) := by decide +kernel
theorem dX6_step_128 : decode cX6_step 128 = .ok (.ldc2_w 89, 3) := by decide +kernel
theorem dX6_step_131 : decode cX6_step 131 = .ok (.ldc2_w 91, 3) := by decide +kernel
theorem dX6_step_134 : decode cX6_step 134 = .ok (.invokestatic 55, 3) := by decide +kernel
theorem dX6_step_137 : decode cX6_step 137 = .ok (.ifCond .eq 106, 3) := by decide +kernel
theorem dX6_step_140 : decode cX6_step 140 = .ok (.aload_n 0, 1) := by decide +kernel
theorem dX6_step_141 : decode cX6_step 141 = .ok (.aload_n 0, 1) := by decide +kernel
theorem dX6_step_142 : decode cX6_step 142 = .ok (.getfield 75, 3) := by decide +kernel
theorem dX6_step_145 : decode cX6_step 145 = .ok (.invokevirtual 78, 3) := by decide +kernel
theorem dX6_step_148 : decode cX6_step 148 = .ok (.i2l, 1) := by decide +kernel
theorem dX6_step_149 : decode cX6_step 149 = .ok (.ldc2_w 89, 3) := by decide +kernel
theorem dX6_step_152 : decode cX6_step 152 = .ok (.ldc2_w 91, 3) := by decide +kernel
theorem dX6_step_155 : decode cX6_step 155 = .ok (.invokestatic 55, 3) := by decide +kernel
theorem dX6_step_158 : decode cX6_step 158 = .ok (.ifCond .eq 59, 3) := by decide +kernel
theorem dX6_step_161 : decode cX6_step 161 = .ok (.aload_n 0, 1) := by decide +kernel
theorem dX6_step_162 : decode cX6_step 162 = .ok (.aload_n 0, 1) := by decide +kernel
theorem dX6_step_163 : decode cX6_step 163 = .ok (.getfield 75, 3) := by decide +kernel
theorem dX6_step_166 : decode cX6_step 166 = .ok (.aload_n 0, 1) := by decide +kernel
theorem dX6_step_167 : decode cX6_step 167 = .ok (.getfield 66, 3) := by decide +kernel
theorem dX6_step_170 : decode cX6_step 170 = .ok (.isub, 1) := by decide +kernel
theorem dX6_step_171 : decode cX6_step 171 = .ok (.iconst 2, 1) := by decide +kernel
theorem dX6_step_172 : decode cX6_step 172 = .ok (.if_icmp .ge 25, 3) := by decide +kernel
theorem dX6_step_175 : decode cX6_step 175 = .ok (.bipush 10, 2) := by decide +kernel
theorem dX6_step_177 : decode cX6_step 177 = .ok (.aload_n 0, 1) := by decide +kernel
theorem dX6_step_178 : decode cX6_step 178 = .ok (.getfield 82, 3) := by decide +kernel
theorem dX6_step_181 : decode cX6_step 181 = .ok (.imul, 1) := by decide +kernel
theorem dX6_step_182 : decode cX6_step 182 = .ok (.aload_n 0, 1) := by decide +kernel
theorem dX6_step_183 : decode cX6_step 183 = .ok (.aload_n 0, 1) := by decide +kernel
theorem dX6_step_184 : decode cX6_step 184 = .ok (.getfield 75, 3) := by decide +kernel
theorem dX6_step_187 : decode cX6_step 187 = .ok (.invokevirtual 78, 3) := by decide +kernel
theorem dX6_step_190 : decode cX6_step 190 = .ok (.iadd, 1) := by decide +kernel
theorem dX6_step_191 : decode cX6_step 191 = .ok (.bipush 48, 2) := by decide +kernel
theorem dX6_step_193 : decode cX6_step 193 = .ok (.isub, 1) := by decide +kernel
theorem dX6_step_194 : decode cX6_step 194 = .ok (.goto 7, 3) := by decide +kernel
theorem dX6_step_197 : decode cX6_step 197 = .ok (.aload_n 0, 1) := by decide +kernel
theorem dX6_step_198 : decode cX6_step 198 = .ok (.getfield 82, 3) := by decide +kernel
theorem dX6_step_201 : decode cX6_step 201 = .ok (.putfield 82, 3) := by decide +kernel
theorem dX6_step_204 : decode cX6_step 204 = .ok (.aload_n 0, 1) := by decide +kernel
theorem dX6_step_205 : decode cX6_step 205 = .ok (.dup, 1) := by decide +kernel
theorem dX6_step_206 : decode cX6_step 206 = .ok (.getfield 75, 3) := by decide +kernel
theorem dX6_step_209 : decode cX6_step 209 = .ok (.iconst 1, 1) := by decide +kernel
theorem dX6_step_210 : decode cX6_step 210 = .ok (.iadd, 1) := by decide +kernel
theorem dX6_step_211 : decode cX6_step 211 = .ok (.putfield 75, 3) := by decide +kernel
theorem dX6_step_214 : decode cX6_step 214 = .ok (.goto (-74), 3) := by decide +kernel
theorem dX6_step_217 : decode cX6_step 217 = .ok (.aload_n 0, 1) := by decide +kernel
theorem dX6_step_218 : decode cX6_step 218 = .ok (.iconst 2, 1) := by decide +kernel
theorem dX6_step_219 : decode cX6_step 219 = .ok (.putfield 72, 3) := by decide +kernel
theorem dX6_step_222 : decode cX6_step 222 = .ok (.aload_n 0, 1) := by decide +kernel
theorem dX6_step_223 : decode cX6_step 223 = .ok (.getfield 75, 3) := by decide +kernel
theorem dX6_step_226 : decode cX6_step 226 = .ok (.aload_n 0, 1) := by decide +kernel
theorem dX6_step_227 : decode cX6_step 227 = .ok (.getfield 66, 3) := by decide +kernel
theorem dX6_step_230 : decode cX6_step 230 = .ok (.isub, 1) := by decide +kernel
theorem dX6_step_231 : decode cX6_step 231 = .ok (.iconst 2, 1) := by decide +kernel
theorem dX6_step_232 : decode cX6_step 232 = .ok (.if_icmp .le 37, 3) := by decide +kernel
theorem dX6_step_235 : decode cX6_step 235 = .ok (.aload_n 0, 1) := by decide +kernel
theorem dX6_step_236 : decode cX6_step 236 = .ok (.iconst 1, 1) := by decide +kernel
theorem dX6_step_237 : decode cX6_step 237 = .ok (.invokevirtual 93, 3) := by decide +kernel
theorem dX6_step_240 : decode cX6_step 240 = .ok (.goto 29, 3) := by decide +kernel
theorem dX6_step_243 : decode cX6_step 243 = .ok (.aload_n 0, 1) := by decide +kernel
theorem dX6_step_244 : decode cX6_step 244 = .ok (.iconst 3, 1) := by decide +kernel
theorem dX6_step_245 : decode cX6_step 245 = .ok (.putfield 72, 3) := by decide +kernel
theorem dX6_step_248 : decode cX6_step 248 = .ok (.aload_n 0, 1) := by decide +kernel
theorem dX6_step_249 : decode cX6_step 249 = .ok (.dup, 1) := by decide +kernel
theorem dX6_step_250 : decode cX6_step 250 = .ok (.getfield 75, 3) := by decide +kernel
theorem dX6_step_253 : decode cX6_step 253 = .ok (.iconst 1, 1) := by decide +kernel
theorem dX6_step_254 : decode cX6_step 254 = .ok (.iadd, 1) := by decide +kernel
theorem dX6_step_255 : decode cX6_step 255 = .ok (.putfield 75, 3) := by decide +kernel
theorem dX6_step_258 : decode cX6_step 258 = .ok (.iload_n 1, 1) := by decide +kernel
theorem dX6_step_259 : decode cX6_step 259 = .ok (.bipush 59, 2) := by decide +kernel
theorem dX6_step_261 : decode cX6_step 261 = .ok (.if_icmp .eq 8, 3) := by decide +kernel
theorem dX6_step_264 : decode cX6_step 264 = .ok (.aload_n 0, 1) := by decide +kernel
theorem dX6_step_265 : decode cX6_step 265 = .ok (.iconst 1, 1) := by decide +kernel
theorem dX6_step_266 : decode cX6_step 266 = .ok (.invokevirtual 93, 3) := by decide +kernel
theorem dX6_step_269 : decode cX6_step 269 = .ok (.return_, 1) := by decide +kernel
theorem dX6_number_0 : decode cX6_number 0 = .ok (.aload_n 0, 1) := by decide +kernel
theorem dX6_number_1 : decode cX6_number 1 = .ok (.getfield 63, 3) := by decide +kernel
theorem dX6_number_4 : decode cX6_number 4 = .ok (.ifCond .ne 16, 3) := by decide +kernel
theorem dX6_number_7 : decode cX6_number 7 = .ok (.aload_n 0, 1) := by decide +kernel
theorem dX6_number_8 : decode cX6_number 8 = .ok (.getfield 72, 3) := by decide +kernel
theorem dX6_number_11 : decode cX6_number 11 = .ok (.iconst 2, 1) := by decide +kernel
theorem dX6_number_12 : decode cX6_number 12 = .ok (.if_icmp .eq 8, 3) := by decide +kernel
theorem dX6_number_15 : decode cX6_number 15 = .ok (.aload_n 0, 1) := by decide +kernel
theorem dX6_number_16 : decode cX6_number 16 = .ok (.iconst 2, 1) := by decide +kernel
theorem dX6_number_17 : decode cX6_number 17 = .ok (.invokevirtual 93, 3) := by decide +kernel
theorem dX6_number_20 : decode cX6_number 20 = .ok (.aload_n 0, 1) := by decide +kernel
theorem dX6_number_21 : decode cX6_number 21 = .ok (.getfield 63, 3) := by decide +kernel
theorem dX6_number_24 : decode cX6_number 24 = .ok (.ifCond .ne 23, 3) := by decide +kernel
theorem dX6_number_27 : decode cX6_number 27 = .ok (.aload_n 0, 1) := by decide +kernel
theorem dX6_number_28 : decode cX6_number 28 = .ok (.getfield 82, 3) := by decide +kernel
theorem dX6_number_31 : decode cX6_number 31 = .ok (.i2l, 1) := by decide +kernel
theorem dX6_number_32 : decode cX6_number 32 = .ok (.iload_n 1, 1) := by decide +kernel
theorem dX6_number_33 : decode cX6_number 33 = .ok (.i2l, 1) := by decide +kernel
theorem dX6_number_34 : decode cX6_number 34 = .ok (.iload_n 2, 1) := by decide +kernel
theorem dX6_number_35 : decode cX6_number 35 = .ok (.i2l, 1) := by decide +kernel
theorem dX6_number_36 : decode cX6_number 36 = .ok (.invokestatic 55, 3) := by decide +kernel
theorem dX6_number_39 : decode cX6_number 39 = .ok (.ifCond .ne 8, 3) := by decide +kernel
theorem dX6_number_42 : decode cX6_number 42 = .ok (.aload_n 0, 1) := by decide +kernel
theorem dX6_number_43 : decode cX6_number 43 = .ok (.iconst 3, 1) := by decide +kernel
theorem dX6_number_44 : decode cX6_number 44 = .ok (.invokevirtual 93, 3) := by decide +kernel
theorem dX6_number_47 : decode cX6_number 47 = .ok (.aload_n 0, 1) := by decide +kernel
theorem dX6_number_48 : decode cX6_number 48 = .ok (.getfield 63, 3) := by decide +kernel
theorem dX6_number_51 : decode cX6_number 51 = .ok (.ifCond .ne 10, 3) := by decide +kernel
theorem dX6_number_54 : decode cX6_number 54 = .ok (.aload_n 0, 1) := by decide +kernel
theorem dX6_number_55 : decode cX6_number 55 = .ok (.getfield 82, 3) := by decide +kernel
theorem dX6_number_58 : decode cX6_number 58 = .ok (.goto 4, 3) := by decide +kernel
theorem dX6_number_61 : decode cX6_number 61 = .ok (.iload_n 1, 1) := by decide +kernel
theorem dX6_number_62 : decode cX6_number 62 = .ok (.istore_n 3, 1) := by decide +kernel
theorem dX6_number_63 : decode cX6_number 63 = .ok (.aload_n 0, 1) := by decide +kernel
theorem dX6_number_64 : decode cX6_number 64 = .ok (.invokevirtual 97, 3) := by decide +kernel
theorem dX6_number_67 : decode cX6_number 67 = .ok (.iload_n 3, 1) := by decide +kernel
theorem dX6_number_68 : decode cX6_number 68 = .ok (.ireturn, 1) := by decide +kernel
theorem dX6_oneHere_0 : decode cX6_oneHere 0 = .ok (.aload_n 0, 1) := by decide +kernel
theorem dX6_oneHere_1 : decode cX6_oneHere 1 = .ok (.iconst 0, 1) := by decide +kernel
theorem dX6_oneHere_2 : decode cX6_oneHere 2 = .ok (.iconst 3, 1) := by decide +kernel
theorem dX6_oneHere_3 : decode cX6_oneHere 3 = .ok (.invokevirtual 100, 3) := by decide +kernel
theorem dX6_oneHere_6 : decode cX6_oneHere 6 = .ok (.istore_n 1, 1) := by decide +kernel
theorem dX6_oneHere_7 : decode cX6_oneHere 7 = .ok (.aload_n 0, 1) := by decide +kernel
theorem dX6_oneHere_8 : decode cX6_oneHere 8 = .ok (.iload_n 1, 1) := by decide +kernel
theorem dX6_oneHere_9 : decode cX6_oneHere 9 = .ok (.aload_n 0, 1) := by decide +kernel
theorem dX6_oneHere_10 : decode cX6_oneHere 10 = .ok (.getfield 104, 3) := by decide +kernel
theorem dX6_oneHere_13 : decode cX6_oneHere 13 = .ok (.if_icmp .le 7, 3) := by decide +kernel
theorem dX6_oneHere_16 : decode cX6_oneHere 16 = .ok (.iload_n 1, 1) := by decide +kernel
theorem dX6_oneHere_17 : decode cX6_oneHere 17 = .ok (.goto 7, 3) := by decide +kernel
theorem dX6_oneHere_20 : decode cX6_oneHere 20 = .ok (.aload_n 0, 1) := by decide +kernel
theorem dX6_oneHere_21 : decode cX6_oneHere 21 = .ok (.getfield 104, 3) := by decide +kernel
theorem dX6_oneHere_24 : decode cX6_oneHere 24 = .ok (.putfield 104, 3) := by decide +kernel
theorem dX6_oneHere_27 : decode cX6_oneHere 27 = .ok (.iload_n 1, 1) := by decide +kernel
theorem dX6_oneHere_28 : decode cX6_oneHere 28 = .ok (.ireturn, 1) := by decide +kernel
theorem dX6_weatherHere_0 : decode cX6_weatherHere 0 = .ok (.aload_n 0, 1) := by decide +kernel
theorem dX6_weatherHere_1 : decode cX6_weatherHere 1 = .ok (.invokevirtual 107, 3) := by decide +kernel
theorem dX6_weatherHere_4 : decode cX6_weatherHere 4 = .ok (.bipush 8, 2) := by decide +kernel
theorem dX6_weatherHere_6 : decode cX6_weatherHere 6 = .ok (.isub, 1) := by decide +kernel
theorem dX6_weatherHere_7 : decode cX6_weatherHere 7 = .ok (.istore_n 1, 1) := by decide +kernel
theorem dX6_weatherHere_8 : decode cX6_weatherHere 8 = .ok (.aload_n 0, 1) := by decide +kernel
theorem dX6_weatherHere_9 : decode cX6_weatherHere 9 = .ok (.getfield 63, 3) := by decide +kernel
theorem dX6_weatherHere_12 : decode cX6_weatherHere 12 = .ok (.ifCond .ne 20, 3) := by decide +kernel
theorem dX6_weatherHere_15 : decode cX6_weatherHere 15 = .ok (.iload_n 1, 1) := by decide +kernel
theorem dX6_weatherHere_16 : decode cX6_weatherHere 16 = .ok (.i2l, 1) := by decide +kernel
theorem dX6_weatherHere_17 : decode cX6_weatherHere 17 = .ok (.lconst 0, 1) := by decide +kernel
theorem dX6_weatherHere_18 : decode cX6_weatherHere 18 = .ok (.ldc2_w 111, 3) := by decide +kernel
theorem dX6_weatherHere_21 : decode cX6_weatherHere 21 = .ok (.invokestatic 55, 3) := by decide +kernel
theorem dX6_weatherHere_24 : decode cX6_weatherHere 24 = .ok (.ifCond .ne 8, 3) := by decide +kernel
theorem dX6_weatherHere_27 : decode cX6_weatherHere 27 = .ok (.aload_n 0, 1) := by decide +kernel
theorem dX6_weatherHere_28 : decode cX6_weatherHere 28 = .ok (.iconst 2, 1) := by decide +kernel
theorem dX6_weatherHere_29 : decode cX6_weatherHere 29 = .ok (.invokevirtual 93, 3) := by decide +kernel
theorem dX6_weatherHere_32 : decode cX6_weatherHere 32 = .ok (.aload_n 0, 1) := by decide +kernel
theorem dX6_weatherHere_33 : decode cX6_weatherHere 33 = .ok (.invokevirtual 97, 3) := by decide +kernel
theorem dX6_weatherHere_36 : decode cX6_weatherHere 36 = .ok (.aload_n 0, 1) := by decide +kernel
theorem dX6_weatherHere_37 : decode cX6_weatherHere 37 = .ok (.getfield 63, 3) := by decide +kernel
theorem dX6_weatherHere_40 : decode cX6_weatherHere 40 = .ok (.ifCond .ne 7, 3) := by decide +kernel
theorem dX6_weatherHere_43 : decode cX6_weatherHere 43 = .ok (.iload_n 1, 1) := by decide +kernel
theorem dX6_weatherHere_44 : decode cX6_weatherHere 44 = .ok (.goto 4, 3) := by decide +kernel
theorem dX6_weatherHere_47 : decode cX6_weatherHere 47 = .ok (.iconst 0, 1) := by decide +kernel
theorem dX6_weatherHere_48 : decode cX6_weatherHere 48 = .ok (.ireturn, 1) := by decide +kernel
theorem dX6_readCover_0 : decode cX6_readCover 0 = .ok (.bipush 12, 2) := by decide +kernel
theorem dX6_readCover_2 : decode cX6_readCover 2 = .ok (.iconst 5, 1) := by decide +kernel
theorem dX6_readCover_3 : decode cX6_readCover 3 = .ok (.aload_n 0, 1) := by decide +kernel
theorem dX6_readCover_4 : decode cX6_readCover 4 = .ok (.getfield 16, 3) := by decide +kernel
theorem dX6_readCover_7 : decode cX6_readCover 7 = .ok (.bipush 37, 2) := by decide +kernel
theorem dX6_readCover_9 : decode cX6_readCover 9 = .ok (.iaload, 1) := by decide +kernel
theorem dX6_readCover_10 : decode cX6_readCover 10 = .ok (.imul, 1) := by decide +kernel
theorem dX6_readCover_11 : decode cX6_readCover 11 = .ok (.iadd, 1) := by decide +kernel
theorem dX6_readCover_12 : decode cX6_readCover 12 = .ok (.istore_n 1, 1) := by decide +kernel
theorem dX6_readCover_13 : decode cX6_readCover 13 = .ok (.aload_n 0, 1) := by decide +kernel
theorem dX6_readCover_14 : decode cX6_readCover 14 = .ok (.invokevirtual 113, 3) := by decide +kernel
theorem dX6_readCover_17 : decode cX6_readCover 17 = .ok (.istore_n 2, 1) := by decide +kernel
theorem dX6_readCover_18 : decode cX6_readCover 18 = .ok (.aload_n 0, 1) := by decide +kernel
theorem dX6_readCover_19 : decode cX6_readCover 19 = .ok (.getfield 63, 3) := by decide +kernel
theorem dX6_readCover_22 : decode cX6_readCover 22 = .ok (.ifCond .ne 24, 3) := by decide +kernel
theorem dX6_readCover_25 : decode cX6_readCover 25 = .ok (.aload_n 0, 1) := by decide +kernel
theorem dX6_readCover_26 : decode cX6_readCover 26 = .ok (.getfield 72, 3) := by decide +kernel
theorem dX6_readCover_29 : decode cX6_readCover 29 = .ok (.iconst 2, 1) := by decide +kernel
theorem dX6_readCover_30 : decode cX6_readCover 30 = .ok (.if_icmp .ne 16, 3) := by decide +kernel
theorem dX6_readCover_33 : decode cX6_readCover 33 = .ok (.aload_n 0, 1) := by decide +kernel
theorem dX6_readCover_34 : decode cX6_readCover 34 = .ok (.getfield 82, 3) := by decide +kernel
theorem dX6_readCover_37 : decode cX6_readCover 37 = .ok (.iload_n 2, 1) := by decide +kernel
theorem dX6_readCover_38 : decode cX6_readCover 38 = .ok (.if_icmp .ne 8, 3) := by decide +kernel
theorem dX6_readCover_41 : decode cX6_readCover 41 = .ok (.aload_n 0, 1) := by decide +kernel
theorem dX6_readCover_42 : decode cX6_readCover 42 = .ok (.iconst 3, 1) := by decide +kernel
theorem dX6_readCover_43 : decode cX6_readCover 43 = .ok (.invokevirtual 93, 3) := by decide +kernel
theorem dX6_readCover_46 : decode cX6_readCover 46 = .ok (.aload_n 0, 1) := by decide +kernel
theorem dX6_readCover_47 : decode cX6_readCover 47 = .ok (.getfield 16, 3) := by decide +kernel
theorem dX6_readCover_50 : decode cX6_readCover 50 = .ok (.iload_n 1, 1) := by decide +kernel
theorem dX6_readCover_51 : decode cX6_readCover 51 = .ok (.iload_n 2, 1) := by decide +kernel
theorem dX6_readCover_52 : decode cX6_readCover 52 = .ok (.iastore, 1) := by decide +kernel
theorem dX6_readCover_53 : decode cX6_readCover 53 = .ok (.aload_n 0, 1) := by decide +kernel
theorem dX6_readCover_54 : decode cX6_readCover 54 = .ok (.getfield 16, 3) := by decide +kernel
theorem dX6_readCover_57 : decode cX6_readCover 57 = .ok (.iload_n 1, 1) := by decide +kernel
theorem dX6_readCover_58 : decode cX6_readCover 58 = .ok (.iconst 1, 1) := by decide +kernel
theorem dX6_readCover_59 : decode cX6_readCover 59 = .ok (.iadd, 1) := by decide +kernel
theorem dX6_readCover_60 : decode cX6_readCover 60 = .ok (.aload_n 0, 1) := by decide +kernel
theorem dX6_readCover_61 : decode cX6_readCover 61 = .ok (.invokevirtual 113, 3) := by decide +kernel
theorem dX6_readCover_64 : decode cX6_readCover 64 = .ok (.iastore, 1) := by decide +kernel
theorem dX6_readCover_65 : decode cX6_readCover 65 = .ok (.aload_n 0, 1) := by decide +kernel
theorem dX6_readCover_66 : decode cX6_readCover 66 = .ok (.getfield 16, 3) := by decide +kernel
theorem dX6_readCover_69 : decode cX6_readCover 69 = .ok (.iload_n 1, 1) := by decide +kernel
theorem dX6_readCover_70 : decode cX6_readCover 70 = .ok (.iconst 2, 1) := by decide +kernel
theorem dX6_readCover_71 : decode cX6_readCover 71 = .ok (.iadd, 1) := by decide +kernel
theorem dX6_readCover_72 : decode cX6_readCover 72 = .ok (.aload_n 0, 1) := by decide +kernel
theorem dX6_readCover_73 : decode cX6_readCover 73 = .ok (.invokevirtual 116, 3) := by decide +kernel
theorem dX6_readCover_76 : decode cX6_readCover 76 = .ok (.iastore, 1) := by decide +kernel
theorem dX6_readCover_77 : decode cX6_readCover 77 = .ok (.aload_n 0, 1) := by decide +kernel
theorem dX6_readCover_78 : decode cX6_readCover 78 = .ok (.getfield 16, 3) := by decide +kernel
theorem dX6_readCover_81 : decode cX6_readCover 81 = .ok (.iload_n 1, 1) := by decide +kernel
theorem dX6_readCover_82 : decode cX6_readCover 82 = .ok (.iconst 3, 1) := by decide +kernel
theorem dX6_readCover_83 : decode cX6_readCover 83 = .ok (.iadd, 1) := by decide +kernel
theorem dX6_readCover_84 : decode cX6_readCover 84 = .ok (.aload_n 0, 1) := by decide +kernel
theorem dX6_readCover_85 : decode cX6_readCover 85 = .ok (.iconst 0, 1) := by decide +kernel
theorem dX6_readCover_86 : decode cX6_readCover 86 = .ok (.bipush 20, 2) := by decide +kernel
theorem dX6_readCover_88 : decode cX6_readCover 88 = .ok (.invokevirtual 100, 3) := by decide +kernel
theorem dX6_readCover_91 : decode cX6_readCover 91 = .ok (.iastore, 1) := by decide +kernel
theorem dX6_readCover_92 : decode cX6_readCover 92 = .ok (.aload_n 0, 1) := by decide +kernel
theorem dX6_readCover_93 : decode cX6_readCover 93 = .ok (.getfield 16, 3) := by decide +kernel
theorem dX6_readCover_96 : decode cX6_readCover 96 = .ok (.iload_n 1, 1) := by decide +kernel
theorem dX6_readCover_97 : decode cX6_readCover 97 = .ok (.iconst 4, 1) := by decide +kernel
theorem dX6_readCover_98 : decode cX6_readCover 98 = .ok (.iadd, 1) := by decide +kernel
theorem dX6_readCover_99 : decode cX6_readCover 99 = .ok (.aload_n 0, 1) := by decide +kernel
theorem dX6_readCover_100 : decode cX6_readCover 100 = .ok (.iconst 0, 1) := by decide +kernel
theorem dX6_readCover_101 : decode cX6_readCover 101 = .ok (.bipush 9, 2) := by decide +kernel
theorem dX6_readCover_103 : decode cX6_readCover 103 = .ok (.invokevirtual 100, 3) := by decide +kernel
theorem dX6_readCover_106 : decode cX6_readCover 106 = .ok (.iastore, 1) := by decide +kernel
theorem dX6_readCover_107 : decode cX6_readCover 107 = .ok (.aload_n 0, 1) := by decide +kernel
theorem dX6_readCover_108 : decode cX6_readCover 108 = .ok (.getfield 16, 3) := by decide +kernel
theorem dX6_readCover_111 : decode cX6_readCover 111 = .ok (.bipush 37, 2) := by decide +kernel
theorem dX6_readCover_113 : decode cX6_readCover 113 = .ok (.dup2, 1) := by decide +kernel
theorem dX6_readCover_114 : decode cX6_readCover 114 = .ok (.iaload, 1) := by decide +kernel
theorem dX6_readCover_115 : decode cX6_readCover 115 = .ok (.iconst 1, 1) := by decide +kernel
theorem dX6_readCover_116 : decode cX6_readCover 116 = .ok (.iadd, 1) := by decide +kernel
theorem dX6_readCover_117 : decode cX6_readCover 117 = .ok (.iastore, 1) := by decide +kernel
theorem dX6_readCover_118 : decode cX6_readCover 118 = .ok (.return_, 1) := by decide +kernel
theorem dX6_firstOdds_0 : decode cX6_firstOdds 0 = .ok (.iload_n 0, 1) := by decide +kernel
theorem dX6_firstOdds_1 : decode cX6_firstOdds 1 = .ok (.iconst 3, 1) := by decide +kernel
theorem dX6_firstOdds_2 : decode cX6_firstOdds 2 = .ok (.if_icmp .ne 7, 3) := by decide +kernel
theorem dX6_firstOdds_5 : decode cX6_firstOdds 5 = .ok (.iconst 1, 1) := by decide +kernel
theorem dX6_firstOdds_6 : decode cX6_firstOdds 6 = .ok (.goto 4, 3) := by decide +kernel
theorem dX6_firstOdds_9 : decode cX6_firstOdds 9 = .ok (.iconst 3, 1) := by decide +kernel
theorem dX6_firstOdds_10 : decode cX6_firstOdds 10 = .ok (.ireturn, 1) := by decide +kernel
theorem dX6_readOdds_0 : decode cX6_readOdds 0 = .ok (.bipush 10, 2) := by decide +kernel
theorem dX6_readOdds_2 : decode cX6_readOdds 2 = .ok (.istore_n 1, 1) := by decide +kernel
theorem dX6_readOdds_3 : decode cX6_readOdds 3 = .ok (.iconst 0, 1) := by decide +kernel
theorem dX6_readOdds_4 : decode cX6_readOdds 4 = .ok (.istore_n 2, 1) := by decide +kernel
theorem dX6_readOdds_5 : decode cX6_readOdds 5 = .ok (.iload_n 2, 1) := by decide +kernel
theorem dX6_readOdds_6 : decode cX6_readOdds 6 = .ok (.iconst 4, 1) := by decide +kernel
theorem dX6_readOdds_7 : decode cX6_readOdds 7 = .ok (.if_icmp .ge 44, 3) := by decide +kernel
theorem dX6_readOdds_10 : decode cX6_readOdds 10 = .ok (.aload_n 0, 1) := by decide +kernel
theorem dX6_readOdds_11 : decode cX6_readOdds 11 = .ok (.iload_n 2, 1) := by decide +kernel
theorem dX6_readOdds_12 : decode cX6_readOdds 12 = .ok (.iconst 3, 1) := by decide +kernel
theorem dX6_readOdds_13 : decode cX6_readOdds 13 = .ok (.if_icmp .ne 7, 3) := by decide +kernel
theorem dX6_readOdds_16 : decode cX6_readOdds 16 = .ok (.iload_n 1, 1) := by decide +kernel
theorem dX6_readOdds_17 : decode cX6_readOdds 17 = .ok (.goto 4, 3) := by decide +kernel
theorem dX6_readOdds_20 : decode cX6_readOdds 20 = .ok (.iconst 0, 1) := by decide +kernel
theorem dX6_readOdds_21 : decode cX6_readOdds 21 = .ok (.iload_n 1, 1) := by decide +kernel
theorem dX6_readOdds_22 : decode cX6_readOdds 22 = .ok (.invokevirtual 100, 3) := by decide +kernel
theorem dX6_readOdds_25 : decode cX6_readOdds 25 = .ok (.istore_n 3, 1) := by decide +kernel
theorem dX6_readOdds_26 : decode cX6_readOdds 26 = .ok (.aload_n 0, 1) := by decide +kernel
theorem dX6_readOdds_27 : decode cX6_readOdds 27 = .ok (.getfield 16, 3) := by decide +kernel
theorem dX6_readOdds_30 : decode cX6_readOdds 30 = .ok (.bipush 38, 2) := by decide +kernel
theorem dX6_readOdds_32 : decode cX6_readOdds 32 = .ok (.iload_n 2, 1) := by decide +kernel
theorem dX6_readOdds_33 : decode cX6_readOdds 33 = .ok (.iadd, 1) := by decide +kernel
theorem dX6_readOdds_34 : decode cX6_readOdds 34 = .ok (.iload_n 3, 1) := by decide +kernel
theorem dX6_readOdds_35 : decode cX6_readOdds 35 = .ok (.iload_n 2, 1) := by decide +kernel
theorem dX6_readOdds_36 : decode cX6_readOdds 36 = .ok (.invokestatic 119, 3) := by decide +kernel
theorem dX6_readOdds_39 : decode cX6_readOdds 39 = .ok (.isub, 1) := by decide +kernel
theorem dX6_readOdds_40 : decode cX6_readOdds 40 = .ok (.iastore, 1) := by decide +kernel
theorem dX6_readOdds_41 : decode cX6_readOdds 41 = .ok (.iload_n 1, 1) := by decide +kernel
theorem dX6_readOdds_42 : decode cX6_readOdds 42 = .ok (.iload_n 3, 1) := by decide +kernel
theorem dX6_readOdds_43 : decode cX6_readOdds 43 = .ok (.isub, 1) := by decide +kernel
theorem dX6_readOdds_44 : decode cX6_readOdds 44 = .ok (.istore_n 1, 1) := by decide +kernel
theorem dX6_readOdds_45 : decode cX6_readOdds 45 = .ok (.iinc 2 1, 3) := by decide +kernel
theorem dX6_readOdds_48 : decode cX6_readOdds 48 = .ok (.goto (-43), 3) := by decide +kernel
theorem dX6_readOdds_51 : decode cX6_readOdds 51 = .ok (.return_, 1) := by decide +kernel
theorem dX6_readSky_0 : decode cX6_readSky 0 = .ok (.aload_n 0, 1) := by decide +kernel
theorem dX6_readSky_1 : decode cX6_readSky 1 = .ok (.getfield 63, 3) := by decide +kernel
theorem dX6_readSky_4 : decode cX6_readSky 4 = .ok (.ifCond .ne 64, 3) := by decide +kernel
theorem dX6_readSky_7 : decode cX6_readSky 7 = .ok (.aload_n 0, 1) := by decide +kernel
theorem dX6_readSky_8 : decode cX6_readSky 8 = .ok (.getfield 72, 3) := by decide +kernel
theorem dX6_readSky_11 : decode cX6_readSky 11 = .ok (.iconst 1, 1) := by decide +kernel
theorem dX6_readSky_12 : decode cX6_readSky 12 = .ok (.if_icmp .ne 56, 3) := by decide +kernel
theorem dX6_readSky_15 : decode cX6_readSky 15 = .ok (.aload_n 0, 1) := by decide +kernel
theorem dX6_readSky_16 : decode cX6_readSky 16 = .ok (.getfield 16, 3) := by decide +kernel
theorem dX6_readSky_19 : decode cX6_readSky 19 = .ok (.bipush 51, 2) := by decide +kernel
theorem dX6_readSky_21 : decode cX6_readSky 21 = .ok (.iaload, 1) := by decide +kernel
theorem dX6_readSky_22 : decode cX6_readSky 22 = .ok (.bipush 8, 2) := by decide +kernel
theorem dX6_readSky_24 : decode cX6_readSky 24 = .ok (.if_icmp .ne 11, 3) := by decide +kernel
theorem dX6_readSky_27 : decode cX6_readSky 27 = .ok (.aload_n 0, 1) := by decide +kernel
theorem dX6_readSky_28 : decode cX6_readSky 28 = .ok (.iconst 5, 1) := by decide +kernel
theorem dX6_readSky_29 : decode cX6_readSky 29 = .ok (.invokevirtual 93, 3) := by decide +kernel
theorem dX6_readSky_32 : decode cX6_readSky 32 = .ok (.goto (-32), 3) := by decide +kernel
theorem dX6_readSky_35 : decode cX6_readSky 35 = .ok (.aload_n 0, 1) := by decide +kernel
theorem dX6_readSky_36 : decode cX6_readSky 36 = .ok (.getfield 16, 3) := by decide +kernel
theorem dX6_readSky_39 : decode cX6_readSky 39 = .ok (.bipush 43, 2) := by decide +kernel
theorem dX6_readSky_41 : decode cX6_readSky 41 = .ok (.aload_n 0, 1) := by decide +kernel
theorem dX6_readSky_42 : decode cX6_readSky 42 = .ok (.getfield 16, 3) := by decide +kernel
theorem dX6_readSky_45 : decode cX6_readSky 45 = .ok (.bipush 51, 2) := by decide +kernel
theorem dX6_readSky_47 : decode cX6_readSky 47 = .ok (.iaload, 1) := by decide +kernel
theorem dX6_readSky_48 : decode cX6_readSky 48 = .ok (.iadd, 1) := by decide +kernel
theorem dX6_readSky_49 : decode cX6_readSky 49 = .ok (.aload_n 0, 1) := by decide +kernel
theorem dX6_readSky_50 : decode cX6_readSky 50 = .ok (.invokevirtual 116, 3) := by decide +kernel
theorem dX6_readSky_53 : decode cX6_readSky 53 = .ok (.iastore, 1) := by decide +kernel
theorem dX6_readSky_54 : decode cX6_readSky 54 = .ok (.aload_n 0, 1) := by decide +kernel
theorem dX6_readSky_55 : decode cX6_readSky 55 = .ok (.getfield 16, 3) := by decide +kernel
theorem dX6_readSky_58 : decode cX6_readSky 58 = .ok (.bipush 51, 2) := by decide +kernel
theorem dX6_readSky_60 : decode cX6_readSky 60 = .ok (.dup2, 1) := by decide +kernel
theorem dX6_readSky_61 : decode cX6_readSky 61 = .ok (.iaload, 1) := by decide +kernel
theorem dX6_readSky_62 : decode cX6_readSky 62 = .ok (.iconst 1, 1) := by decide +kernel
theorem dX6_readSky_63 : decode cX6_readSky 63 = .ok (.iadd, 1) := by decide +kernel
theorem dX6_readSky_64 : decode cX6_readSky 64 = .ok (.iastore, 1) := by decide +kernel
theorem dX6_readSky_65 : decode cX6_readSky 65 = .ok (.goto (-65), 3) := by decide +kernel
theorem dX6_readSky_68 : decode cX6_readSky 68 = .ok (.return_, 1) := by decide +kernel
theorem dX6_readMore_0 : decode cX6_readMore 0 = .ok (.iload_n 1, 1) := by decide +kernel
theorem dX6_readMore_1 : decode cX6_readMore 1 = .ok (.iconst 3, 1) := by decide +kernel
theorem dX6_readMore_2 : decode cX6_readMore 2 = .ok (.if_icmp .gt 62, 3) := by decide +kernel
theorem dX6_readMore_5 : decode cX6_readMore 5 = .ok (.aload_n 0, 1) := by decide +kernel
theorem dX6_readMore_6 : decode cX6_readMore 6 = .ok (.getfield 16, 3) := by decide +kernel
theorem dX6_readMore_9 : decode cX6_readMore 9 = .ok (.aload_n 0, 1) := by decide +kernel
theorem dX6_readMore_10 : decode cX6_readMore 10 = .ok (.getfield 122, 3) := by decide +kernel
theorem dX6_readMore_13 : decode cX6_readMore 13 = .ok (.iload_n 1, 1) := by decide +kernel
theorem dX6_readMore_14 : decode cX6_readMore 14 = .ok (.iastore, 1) := by decide +kernel
theorem dX6_readMore_15 : decode cX6_readMore 15 = .ok (.aload_n 0, 1) := by decide +kernel
theorem dX6_readMore_16 : decode cX6_readMore 16 = .ok (.getfield 16, 3) := by decide +kernel
theorem dX6_readMore_19 : decode cX6_readMore 19 = .ok (.iconst 4, 1) := by decide +kernel
theorem dX6_readMore_20 : decode cX6_readMore 20 = .ok (.aload_n 0, 1) := by decide +kernel
theorem dX6_readMore_21 : decode cX6_readMore 21 = .ok (.getfield 122, 3) := by decide +kernel
theorem dX6_readMore_24 : decode cX6_readMore 24 = .ok (.iadd, 1) := by decide +kernel
theorem dX6_readMore_25 : decode cX6_readMore 25 = .ok (.aload_n 0, 1) := by decide +kernel
theorem dX6_readMore_26 : decode cX6_readMore 26 = .ok (.iconst 1, 1) := by decide +kernel
theorem dX6_readMore_27 : decode cX6_readMore 27 = .ok (.iconst 5, 1) := by decide +kernel
theorem dX6_readMore_28 : decode cX6_readMore 28 = .ok (.invokevirtual 100, 3) := by decide +kernel
theorem dX6_readMore_31 : decode cX6_readMore 31 = .ok (.iastore, 1) := by decide +kernel
theorem dX6_readMore_32 : decode cX6_readMore 32 = .ok (.aload_n 0, 1) := by decide +kernel
theorem dX6_readMore_33 : decode cX6_readMore 33 = .ok (.getfield 16, 3) := by decide +kernel
theorem dX6_readMore_36 : decode cX6_readMore 36 = .ok (.bipush 8, 2) := by decide +kernel
theorem dX6_readMore_38 : decode cX6_readMore 38 = .ok (.aload_n 0, 1) := by decide +kernel
theorem dX6_readMore_39 : decode cX6_readMore 39 = .ok (.getfield 122, 3) := by decide +kernel
theorem dX6_readMore_42 : decode cX6_readMore 42 = .ok (.iadd, 1) := by decide +kernel
theorem dX6_readMore_43 : decode cX6_readMore 43 = .ok (.aload_n 0, 1) := by decide +kernel
theorem dX6_readMore_44 : decode cX6_readMore 44 = .ok (.iconst 0, 1) := by decide +kernel
theorem dX6_readMore_45 : decode cX6_readMore 45 = .ok (.bipush 99, 2) := by decide +kernel
theorem dX6_readMore_47 : decode cX6_readMore 47 = .ok (.invokevirtual 100, 3) := by decide +kernel
theorem dX6_readMore_50 : decode cX6_readMore 50 = .ok (.iastore, 1) := by decide +kernel
theorem dX6_readMore_51 : decode cX6_readMore 51 = .ok (.aload_n 0, 1) := by decide +kernel
theorem dX6_readMore_52 : decode cX6_readMore 52 = .ok (.dup, 1) := by decide +kernel
theorem dX6_readMore_53 : decode cX6_readMore 53 = .ok (.getfield 122, 3) := by decide +kernel
theorem dX6_readMore_56 : decode cX6_readMore 56 = .ok (.iconst 1, 1) := by decide +kernel
theorem dX6_readMore_57 : decode cX6_readMore 57 = .ok (.iadd, 1) := by decide +kernel
theorem dX6_readMore_58 : decode cX6_readMore 58 = .ok (.putfield 122, 3) := by decide +kernel
theorem dX6_readMore_61 : decode cX6_readMore 61 = .ok (.goto 56, 3) := by decide +kernel
theorem dX6_readMore_64 : decode cX6_readMore 64 = .ok (.iload_n 1, 1) := by decide +kernel
theorem dX6_readMore_65 : decode cX6_readMore 65 = .ok (.iconst 4, 1) := by decide +kernel
theorem dX6_readMore_66 : decode cX6_readMore 66 = .ok (.if_icmp .ne 10, 3) := by decide +kernel
theorem dX6_readMore_69 : decode cX6_readMore 69 = .ok (.aload_n 0, 1) := by decide +kernel
theorem dX6_readMore_70 : decode cX6_readMore 70 = .ok (.invokevirtual 125, 3) := by decide +kernel
theorem dX6_readMore_73 : decode cX6_readMore 73 = .ok (.goto 44, 3) := by decide +kernel
theorem dX6_readMore_76 : decode cX6_readMore 76 = .ok (.iload_n 1, 1) := by decide +kernel
theorem dX6_readMore_77 : decode cX6_readMore 77 = .ok (.iconst 5, 1) := by decide +kernel
theorem dX6_readMore_78 : decode cX6_readMore 78 = .ok (.if_icmp .ne 10, 3) := by decide +kernel
theorem dX6_readMore_81 : decode cX6_readMore 81 = .ok (.aload_n 0, 1) := by decide +kernel
theorem dX6_readMore_82 : decode cX6_readMore 82 = .ok (.invokevirtual 128, 3) := by decide +kernel
theorem dX6_readMore_85 : decode cX6_readMore 85 = .ok (.goto 32, 3) := by decide +kernel
theorem dX6_readMore_88 : decode cX6_readMore 88 = .ok (.iload_n 1, 1) := by decide +kernel
theorem dX6_readMore_89 : decode cX6_readMore 89 = .ok (.bipush 6, 2) := by decide +kernel
theorem dX6_readMore_91 : decode cX6_readMore 91 = .ok (.if_icmp .ne 22, 3) := by decide +kernel
theorem dX6_readMore_94 : decode cX6_readMore 94 = .ok (.aload_n 0, 1) := by decide +kernel
theorem dX6_readMore_95 : decode cX6_readMore 95 = .ok (.getfield 16, 3) := by decide +kernel
theorem dX6_readMore_98 : decode cX6_readMore 98 = .ok (.bipush 42, 2) := by decide +kernel
theorem dX6_readMore_100 : decode cX6_readMore 100 = .ok (.aload_n 0, 1) := by decide +kernel
theorem dX6_readMore_101 : decode cX6_readMore 101 = .ok (.iconst 0, 1) := by decide +kernel
theorem dX6_readMore_102 : decode cX6_readMore 102 = .ok (.bipush 99, 2) := by decide +kernel
theorem dX6_readMore_104 : decode cX6_readMore 104 = .ok (.invokevirtual 100, 3) := by decide +kernel
theorem dX6_readMore_107 : decode cX6_readMore 107 = .ok (.iconst 5, 1) := by decide +kernel
