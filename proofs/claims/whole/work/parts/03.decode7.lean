theorem d_Mo_store_26 : decode m_Mo_store.2.1 26 = .ok (.iload_n 2, 1) := by decide +kernel
theorem d_Mo_store_27 : decode m_Mo_store.2.1 27 = .ok (.iaload, 1) := by decide +kernel
theorem d_Mo_store_28 : decode m_Mo_store.2.1 28 = .ok (.iastore, 1) := by decide +kernel
theorem d_Mo_store_29 : decode m_Mo_store.2.1 29 = .ok (.aload_n 0, 1) := by decide +kernel
theorem d_Mo_store_30 : decode m_Mo_store.2.1 30 = .ok (.getfield 89, 3) := by decide +kernel
theorem d_Mo_store_33 : decode m_Mo_store.2.1 33 = .ok (.iload_n 3, 1) := by decide +kernel
theorem d_Mo_store_34 : decode m_Mo_store.2.1 34 = .ok (.iconst 0, 1) := by decide +kernel
theorem d_Mo_store_35 : decode m_Mo_store.2.1 35 = .ok (.iastore, 1) := by decide +kernel
theorem d_Mo_store_36 : decode m_Mo_store.2.1 36 = .ok (.iconst 0, 1) := by decide +kernel
theorem d_Mo_store_37 : decode m_Mo_store.2.1 37 = .ok (.istore 4, 2) := by decide +kernel
theorem d_Mo_store_39 : decode m_Mo_store.2.1 39 = .ok (.iload 4, 2) := by decide +kernel
theorem d_Mo_store_41 : decode m_Mo_store.2.1 41 = .ok (.aload_n 0, 1) := by decide +kernel
theorem d_Mo_store_42 : decode m_Mo_store.2.1 42 = .ok (.getfield 29, 3) := by decide +kernel
theorem d_Mo_store_45 : decode m_Mo_store.2.1 45 = .ok (.iload_n 1, 1) := by decide +kernel
theorem d_Mo_store_46 : decode m_Mo_store.2.1 46 = .ok (.iaload, 1) := by decide +kernel
theorem d_Mo_store_47 : decode m_Mo_store.2.1 47 = .ok (.if_icmp .ge 329, 3) := by decide +kernel
theorem d_Mo_store_50 : decode m_Mo_store.2.1 50 = .ok (.aload_n 0, 1) := by decide +kernel
theorem d_Mo_store_51 : decode m_Mo_store.2.1 51 = .ok (.iload_n 1, 1) := by decide +kernel
theorem d_Mo_store_52 : decode m_Mo_store.2.1 52 = .ok (.iload 4, 2) := by decide +kernel
theorem d_Mo_store_54 : decode m_Mo_store.2.1 54 = .ok (.aload_n 0, 1) := by decide +kernel
theorem d_Mo_store_55 : decode m_Mo_store.2.1 55 = .ok (.getfield 41, 3) := by decide +kernel
theorem d_Mo_store_58 : decode m_Mo_store.2.1 58 = .ok (.iload_n 2, 1) := by decide +kernel
theorem d_Mo_store_59 : decode m_Mo_store.2.1 59 = .ok (.iaload, 1) := by decide +kernel
theorem d_Mo_store_60 : decode m_Mo_store.2.1 60 = .ok (.aload_n 0, 1) := by decide +kernel
theorem d_Mo_store_61 : decode m_Mo_store.2.1 61 = .ok (.getfield 44, 3) := by decide +kernel
theorem d_Mo_store_64 : decode m_Mo_store.2.1 64 = .ok (.iload_n 2, 1) := by decide +kernel
theorem d_Mo_store_65 : decode m_Mo_store.2.1 65 = .ok (.iaload, 1) := by decide +kernel
theorem d_Mo_store_66 : decode m_Mo_store.2.1 66 = .ok (.aload_n 0, 1) := by decide +kernel
theorem d_Mo_store_67 : decode m_Mo_store.2.1 67 = .ok (.getfield 47, 3) := by decide +kernel
theorem d_Mo_store_70 : decode m_Mo_store.2.1 70 = .ok (.iload_n 2, 1) := by decide +kernel
theorem d_Mo_store_71 : decode m_Mo_store.2.1 71 = .ok (.iaload, 1) := by decide +kernel
theorem d_Mo_store_72 : decode m_Mo_store.2.1 72 = .ok (.aload_n 0, 1) := by decide +kernel
theorem d_Mo_store_73 : decode m_Mo_store.2.1 73 = .ok (.getfield 50, 3) := by decide +kernel
theorem d_Mo_store_76 : decode m_Mo_store.2.1 76 = .ok (.iload_n 2, 1) := by decide +kernel
theorem d_Mo_store_77 : decode m_Mo_store.2.1 77 = .ok (.iaload, 1) := by decide +kernel
theorem d_Mo_store_78 : decode m_Mo_store.2.1 78 = .ok (.invokevirtual 196, 3) := by decide +kernel
theorem d_Mo_store_81 : decode m_Mo_store.2.1 81 = .ok (.ifCond .eq 289, 3) := by decide +kernel
theorem d_Mo_store_84 : decode m_Mo_store.2.1 84 = .ok (.bipush 24, 2) := by decide +kernel
theorem d_Mo_store_86 : decode m_Mo_store.2.1 86 = .ok (.iload_n 1, 1) := by decide +kernel
theorem d_Mo_store_87 : decode m_Mo_store.2.1 87 = .ok (.imul, 1) := by decide +kernel
theorem d_Mo_store_88 : decode m_Mo_store.2.1 88 = .ok (.iconst 4, 1) := by decide +kernel
theorem d_Mo_store_89 : decode m_Mo_store.2.1 89 = .ok (.iload 4, 2) := by decide +kernel
theorem d_Mo_store_91 : decode m_Mo_store.2.1 91 = .ok (.imul, 1) := by decide +kernel
theorem d_Mo_store_92 : decode m_Mo_store.2.1 92 = .ok (.iadd, 1) := by decide +kernel
theorem d_Mo_store_93 : decode m_Mo_store.2.1 93 = .ok (.istore 5, 2) := by decide +kernel
theorem d_Mo_store_95 : decode m_Mo_store.2.1 95 = .ok (.bipush 24, 2) := by decide +kernel
theorem d_Mo_store_97 : decode m_Mo_store.2.1 97 = .ok (.iload_n 3, 1) := by decide +kernel
theorem d_Mo_store_98 : decode m_Mo_store.2.1 98 = .ok (.imul, 1) := by decide +kernel
theorem d_Mo_store_99 : decode m_Mo_store.2.1 99 = .ok (.iconst 4, 1) := by decide +kernel
theorem d_Mo_store_100 : decode m_Mo_store.2.1 100 = .ok (.aload_n 0, 1) := by decide +kernel
theorem d_Mo_store_101 : decode m_Mo_store.2.1 101 = .ok (.getfield 89, 3) := by decide +kernel
theorem d_Mo_store_104 : decode m_Mo_store.2.1 104 = .ok (.iload_n 3, 1) := by decide +kernel
theorem d_Mo_store_105 : decode m_Mo_store.2.1 105 = .ok (.iaload, 1) := by decide +kernel
theorem d_Mo_store_106 : decode m_Mo_store.2.1 106 = .ok (.imul, 1) := by decide +kernel
theorem d_Mo_store_107 : decode m_Mo_store.2.1 107 = .ok (.iadd, 1) := by decide +kernel
theorem d_Mo_store_108 : decode m_Mo_store.2.1 108 = .ok (.istore 6, 2) := by decide +kernel
theorem d_Mo_store_110 : decode m_Mo_store.2.1 110 = .ok (.aload_n 0, 1) := by decide +kernel
theorem d_Mo_store_111 : decode m_Mo_store.2.1 111 = .ok (.getfield 32, 3) := by decide +kernel
theorem d_Mo_store_114 : decode m_Mo_store.2.1 114 = .ok (.iload 5, 2) := by decide +kernel
theorem d_Mo_store_116 : decode m_Mo_store.2.1 116 = .ok (.iaload, 1) := by decide +kernel
theorem d_Mo_store_117 : decode m_Mo_store.2.1 117 = .ok (.aload_n 0, 1) := by decide +kernel
theorem d_Mo_store_118 : decode m_Mo_store.2.1 118 = .ok (.getfield 41, 3) := by decide +kernel
theorem d_Mo_store_121 : decode m_Mo_store.2.1 121 = .ok (.iload_n 2, 1) := by decide +kernel
theorem d_Mo_store_122 : decode m_Mo_store.2.1 122 = .ok (.iaload, 1) := by decide +kernel
theorem d_Mo_store_123 : decode m_Mo_store.2.1 123 = .ok (.if_icmp .le 13, 3) := by decide +kernel
theorem d_Mo_store_126 : decode m_Mo_store.2.1 126 = .ok (.aload_n 0, 1) := by decide +kernel
theorem d_Mo_store_127 : decode m_Mo_store.2.1 127 = .ok (.getfield 32, 3) := by decide +kernel
theorem d_Mo_store_130 : decode m_Mo_store.2.1 130 = .ok (.iload 5, 2) := by decide +kernel
theorem d_Mo_store_132 : decode m_Mo_store.2.1 132 = .ok (.iaload, 1) := by decide +kernel
theorem d_Mo_store_133 : decode m_Mo_store.2.1 133 = .ok (.goto 9, 3) := by decide +kernel
theorem d_Mo_store_136 : decode m_Mo_store.2.1 136 = .ok (.aload_n 0, 1) := by decide +kernel
theorem d_Mo_store_137 : decode m_Mo_store.2.1 137 = .ok (.getfield 41, 3) := by decide +kernel
theorem d_Mo_store_140 : decode m_Mo_store.2.1 140 = .ok (.iload_n 2, 1) := by decide +kernel
theorem d_Mo_store_141 : decode m_Mo_store.2.1 141 = .ok (.iaload, 1) := by decide +kernel
theorem d_Mo_store_142 : decode m_Mo_store.2.1 142 = .ok (.istore 7, 2) := by decide +kernel
theorem d_Mo_store_144 : decode m_Mo_store.2.1 144 = .ok (.aload_n 0, 1) := by decide +kernel
theorem d_Mo_store_145 : decode m_Mo_store.2.1 145 = .ok (.getfield 32, 3) := by decide +kernel
theorem d_Mo_store_148 : decode m_Mo_store.2.1 148 = .ok (.iload 5, 2) := by decide +kernel
theorem d_Mo_store_150 : decode m_Mo_store.2.1 150 = .ok (.iconst 1, 1) := by decide +kernel
theorem d_Mo_store_151 : decode m_Mo_store.2.1 151 = .ok (.iadd, 1) := by decide +kernel
theorem d_Mo_store_152 : decode m_Mo_store.2.1 152 = .ok (.iaload, 1) := by decide +kernel
theorem d_Mo_store_153 : decode m_Mo_store.2.1 153 = .ok (.aload_n 0, 1) := by decide +kernel
theorem d_Mo_store_154 : decode m_Mo_store.2.1 154 = .ok (.getfield 44, 3) := by decide +kernel
theorem d_Mo_store_157 : decode m_Mo_store.2.1 157 = .ok (.iload_n 2, 1) := by decide +kernel
theorem d_Mo_store_158 : decode m_Mo_store.2.1 158 = .ok (.iaload, 1) := by decide +kernel
theorem d_Mo_store_159 : decode m_Mo_store.2.1 159 = .ok (.if_icmp .le 15, 3) := by decide +kernel
theorem d_Mo_store_162 : decode m_Mo_store.2.1 162 = .ok (.aload_n 0, 1) := by decide +kernel
theorem d_Mo_store_163 : decode m_Mo_store.2.1 163 = .ok (.getfield 32, 3) := by decide +kernel
theorem d_Mo_store_166 : decode m_Mo_store.2.1 166 = .ok (.iload 5, 2) := by decide +kernel
theorem d_Mo_store_168 : decode m_Mo_store.2.1 168 = .ok (.iconst 1, 1) := by decide +kernel
theorem d_Mo_store_169 : decode m_Mo_store.2.1 169 = .ok (.iadd, 1) := by decide +kernel
theorem d_Mo_store_170 : decode m_Mo_store.2.1 170 = .ok (.iaload, 1) := by decide +kernel
theorem d_Mo_store_171 : decode m_Mo_store.2.1 171 = .ok (.goto 9, 3) := by decide +kernel
theorem d_Mo_store_174 : decode m_Mo_store.2.1 174 = .ok (.aload_n 0, 1) := by decide +kernel
theorem d_Mo_store_175 : decode m_Mo_store.2.1 175 = .ok (.getfield 44, 3) := by decide +kernel
theorem d_Mo_store_178 : decode m_Mo_store.2.1 178 = .ok (.iload_n 2, 1) := by decide +kernel
theorem d_Mo_store_179 : decode m_Mo_store.2.1 179 = .ok (.iaload, 1) := by decide +kernel
theorem d_Mo_store_180 : decode m_Mo_store.2.1 180 = .ok (.istore 8, 2) := by decide +kernel
theorem d_Mo_store_182 : decode m_Mo_store.2.1 182 = .ok (.aload_n 0, 1) := by decide +kernel
theorem d_Mo_store_183 : decode m_Mo_store.2.1 183 = .ok (.getfield 32, 3) := by decide +kernel
theorem d_Mo_store_186 : decode m_Mo_store.2.1 186 = .ok (.iload 5, 2) := by decide +kernel
theorem d_Mo_store_188 : decode m_Mo_store.2.1 188 = .ok (.iaload, 1) := by decide +kernel
theorem d_Mo_store_189 : decode m_Mo_store.2.1 189 = .ok (.aload_n 0, 1) := by decide +kernel
theorem d_Mo_store_190 : decode m_Mo_store.2.1 190 = .ok (.getfield 32, 3) := by decide +kernel
theorem d_Mo_store_193 : decode m_Mo_store.2.1 193 = .ok (.iload 5, 2) := by decide +kernel
theorem d_Mo_store_195 : decode m_Mo_store.2.1 195 = .ok (.iconst 2, 1) := by decide +kernel
theorem d_Mo_store_196 : decode m_Mo_store.2.1 196 = .ok (.iadd, 1) := by decide +kernel
theorem d_Mo_store_197 : decode m_Mo_store.2.1 197 = .ok (.iaload, 1) := by decide +kernel
theorem d_Mo_store_198 : decode m_Mo_store.2.1 198 = .ok (.iadd, 1) := by decide +kernel
theorem d_Mo_store_199 : decode m_Mo_store.2.1 199 = .ok (.istore 9, 2) := by decide +kernel
theorem d_Mo_store_201 : decode m_Mo_store.2.1 201 = .ok (.aload_n 0, 1) := by decide +kernel
theorem d_Mo_store_202 : decode m_Mo_store.2.1 202 = .ok (.getfield 32, 3) := by decide +kernel
theorem d_Mo_store_205 : decode m_Mo_store.2.1 205 = .ok (.iload 5, 2) := by decide +kernel
theorem d_Mo_store_207 : decode m_Mo_store.2.1 207 = .ok (.iconst 1, 1) := by decide +kernel
theorem d_Mo_store_208 : decode m_Mo_store.2.1 208 = .ok (.iadd, 1) := by decide +kernel
theorem d_Mo_store_209 : decode m_Mo_store.2.1 209 = .ok (.iaload, 1) := by decide +kernel
theorem d_Mo_store_210 : decode m_Mo_store.2.1 210 = .ok (.aload_n 0, 1) := by decide +kernel
theorem d_Mo_store_211 : decode m_Mo_store.2.1 211 = .ok (.getfield 32, 3) := by decide +kernel
theorem d_Mo_store_214 : decode m_Mo_store.2.1 214 = .ok (.iload 5, 2) := by decide +kernel
theorem d_Mo_store_216 : decode m_Mo_store.2.1 216 = .ok (.iconst 3, 1) := by decide +kernel
theorem d_Mo_store_217 : decode m_Mo_store.2.1 217 = .ok (.iadd, 1) := by decide +kernel
theorem d_Mo_store_218 : decode m_Mo_store.2.1 218 = .ok (.iaload, 1) := by decide +kernel
theorem d_Mo_store_219 : decode m_Mo_store.2.1 219 = .ok (.iadd, 1) := by decide +kernel
theorem d_Mo_store_220 : decode m_Mo_store.2.1 220 = .ok (.istore 10, 2) := by decide +kernel
theorem d_Mo_store_222 : decode m_Mo_store.2.1 222 = .ok (.iload 9, 2) := by decide +kernel
theorem d_Mo_store_224 : decode m_Mo_store.2.1 224 = .ok (.aload_n 0, 1) := by decide +kernel
theorem d_Mo_store_225 : decode m_Mo_store.2.1 225 = .ok (.getfield 41, 3) := by decide +kernel
theorem d_Mo_store_228 : decode m_Mo_store.2.1 228 = .ok (.iload_n 2, 1) := by decide +kernel
theorem d_Mo_store_229 : decode m_Mo_store.2.1 229 = .ok (.iaload, 1) := by decide +kernel
theorem d_Mo_store_230 : decode m_Mo_store.2.1 230 = .ok (.aload_n 0, 1) := by decide +kernel
theorem d_Mo_store_231 : decode m_Mo_store.2.1 231 = .ok (.getfield 47, 3) := by decide +kernel
theorem d_Mo_store_234 : decode m_Mo_store.2.1 234 = .ok (.iload_n 2, 1) := by decide +kernel
theorem d_Mo_store_235 : decode m_Mo_store.2.1 235 = .ok (.iaload, 1) := by decide +kernel
theorem d_Mo_store_236 : decode m_Mo_store.2.1 236 = .ok (.iadd, 1) := by decide +kernel
theorem d_Mo_store_237 : decode m_Mo_store.2.1 237 = .ok (.if_icmp .ge 8, 3) := by decide +kernel
theorem d_Mo_store_240 : decode m_Mo_store.2.1 240 = .ok (.iload 9, 2) := by decide +kernel
theorem d_Mo_store_242 : decode m_Mo_store.2.1 242 = .ok (.goto 16, 3) := by decide +kernel
theorem d_Mo_store_245 : decode m_Mo_store.2.1 245 = .ok (.aload_n 0, 1) := by decide +kernel
theorem d_Mo_store_246 : decode m_Mo_store.2.1 246 = .ok (.getfield 41, 3) := by decide +kernel
theorem d_Mo_store_249 : decode m_Mo_store.2.1 249 = .ok (.iload_n 2, 1) := by decide +kernel
theorem d_Mo_store_250 : decode m_Mo_store.2.1 250 = .ok (.iaload, 1) := by decide +kernel
theorem d_Mo_store_251 : decode m_Mo_store.2.1 251 = .ok (.aload_n 0, 1) := by decide +kernel
theorem d_Mo_store_252 : decode m_Mo_store.2.1 252 = .ok (.getfield 47, 3) := by decide +kernel
theorem d_Mo_store_255 : decode m_Mo_store.2.1 255 = .ok (.iload_n 2, 1) := by decide +kernel
theorem d_Mo_store_256 : decode m_Mo_store.2.1 256 = .ok (.iaload, 1) := by decide +kernel
theorem d_Mo_store_257 : decode m_Mo_store.2.1 257 = .ok (.iadd, 1) := by decide +kernel
theorem d_Mo_store_258 : decode m_Mo_store.2.1 258 = .ok (.istore 9, 2) := by decide +kernel
theorem d_Mo_store_260 : decode m_Mo_store.2.1 260 = .ok (.iload 10, 2) := by decide +kernel
theorem d_Mo_store_262 : decode m_Mo_store.2.1 262 = .ok (.aload_n 0, 1) := by decide +kernel
theorem d_Mo_store_263 : decode m_Mo_store.2.1 263 = .ok (.getfield 44, 3) := by decide +kernel
theorem d_Mo_store_266 : decode m_Mo_store.2.1 266 = .ok (.iload_n 2, 1) := by decide +kernel
theorem d_Mo_store_267 : decode m_Mo_store.2.1 267 = .ok (.iaload, 1) := by decide +kernel
theorem d_Mo_store_268 : decode m_Mo_store.2.1 268 = .ok (.aload_n 0, 1) := by decide +kernel
theorem d_Mo_store_269 : decode m_Mo_store.2.1 269 = .ok (.getfield 50, 3) := by decide +kernel
theorem d_Mo_store_272 : decode m_Mo_store.2.1 272 = .ok (.iload_n 2, 1) := by decide +kernel
theorem d_Mo_store_273 : decode m_Mo_store.2.1 273 = .ok (.iaload, 1) := by decide +kernel
theorem d_Mo_store_274 : decode m_Mo_store.2.1 274 = .ok (.iadd, 1) := by decide +kernel
theorem d_Mo_store_275 : decode m_Mo_store.2.1 275 = .ok (.if_icmp .ge 8, 3) := by decide +kernel
theorem d_Mo_store_278 : decode m_Mo_store.2.1 278 = .ok (.iload 10, 2) := by decide +kernel
theorem d_Mo_store_280 : decode m_Mo_store.2.1 280 = .ok (.goto 16, 3) := by decide +kernel
theorem d_Mo_store_283 : decode m_Mo_store.2.1 283 = .ok (.aload_n 0, 1) := by decide +kernel
theorem d_Mo_store_284 : decode m_Mo_store.2.1 284 = .ok (.getfield 44, 3) := by decide +kernel
theorem d_Mo_store_287 : decode m_Mo_store.2.1 287 = .ok (.iload_n 2, 1) := by decide +kernel
theorem d_Mo_store_288 : decode m_Mo_store.2.1 288 = .ok (.iaload, 1) := by decide +kernel
theorem d_Mo_store_289 : decode m_Mo_store.2.1 289 = .ok (.aload_n 0, 1) := by decide +kernel
theorem d_Mo_store_290 : decode m_Mo_store.2.1 290 = .ok (.getfield 50, 3) := by decide +kernel
theorem d_Mo_store_293 : decode m_Mo_store.2.1 293 = .ok (.iload_n 2, 1) := by decide +kernel
theorem d_Mo_store_294 : decode m_Mo_store.2.1 294 = .ok (.iaload, 1) := by decide +kernel
theorem d_Mo_store_295 : decode m_Mo_store.2.1 295 = .ok (.iadd, 1) := by decide +kernel
theorem d_Mo_store_296 : decode m_Mo_store.2.1 296 = .ok (.istore 10, 2) := by decide +kernel
theorem d_Mo_store_298 : decode m_Mo_store.2.1 298 = .ok (.aload_n 0, 1) := by decide +kernel
theorem d_Mo_store_299 : decode m_Mo_store.2.1 299 = .ok (.getfield 92, 3) := by decide +kernel
theorem d_Mo_store_302 : decode m_Mo_store.2.1 302 = .ok (.iload 6, 2) := by decide +kernel
theorem d_Mo_store_304 : decode m_Mo_store.2.1 304 = .ok (.iload 7, 2) := by decide +kernel
theorem d_Mo_store_306 : decode m_Mo_store.2.1 306 = .ok (.aload_n 0, 1) := by decide +kernel
theorem d_Mo_store_307 : decode m_Mo_store.2.1 307 = .ok (.getfield 41, 3) := by decide +kernel
theorem d_Mo_store_310 : decode m_Mo_store.2.1 310 = .ok (.iload_n 2, 1) := by decide +kernel
theorem d_Mo_store_311 : decode m_Mo_store.2.1 311 = .ok (.iaload, 1) := by decide +kernel
theorem d_Mo_store_312 : decode m_Mo_store.2.1 312 = .ok (.isub, 1) := by decide +kernel
theorem d_Mo_store_313 : decode m_Mo_store.2.1 313 = .ok (.iastore, 1) := by decide +kernel
theorem d_Mo_store_314 : decode m_Mo_store.2.1 314 = .ok (.aload_n 0, 1) := by decide +kernel
theorem d_Mo_store_315 : decode m_Mo_store.2.1 315 = .ok (.getfield 92, 3) := by decide +kernel
theorem d_Mo_store_318 : decode m_Mo_store.2.1 318 = .ok (.iload 6, 2) := by decide +kernel
theorem d_Mo_store_320 : decode m_Mo_store.2.1 320 = .ok (.iconst 1, 1) := by decide +kernel
theorem d_Mo_store_321 : decode m_Mo_store.2.1 321 = .ok (.iadd, 1) := by decide +kernel
theorem d_Mo_store_322 : decode m_Mo_store.2.1 322 = .ok (.iload 8, 2) := by decide +kernel
theorem d_Mo_store_324 : decode m_Mo_store.2.1 324 = .ok (.aload_n 0, 1) := by decide +kernel
theorem d_Mo_store_325 : decode m_Mo_store.2.1 325 = .ok (.getfield 44, 3) := by decide +kernel
theorem d_Mo_store_328 : decode m_Mo_store.2.1 328 = .ok (.iload_n 2, 1) := by decide +kernel
theorem d_Mo_store_329 : decode m_Mo_store.2.1 329 = .ok (.iaload, 1) := by decide +kernel
theorem d_Mo_store_330 : decode m_Mo_store.2.1 330 = .ok (.isub, 1) := by decide +kernel
theorem d_Mo_store_331 : decode m_Mo_store.2.1 331 = .ok (.iastore, 1) := by decide +kernel
theorem d_Mo_store_332 : decode m_Mo_store.2.1 332 = .ok (.aload_n 0, 1) := by decide +kernel
theorem d_Mo_store_333 : decode m_Mo_store.2.1 333 = .ok (.getfield 92, 3) := by decide +kernel
theorem d_Mo_store_336 : decode m_Mo_store.2.1 336 = .ok (.iload 6, 2) := by decide +kernel
theorem d_Mo_store_338 : decode m_Mo_store.2.1 338 = .ok (.iconst 2, 1) := by decide +kernel
theorem d_Mo_store_339 : decode m_Mo_store.2.1 339 = .ok (.iadd, 1) := by decide +kernel
theorem d_Mo_store_340 : decode m_Mo_store.2.1 340 = .ok (.iload 9, 2) := by decide +kernel
theorem d_Mo_store_342 : decode m_Mo_store.2.1 342 = .ok (.iload 7, 2) := by decide +kernel
theorem d_Mo_store_344 : decode m_Mo_store.2.1 344 = .ok (.isub, 1) := by decide +kernel
theorem d_Mo_store_345 : decode m_Mo_store.2.1 345 = .ok (.iastore, 1) := by decide +kernel
theorem d_Mo_store_346 : decode m_Mo_store.2.1 346 = .ok (.aload_n 0, 1) := by decide +kernel
theorem d_Mo_store_347 : decode m_Mo_store.2.1 347 = .ok (.getfield 92, 3) := by decide +kernel
theorem d_Mo_store_350 : decode m_Mo_store.2.1 350 = .ok (.iload 6, 2) := by decide +kernel
theorem d_Mo_store_352 : decode m_Mo_store.2.1 352 = .ok (.iconst 3, 1) := by decide +kernel
theorem d_Mo_store_353 : decode m_Mo_store.2.1 353 = .ok (.iadd, 1) := by decide +kernel
theorem d_Mo_store_354 : decode m_Mo_store.2.1 354 = .ok (.iload 10, 2) := by decide +kernel
theorem d_Mo_store_356 : decode m_Mo_store.2.1 356 = .ok (.iload 8, 2) := by decide +kernel
theorem d_Mo_store_358 : decode m_Mo_store.2.1 358 = .ok (.isub, 1) := by decide +kernel
theorem d_Mo_store_359 : decode m_Mo_store.2.1 359 = .ok (.iastore, 1) := by decide +kernel
theorem d_Mo_store_360 : decode m_Mo_store.2.1 360 = .ok (.aload_n 0, 1) := by decide +kernel
theorem d_Mo_store_361 : decode m_Mo_store.2.1 361 = .ok (.getfield 89, 3) := by decide +kernel
theorem d_Mo_store_364 : decode m_Mo_store.2.1 364 = .ok (.iload_n 3, 1) := by decide +kernel
theorem d_Mo_store_365 : decode m_Mo_store.2.1 365 = .ok (.dup2, 1) := by decide +kernel
theorem d_Mo_store_366 : decode m_Mo_store.2.1 366 = .ok (.iaload, 1) := by decide +kernel
theorem d_Mo_store_367 : decode m_Mo_store.2.1 367 = .ok (.iconst 1, 1) := by decide +kernel
theorem d_Mo_store_368 : decode m_Mo_store.2.1 368 = .ok (.iadd, 1) := by decide +kernel
theorem d_Mo_store_369 : decode m_Mo_store.2.1 369 = .ok (.iastore, 1) := by decide +kernel
theorem d_Mo_store_370 : decode m_Mo_store.2.1 370 = .ok (.iinc 4 1, 3) := by decide +kernel
theorem d_Mo_store_373 : decode m_Mo_store.2.1 373 = .ok (.goto (-334), 3) := by decide +kernel
theorem d_Mo_store_376 : decode m_Mo_store.2.1 376 = .ok (.aload_n 0, 1) := by decide +kernel
theorem d_Mo_store_377 : decode m_Mo_store.2.1 377 = .ok (.dup, 1) := by decide +kernel
theorem d_Mo_store_378 : decode m_Mo_store.2.1 378 = .ok (.getfield 263, 3) := by decide +kernel
theorem d_Mo_store_381 : decode m_Mo_store.2.1 381 = .ok (.iconst 1, 1) := by decide +kernel
theorem d_Mo_store_382 : decode m_Mo_store.2.1 382 = .ok (.iadd, 1) := by decide +kernel
theorem d_Mo_store_383 : decode m_Mo_store.2.1 383 = .ok (.putfield 263, 3) := by decide +kernel
theorem d_Mo_store_386 : decode m_Mo_store.2.1 386 = .ok (.return_, 1) := by decide +kernel
theorem d_Mo_leave_0 : decode m_Mo_leave.2.1 0 = .ok (.iconst 0, 1) := by decide +kernel
theorem d_Mo_leave_1 : decode m_Mo_leave.2.1 1 = .ok (.istore_n 2, 1) := by decide +kernel
theorem d_Mo_leave_2 : decode m_Mo_leave.2.1 2 = .ok (.iconst 0, 1) := by decide +kernel
theorem d_Mo_leave_3 : decode m_Mo_leave.2.1 3 = .ok (.istore_n 3, 1) := by decide +kernel
theorem d_Mo_leave_4 : decode m_Mo_leave.2.1 4 = .ok (.iload_n 3, 1) := by decide +kernel
theorem d_Mo_leave_5 : decode m_Mo_leave.2.1 5 = .ok (.aload_n 0, 1) := by decide +kernel
theorem d_Mo_leave_6 : decode m_Mo_leave.2.1 6 = .ok (.getfield 35, 3) := by decide +kernel
theorem d_Mo_leave_9 : decode m_Mo_leave.2.1 9 = .ok (.iload_n 1, 1) := by decide +kernel
theorem d_Mo_leave_10 : decode m_Mo_leave.2.1 10 = .ok (.iaload, 1) := by decide +kernel
theorem d_Mo_leave_11 : decode m_Mo_leave.2.1 11 = .ok (.if_icmp .ge 35, 3) := by decide +kernel
theorem d_Mo_leave_14 : decode m_Mo_leave.2.1 14 = .ok (.iload_n 2, 1) := by decide +kernel
theorem d_Mo_leave_15 : decode m_Mo_leave.2.1 15 = .ok (.ifCond .ne 19, 3) := by decide +kernel
theorem d_Mo_leave_18 : decode m_Mo_leave.2.1 18 = .ok (.aload_n 0, 1) := by decide +kernel
theorem d_Mo_leave_19 : decode m_Mo_leave.2.1 19 = .ok (.getfield 62, 3) := by decide +kernel
theorem d_Mo_leave_22 : decode m_Mo_leave.2.1 22 = .ok (.sipush 160, 3) := by decide +kernel
theorem d_Mo_leave_25 : decode m_Mo_leave.2.1 25 = .ok (.iload_n 1, 1) := by decide +kernel
theorem d_Mo_leave_26 : decode m_Mo_leave.2.1 26 = .ok (.imul, 1) := by decide +kernel
theorem d_Mo_leave_27 : decode m_Mo_leave.2.1 27 = .ok (.iload_n 3, 1) := by decide +kernel
theorem d_Mo_leave_28 : decode m_Mo_leave.2.1 28 = .ok (.iadd, 1) := by decide +kernel
theorem d_Mo_leave_29 : decode m_Mo_leave.2.1 29 = .ok (.iaload, 1) := by decide +kernel
theorem d_Mo_leave_30 : decode m_Mo_leave.2.1 30 = .ok (.iconst 1, 1) := by decide +kernel
theorem d_Mo_leave_31 : decode m_Mo_leave.2.1 31 = .ok (.if_icmp .ne 7, 3) := by decide +kernel
theorem d_Mo_leave_34 : decode m_Mo_leave.2.1 34 = .ok (.iconst 1, 1) := by decide +kernel
theorem d_Mo_leave_35 : decode m_Mo_leave.2.1 35 = .ok (.goto 4, 3) := by decide +kernel
theorem d_Mo_leave_38 : decode m_Mo_leave.2.1 38 = .ok (.iconst 0, 1) := by decide +kernel
theorem d_Mo_leave_39 : decode m_Mo_leave.2.1 39 = .ok (.istore_n 2, 1) := by decide +kernel
theorem d_Mo_leave_40 : decode m_Mo_leave.2.1 40 = .ok (.iinc 3 1, 3) := by decide +kernel
theorem d_Mo_leave_43 : decode m_Mo_leave.2.1 43 = .ok (.goto (-39), 3) := by decide +kernel
theorem d_Mo_leave_46 : decode m_Mo_leave.2.1 46 = .ok (.aload_n 0, 1) := by decide +kernel
theorem d_Mo_leave_47 : decode m_Mo_leave.2.1 47 = .ok (.getfield 7, 3) := by decide +kernel
theorem d_Mo_leave_50 : decode m_Mo_leave.2.1 50 = .ok (.iload_n 1, 1) := by decide +kernel
theorem d_Mo_leave_51 : decode m_Mo_leave.2.1 51 = .ok (.iload_n 2, 1) := by decide +kernel
theorem d_Mo_leave_52 : decode m_Mo_leave.2.1 52 = .ok (.bastore, 1) := by decide +kernel
theorem d_Mo_leave_53 : decode m_Mo_leave.2.1 53 = .ok (.return_, 1) := by decide +kernel
theorem d_Mo_broke_0 : decode m_Mo_broke.2.1 0 = .ok (.aload_n 0, 1) := by decide +kernel
theorem d_Mo_broke_1 : decode m_Mo_broke.2.1 1 = .ok (.iload_n 1, 1) := by decide +kernel
theorem d_Mo_broke_2 : decode m_Mo_broke.2.1 2 = .ok (.invokevirtual 166, 3) := by decide +kernel
theorem d_Mo_broke_5 : decode m_Mo_broke.2.1 5 = .ok (.istore_n 3, 1) := by decide +kernel
theorem d_Mo_broke_6 : decode m_Mo_broke.2.1 6 = .ok (.aload_n 0, 1) := by decide +kernel
theorem d_Mo_broke_7 : decode m_Mo_broke.2.1 7 = .ok (.iload_n 3, 1) := by decide +kernel
theorem d_Mo_broke_8 : decode m_Mo_broke.2.1 8 = .ok (.ifCond .ge 7, 3) := by decide +kernel
theorem d_Mo_broke_11 : decode m_Mo_broke.2.1 11 = .ok (.iconst 1, 1) := by decide +kernel
theorem d_Mo_broke_12 : decode m_Mo_broke.2.1 12 = .ok (.goto 55, 3) := by decide +kernel
theorem d_Mo_broke_15 : decode m_Mo_broke.2.1 15 = .ok (.aload_n 0, 1) := by decide +kernel
theorem d_Mo_broke_16 : decode m_Mo_broke.2.1 16 = .ok (.getfield 23, 3) := by decide +kernel
theorem d_Mo_broke_19 : decode m_Mo_broke.2.1 19 = .ok (.iload_n 3, 1) := by decide +kernel
theorem d_Mo_broke_20 : decode m_Mo_broke.2.1 20 = .ok (.baload, 1) := by decide +kernel
theorem d_Mo_broke_21 : decode m_Mo_broke.2.1 21 = .ok (.ifCond .ne 7, 3) := by decide +kernel
theorem d_Mo_broke_24 : decode m_Mo_broke.2.1 24 = .ok (.iconst 2, 1) := by decide +kernel
theorem d_Mo_broke_25 : decode m_Mo_broke.2.1 25 = .ok (.goto 42, 3) := by decide +kernel
theorem d_Mo_broke_28 : decode m_Mo_broke.2.1 28 = .ok (.iload_n 2, 1) := by decide +kernel
theorem d_Mo_broke_29 : decode m_Mo_broke.2.1 29 = .ok (.ifCond .lt 13, 3) := by decide +kernel
theorem d_Mo_broke_32 : decode m_Mo_broke.2.1 32 = .ok (.iload_n 2, 1) := by decide +kernel
theorem d_Mo_broke_33 : decode m_Mo_broke.2.1 33 = .ok (.aload_n 0, 1) := by decide +kernel
theorem d_Mo_broke_34 : decode m_Mo_broke.2.1 34 = .ok (.getfield 35, 3) := by decide +kernel
theorem d_Mo_broke_37 : decode m_Mo_broke.2.1 37 = .ok (.iload_n 3, 1) := by decide +kernel
theorem d_Mo_broke_38 : decode m_Mo_broke.2.1 38 = .ok (.iaload, 1) := by decide +kernel
theorem d_Mo_broke_39 : decode m_Mo_broke.2.1 39 = .ok (.if_icmp .lt 7, 3) := by decide +kernel
theorem d_Mo_broke_42 : decode m_Mo_broke.2.1 42 = .ok (.iconst 3, 1) := by decide +kernel
theorem d_Mo_broke_43 : decode m_Mo_broke.2.1 43 = .ok (.goto 24, 3) := by decide +kernel
theorem d_Mo_broke_46 : decode m_Mo_broke.2.1 46 = .ok (.aload_n 0, 1) := by decide +kernel
theorem d_Mo_broke_47 : decode m_Mo_broke.2.1 47 = .ok (.getfield 62, 3) := by decide +kernel
theorem d_Mo_broke_50 : decode m_Mo_broke.2.1 50 = .ok (.sipush 160, 3) := by decide +kernel
theorem d_Mo_broke_53 : decode m_Mo_broke.2.1 53 = .ok (.iload_n 3, 1) := by decide +kernel
theorem d_Mo_broke_54 : decode m_Mo_broke.2.1 54 = .ok (.imul, 1) := by decide +kernel
theorem d_Mo_broke_55 : decode m_Mo_broke.2.1 55 = .ok (.iload_n 2, 1) := by decide +kernel
theorem d_Mo_broke_56 : decode m_Mo_broke.2.1 56 = .ok (.iadd, 1) := by decide +kernel
theorem d_Mo_broke_57 : decode m_Mo_broke.2.1 57 = .ok (.iaload, 1) := by decide +kernel
theorem d_Mo_broke_58 : decode m_Mo_broke.2.1 58 = .ok (.iconst 1, 1) := by decide +kernel
theorem d_Mo_broke_59 : decode m_Mo_broke.2.1 59 = .ok (.if_icmp .eq 7, 3) := by decide +kernel
theorem d_Mo_broke_62 : decode m_Mo_broke.2.1 62 = .ok (.iconst 2, 1) := by decide +kernel
theorem d_Mo_broke_63 : decode m_Mo_broke.2.1 63 = .ok (.goto 4, 3) := by decide +kernel
theorem d_Mo_broke_66 : decode m_Mo_broke.2.1 66 = .ok (.iconst 0, 1) := by decide +kernel
theorem d_Mo_broke_67 : decode m_Mo_broke.2.1 67 = .ok (.putfield 140, 3) := by decide +kernel
theorem d_Mo_broke_70 : decode m_Mo_broke.2.1 70 = .ok (.aload_n 0, 1) := by decide +kernel
theorem d_Mo_broke_71 : decode m_Mo_broke.2.1 71 = .ok (.getfield 140, 3) := by decide +kernel
theorem d_Mo_broke_74 : decode m_Mo_broke.2.1 74 = .ok (.ifCond .le 5, 3) := by decide +kernel
theorem d_Mo_broke_77 : decode m_Mo_broke.2.1 77 = .ok (.iconst 0, 1) := by decide +kernel
theorem d_Mo_broke_78 : decode m_Mo_broke.2.1 78 = .ok (.ireturn, 1) := by decide +kernel
theorem d_Mo_broke_79 : decode m_Mo_broke.2.1 79 = .ok (.sipush 160, 3) := by decide +kernel
theorem d_Mo_broke_82 : decode m_Mo_broke.2.1 82 = .ok (.iload_n 3, 1) := by decide +kernel
theorem d_Mo_broke_83 : decode m_Mo_broke.2.1 83 = .ok (.imul, 1) := by decide +kernel
theorem d_Mo_broke_84 : decode m_Mo_broke.2.1 84 = .ok (.iload_n 2, 1) := by decide +kernel
theorem d_Mo_broke_85 : decode m_Mo_broke.2.1 85 = .ok (.iadd, 1) := by decide +kernel
theorem d_Mo_broke_86 : decode m_Mo_broke.2.1 86 = .ok (.istore 4, 2) := by decide +kernel
theorem d_Mo_broke_88 : decode m_Mo_broke.2.1 88 = .ok (.aload_n 0, 1) := by decide +kernel
theorem d_Mo_broke_89 : decode m_Mo_broke.2.1 89 = .ok (.dup, 1) := by decide +kernel
theorem d_Mo_broke_90 : decode m_Mo_broke.2.1 90 = .ok (.getfield 282, 3) := by decide +kernel
theorem d_Mo_broke_93 : decode m_Mo_broke.2.1 93 = .ok (.aload_n 0, 1) := by decide +kernel
theorem d_Mo_broke_94 : decode m_Mo_broke.2.1 94 = .ok (.getfield 47, 3) := by decide +kernel
theorem d_Mo_broke_97 : decode m_Mo_broke.2.1 97 = .ok (.iload 4, 2) := by decide +kernel
theorem d_Mo_broke_99 : decode m_Mo_broke.2.1 99 = .ok (.iaload, 1) := by decide +kernel
theorem d_Mo_broke_100 : decode m_Mo_broke.2.1 100 = .ok (.i2l, 1) := by decide +kernel
theorem d_Mo_broke_101 : decode m_Mo_broke.2.1 101 = .ok (.aload_n 0, 1) := by decide +kernel
theorem d_Mo_broke_102 : decode m_Mo_broke.2.1 102 = .ok (.getfield 50, 3) := by decide +kernel
theorem d_Mo_broke_105 : decode m_Mo_broke.2.1 105 = .ok (.iload 4, 2) := by decide +kernel
theorem d_Mo_broke_107 : decode m_Mo_broke.2.1 107 = .ok (.iaload, 1) := by decide +kernel
theorem d_Mo_broke_108 : decode m_Mo_broke.2.1 108 = .ok (.i2l, 1) := by decide +kernel
theorem d_Mo_broke_109 : decode m_Mo_broke.2.1 109 = .ok (.lmul, 1) := by decide +kernel
theorem d_Mo_broke_110 : decode m_Mo_broke.2.1 110 = .ok (.ladd, 1) := by decide +kernel
theorem d_Mo_broke_111 : decode m_Mo_broke.2.1 111 = .ok (.putfield 282, 3) := by decide +kernel
theorem d_Mo_broke_114 : decode m_Mo_broke.2.1 114 = .ok (.iconst 0, 1) := by decide +kernel
theorem d_Mo_broke_115 : decode m_Mo_broke.2.1 115 = .ok (.istore 5, 2) := by decide +kernel
theorem d_Mo_broke_117 : decode m_Mo_broke.2.1 117 = .ok (.iconst 1, 1) := by decide +kernel
theorem d_Mo_broke_118 : decode m_Mo_broke.2.1 118 = .ok (.istore 6, 2) := by decide +kernel
theorem d_Mo_broke_120 : decode m_Mo_broke.2.1 120 = .ok (.iload_n 2, 1) := by decide +kernel
theorem d_Mo_broke_121 : decode m_Mo_broke.2.1 121 = .ok (.istore 7, 2) := by decide +kernel
theorem d_Mo_broke_123 : decode m_Mo_broke.2.1 123 = .ok (.iload 7, 2) := by decide +kernel
theorem d_Mo_broke_125 : decode m_Mo_broke.2.1 125 = .ok (.aload_n 0, 1) := by decide +kernel
theorem d_Mo_broke_126 : decode m_Mo_broke.2.1 126 = .ok (.getfield 35, 3) := by decide +kernel
theorem d_Mo_broke_129 : decode m_Mo_broke.2.1 129 = .ok (.iload_n 3, 1) := by decide +kernel
theorem d_Mo_broke_130 : decode m_Mo_broke.2.1 130 = .ok (.iaload, 1) := by decide +kernel
theorem d_Mo_broke_131 : decode m_Mo_broke.2.1 131 = .ok (.if_icmp .ge 204, 3) := by decide +kernel
theorem d_Mo_broke_134 : decode m_Mo_broke.2.1 134 = .ok (.sipush 160, 3) := by decide +kernel
theorem d_Mo_broke_137 : decode m_Mo_broke.2.1 137 = .ok (.iload_n 3, 1) := by decide +kernel
theorem d_Mo_broke_138 : decode m_Mo_broke.2.1 138 = .ok (.imul, 1) := by decide +kernel
theorem d_Mo_broke_139 : decode m_Mo_broke.2.1 139 = .ok (.iload 7, 2) := by decide +kernel
theorem d_Mo_broke_141 : decode m_Mo_broke.2.1 141 = .ok (.iadd, 1) := by decide +kernel
theorem d_Mo_broke_142 : decode m_Mo_broke.2.1 142 = .ok (.istore 8, 2) := by decide +kernel
theorem d_Mo_broke_144 : decode m_Mo_broke.2.1 144 = .ok (.aload_n 0, 1) := by decide +kernel
theorem d_Mo_broke_145 : decode m_Mo_broke.2.1 145 = .ok (.getfield 41, 3) := by decide +kernel
theorem d_Mo_broke_148 : decode m_Mo_broke.2.1 148 = .ok (.iload 8, 2) := by decide +kernel
theorem d_Mo_broke_150 : decode m_Mo_broke.2.1 150 = .ok (.iaload, 1) := by decide +kernel
theorem d_Mo_broke_151 : decode m_Mo_broke.2.1 151 = .ok (.aload_n 0, 1) := by decide +kernel
theorem d_Mo_broke_152 : decode m_Mo_broke.2.1 152 = .ok (.getfield 41, 3) := by decide +kernel
theorem d_Mo_broke_155 : decode m_Mo_broke.2.1 155 = .ok (.iload 4, 2) := by decide +kernel
theorem d_Mo_broke_157 : decode m_Mo_broke.2.1 157 = .ok (.iaload, 1) := by decide +kernel
theorem d_Mo_broke_158 : decode m_Mo_broke.2.1 158 = .ok (.if_icmp .lt 90, 3) := by decide +kernel
theorem d_Mo_broke_161 : decode m_Mo_broke.2.1 161 = .ok (.aload_n 0, 1) := by decide +kernel
theorem d_Mo_broke_162 : decode m_Mo_broke.2.1 162 = .ok (.getfield 44, 3) := by decide +kernel
theorem d_Mo_broke_165 : decode m_Mo_broke.2.1 165 = .ok (.iload 8, 2) := by decide +kernel
theorem d_Mo_broke_167 : decode m_Mo_broke.2.1 167 = .ok (.iaload, 1) := by decide +kernel
theorem d_Mo_broke_168 : decode m_Mo_broke.2.1 168 = .ok (.aload_n 0, 1) := by decide +kernel
theorem d_Mo_broke_169 : decode m_Mo_broke.2.1 169 = .ok (.getfield 44, 3) := by decide +kernel
theorem d_Mo_broke_172 : decode m_Mo_broke.2.1 172 = .ok (.iload 4, 2) := by decide +kernel
theorem d_Mo_broke_174 : decode m_Mo_broke.2.1 174 = .ok (.iaload, 1) := by decide +kernel
theorem d_Mo_broke_175 : decode m_Mo_broke.2.1 175 = .ok (.if_icmp .lt 73, 3) := by decide +kernel
theorem d_Mo_broke_178 : decode m_Mo_broke.2.1 178 = .ok (.aload_n 0, 1) := by decide +kernel
theorem d_Mo_broke_179 : decode m_Mo_broke.2.1 179 = .ok (.getfield 41, 3) := by decide +kernel
theorem d_Mo_broke_182 : decode m_Mo_broke.2.1 182 = .ok (.iload 8, 2) := by decide +kernel
theorem d_Mo_broke_184 : decode m_Mo_broke.2.1 184 = .ok (.iaload, 1) := by decide +kernel
theorem d_Mo_broke_185 : decode m_Mo_broke.2.1 185 = .ok (.aload_n 0, 1) := by decide +kernel
theorem d_Mo_broke_186 : decode m_Mo_broke.2.1 186 = .ok (.getfield 47, 3) := by decide +kernel
theorem d_Mo_broke_189 : decode m_Mo_broke.2.1 189 = .ok (.iload 8, 2) := by decide +kernel
theorem d_Mo_broke_191 : decode m_Mo_broke.2.1 191 = .ok (.iaload, 1) := by decide +kernel
theorem d_Mo_broke_192 : decode m_Mo_broke.2.1 192 = .ok (.iadd, 1) := by decide +kernel
theorem d_Mo_broke_193 : decode m_Mo_broke.2.1 193 = .ok (.aload_n 0, 1) := by decide +kernel
theorem d_Mo_broke_194 : decode m_Mo_broke.2.1 194 = .ok (.getfield 41, 3) := by decide +kernel
theorem d_Mo_broke_197 : decode m_Mo_broke.2.1 197 = .ok (.iload 4, 2) := by decide +kernel
theorem d_Mo_broke_199 : decode m_Mo_broke.2.1 199 = .ok (.iaload, 1) := by decide +kernel
theorem d_Mo_broke_200 : decode m_Mo_broke.2.1 200 = .ok (.aload_n 0, 1) := by decide +kernel
theorem d_Mo_broke_201 : decode m_Mo_broke.2.1 201 = .ok (.getfield 47, 3) := by decide +kernel
theorem d_Mo_broke_204 : decode m_Mo_broke.2.1 204 = .ok (.iload 4, 2) := by decide +kernel
theorem d_Mo_broke_206 : decode m_Mo_broke.2.1 206 = .ok (.iaload, 1) := by decide +kernel
theorem d_Mo_broke_207 : decode m_Mo_broke.2.1 207 = .ok (.iadd, 1) := by decide +kernel
theorem d_Mo_broke_208 : decode m_Mo_broke.2.1 208 = .ok (.if_icmp .gt 40, 3) := by decide +kernel
theorem d_Mo_broke_211 : decode m_Mo_broke.2.1 211 = .ok (.aload_n 0, 1) := by decide +kernel
theorem d_Mo_broke_212 : decode m_Mo_broke.2.1 212 = .ok (.getfield 44, 3) := by decide +kernel
theorem d_Mo_broke_215 : decode m_Mo_broke.2.1 215 = .ok (.iload 8, 2) := by decide +kernel
theorem d_Mo_broke_217 : decode m_Mo_broke.2.1 217 = .ok (.iaload, 1) := by decide +kernel
theorem d_Mo_broke_218 : decode m_Mo_broke.2.1 218 = .ok (.aload_n 0, 1) := by decide +kernel
theorem d_Mo_broke_219 : decode m_Mo_broke.2.1 219 = .ok (.getfield 50, 3) := by decide +kernel
theorem d_Mo_broke_222 : decode m_Mo_broke.2.1 222 = .ok (.iload 8, 2) := by decide +kernel
theorem d_Mo_broke_224 : decode m_Mo_broke.2.1 224 = .ok (.iaload, 1) := by decide +kernel
theorem d_Mo_broke_225 : decode m_Mo_broke.2.1 225 = .ok (.iadd, 1) := by decide +kernel
theorem d_Mo_broke_226 : decode m_Mo_broke.2.1 226 = .ok (.aload_n 0, 1) := by decide +kernel
theorem d_Mo_broke_227 : decode m_Mo_broke.2.1 227 = .ok (.getfield 44, 3) := by decide +kernel
theorem d_Mo_broke_230 : decode m_Mo_broke.2.1 230 = .ok (.iload 4, 2) := by decide +kernel
theorem d_Mo_broke_232 : decode m_Mo_broke.2.1 232 = .ok (.iaload, 1) := by decide +kernel
theorem d_Mo_broke_233 : decode m_Mo_broke.2.1 233 = .ok (.aload_n 0, 1) := by decide +kernel
theorem d_Mo_broke_234 : decode m_Mo_broke.2.1 234 = .ok (.getfield 50, 3) := by decide +kernel
theorem d_Mo_broke_237 : decode m_Mo_broke.2.1 237 = .ok (.iload 4, 2) := by decide +kernel
theorem d_Mo_broke_239 : decode m_Mo_broke.2.1 239 = .ok (.iaload, 1) := by decide +kernel
theorem d_Mo_broke_240 : decode m_Mo_broke.2.1 240 = .ok (.iadd, 1) := by decide +kernel
theorem d_Mo_broke_241 : decode m_Mo_broke.2.1 241 = .ok (.if_icmp .gt 7, 3) := by decide +kernel
theorem d_Mo_broke_244 : decode m_Mo_broke.2.1 244 = .ok (.iconst 1, 1) := by decide +kernel
theorem d_Mo_broke_245 : decode m_Mo_broke.2.1 245 = .ok (.goto 4, 3) := by decide +kernel
theorem d_Mo_broke_248 : decode m_Mo_broke.2.1 248 = .ok (.iconst 0, 1) := by decide +kernel
theorem d_Mo_broke_249 : decode m_Mo_broke.2.1 249 = .ok (.istore 6, 2) := by decide +kernel
theorem d_Mo_broke_251 : decode m_Mo_broke.2.1 251 = .ok (.iload 6, 2) := by decide +kernel
theorem d_Mo_broke_253 : decode m_Mo_broke.2.1 253 = .ok (.ifCond .eq 76, 3) := by decide +kernel
theorem d_Mo_broke_256 : decode m_Mo_broke.2.1 256 = .ok (.aload_n 0, 1) := by decide +kernel
theorem d_Mo_broke_257 : decode m_Mo_broke.2.1 257 = .ok (.getfield 62, 3) := by decide +kernel
theorem d_Mo_broke_260 : decode m_Mo_broke.2.1 260 = .ok (.iload 8, 2) := by decide +kernel
theorem d_Mo_broke_262 : decode m_Mo_broke.2.1 262 = .ok (.iconst 3, 1) := by decide +kernel
theorem d_Mo_broke_263 : decode m_Mo_broke.2.1 263 = .ok (.iastore, 1) := by decide +kernel
theorem d_Mo_broke_264 : decode m_Mo_broke.2.1 264 = .ok (.aload_n 0, 1) := by decide +kernel
theorem d_Mo_broke_265 : decode m_Mo_broke.2.1 265 = .ok (.getfield 38, 3) := by decide +kernel
theorem d_Mo_broke_268 : decode m_Mo_broke.2.1 268 = .ok (.iload 8, 2) := by decide +kernel
theorem d_Mo_broke_270 : decode m_Mo_broke.2.1 270 = .ok (.iaload, 1) := by decide +kernel
theorem d_Mo_broke_271 : decode m_Mo_broke.2.1 271 = .ok (.iconst 2, 1) := by decide +kernel
theorem d_Mo_broke_272 : decode m_Mo_broke.2.1 272 = .ok (.if_icmp .ne 10, 3) := by decide +kernel
theorem d_Mo_broke_275 : decode m_Mo_broke.2.1 275 = .ok (.iload 5, 2) := by decide +kernel
theorem d_Mo_broke_277 : decode m_Mo_broke.2.1 277 = .ok (.iconst 1, 1) := by decide +kernel
theorem d_Mo_broke_278 : decode m_Mo_broke.2.1 278 = .ok (.iadd, 1) := by decide +kernel
theorem d_Mo_broke_279 : decode m_Mo_broke.2.1 279 = .ok (.goto 5, 3) := by decide +kernel
theorem d_Mo_broke_282 : decode m_Mo_broke.2.1 282 = .ok (.iload 5, 2) := by decide +kernel
theorem d_Mo_broke_284 : decode m_Mo_broke.2.1 284 = .ok (.istore 5, 2) := by decide +kernel
theorem d_Mo_broke_286 : decode m_Mo_broke.2.1 286 = .ok (.aload_n 0, 1) := by decide +kernel
theorem d_Mo_broke_287 : decode m_Mo_broke.2.1 287 = .ok (.getfield 38, 3) := by decide +kernel
theorem d_Mo_broke_290 : decode m_Mo_broke.2.1 290 = .ok (.iload 8, 2) := by decide +kernel
theorem d_Mo_broke_292 : decode m_Mo_broke.2.1 292 = .ok (.iaload, 1) := by decide +kernel
theorem d_Mo_broke_293 : decode m_Mo_broke.2.1 293 = .ok (.iconst 2, 1) := by decide +kernel
theorem d_Mo_broke_294 : decode m_Mo_broke.2.1 294 = .ok (.if_icmp .ne 35, 3) := by decide +kernel
theorem d_Mo_broke_297 : decode m_Mo_broke.2.1 297 = .ok (.aload_n 0, 1) := by decide +kernel
theorem d_Mo_broke_298 : decode m_Mo_broke.2.1 298 = .ok (.getfield 77, 3) := by decide +kernel
theorem d_Mo_broke_301 : decode m_Mo_broke.2.1 301 = .ok (.aload_n 0, 1) := by decide +kernel
theorem d_Mo_broke_302 : decode m_Mo_broke.2.1 302 = .ok (.getfield 53, 3) := by decide +kernel
theorem d_Mo_broke_305 : decode m_Mo_broke.2.1 305 = .ok (.iload 8, 2) := by decide +kernel
theorem d_Mo_broke_307 : decode m_Mo_broke.2.1 307 = .ok (.iaload, 1) := by decide +kernel
theorem d_Mo_broke_308 : decode m_Mo_broke.2.1 308 = .ok (.dup2, 1) := by decide +kernel
theorem d_Mo_broke_309 : decode m_Mo_broke.2.1 309 = .ok (.iaload, 1) := by decide +kernel
theorem d_Mo_broke_310 : decode m_Mo_broke.2.1 310 = .ok (.iconst 1, 1) := by decide +kernel
theorem d_Mo_broke_311 : decode m_Mo_broke.2.1 311 = .ok (.isub, 1) := by decide +kernel
theorem d_Mo_broke_312 : decode m_Mo_broke.2.1 312 = .ok (.iastore, 1) := by decide +kernel
theorem d_Mo_broke_313 : decode m_Mo_broke.2.1 313 = .ok (.aload_n 0, 1) := by decide +kernel
theorem d_Mo_broke_314 : decode m_Mo_broke.2.1 314 = .ok (.getfield 74, 3) := by decide +kernel
theorem d_Mo_broke_317 : decode m_Mo_broke.2.1 317 = .ok (.aload_n 0, 1) := by decide +kernel
theorem d_Mo_broke_318 : decode m_Mo_broke.2.1 318 = .ok (.getfield 53, 3) := by decide +kernel
theorem d_Mo_broke_321 : decode m_Mo_broke.2.1 321 = .ok (.iload 8, 2) := by decide +kernel
theorem d_Mo_broke_323 : decode m_Mo_broke.2.1 323 = .ok (.iaload, 1) := by decide +kernel
theorem d_Mo_broke_324 : decode m_Mo_broke.2.1 324 = .ok (.dup2, 1) := by decide +kernel
theorem d_Mo_broke_325 : decode m_Mo_broke.2.1 325 = .ok (.iaload, 1) := by decide +kernel
theorem d_Mo_broke_326 : decode m_Mo_broke.2.1 326 = .ok (.iconst 1, 1) := by decide +kernel
theorem d_Mo_broke_327 : decode m_Mo_broke.2.1 327 = .ok (.iadd, 1) := by decide +kernel
theorem d_Mo_broke_328 : decode m_Mo_broke.2.1 328 = .ok (.iastore, 1) := by decide +kernel
theorem d_Mo_broke_329 : decode m_Mo_broke.2.1 329 = .ok (.iinc 7 1, 3) := by decide +kernel
theorem d_Mo_broke_332 : decode m_Mo_broke.2.1 332 = .ok (.goto (-209), 3) := by decide +kernel
theorem d_Mo_broke_335 : decode m_Mo_broke.2.1 335 = .ok (.aload_n 0, 1) := by decide +kernel
theorem d_Mo_broke_336 : decode m_Mo_broke.2.1 336 = .ok (.iload_n 3, 1) := by decide +kernel
theorem d_Mo_broke_337 : decode m_Mo_broke.2.1 337 = .ok (.invokevirtual 279, 3) := by decide +kernel
theorem d_Mo_broke_340 : decode m_Mo_broke.2.1 340 = .ok (.iload 5, 2) := by decide +kernel
theorem d_Mo_broke_342 : decode m_Mo_broke.2.1 342 = .ok (.ireturn, 1) := by decide +kernel
theorem d_Mo_cancel_0 : decode m_Mo_cancel.2.1 0 = .ok (.aload_n 0, 1) := by decide +kernel
theorem d_Mo_cancel_1 : decode m_Mo_cancel.2.1 1 = .ok (.iload_n 1, 1) := by decide +kernel
theorem d_Mo_cancel_2 : decode m_Mo_cancel.2.1 2 = .ok (.invokevirtual 166, 3) := by decide +kernel
theorem d_Mo_cancel_5 : decode m_Mo_cancel.2.1 5 = .ok (.istore_n 2, 1) := by decide +kernel
theorem d_Mo_cancel_6 : decode m_Mo_cancel.2.1 6 = .ok (.aload_n 0, 1) := by decide +kernel
theorem d_Mo_cancel_7 : decode m_Mo_cancel.2.1 7 = .ok (.iload_n 2, 1) := by decide +kernel
theorem d_Mo_cancel_8 : decode m_Mo_cancel.2.1 8 = .ok (.ifCond .ge 7, 3) := by decide +kernel
theorem d_Mo_cancel_11 : decode m_Mo_cancel.2.1 11 = .ok (.iconst 1, 1) := by decide +kernel
theorem d_Mo_cancel_12 : decode m_Mo_cancel.2.1 12 = .ok (.goto 26, 3) := by decide +kernel
theorem d_Mo_cancel_15 : decode m_Mo_cancel.2.1 15 = .ok (.aload_n 0, 1) := by decide +kernel
theorem d_Mo_cancel_16 : decode m_Mo_cancel.2.1 16 = .ok (.getfield 23, 3) := by decide +kernel
theorem d_Mo_cancel_19 : decode m_Mo_cancel.2.1 19 = .ok (.iload_n 2, 1) := by decide +kernel
theorem d_Mo_cancel_20 : decode m_Mo_cancel.2.1 20 = .ok (.baload, 1) := by decide +kernel
theorem d_Mo_cancel_21 : decode m_Mo_cancel.2.1 21 = .ok (.ifCond .eq 12, 3) := by decide +kernel
theorem d_Mo_cancel_24 : decode m_Mo_cancel.2.1 24 = .ok (.aload_n 0, 1) := by decide +kernel
theorem d_Mo_cancel_25 : decode m_Mo_cancel.2.1 25 = .ok (.getfield 26, 3) := by decide +kernel
theorem d_Mo_cancel_28 : decode m_Mo_cancel.2.1 28 = .ok (.iload_n 2, 1) := by decide +kernel
theorem d_Mo_cancel_29 : decode m_Mo_cancel.2.1 29 = .ok (.baload, 1) := by decide +kernel
theorem d_Mo_cancel_30 : decode m_Mo_cancel.2.1 30 = .ok (.ifCond .eq 7, 3) := by decide +kernel
theorem d_Mo_cancel_33 : decode m_Mo_cancel.2.1 33 = .ok (.iconst 2, 1) := by decide +kernel
theorem d_Mo_cancel_34 : decode m_Mo_cancel.2.1 34 = .ok (.goto 4, 3) := by decide +kernel
theorem d_Mo_cancel_37 : decode m_Mo_cancel.2.1 37 = .ok (.iconst 0, 1) := by decide +kernel
theorem d_Mo_cancel_38 : decode m_Mo_cancel.2.1 38 = .ok (.putfield 140, 3) := by decide +kernel
theorem d_Mo_cancel_41 : decode m_Mo_cancel.2.1 41 = .ok (.aload_n 0, 1) := by decide +kernel
theorem d_Mo_cancel_42 : decode m_Mo_cancel.2.1 42 = .ok (.getfield 140, 3) := by decide +kernel
theorem d_Mo_cancel_45 : decode m_Mo_cancel.2.1 45 = .ok (.ifCond .le 5, 3) := by decide +kernel
theorem d_Mo_cancel_48 : decode m_Mo_cancel.2.1 48 = .ok (.iconst 0, 1) := by decide +kernel
theorem d_Mo_cancel_49 : decode m_Mo_cancel.2.1 49 = .ok (.ireturn, 1) := by decide +kernel
theorem d_Mo_cancel_50 : decode m_Mo_cancel.2.1 50 = .ok (.iconst 0, 1) := by decide +kernel
theorem d_Mo_cancel_51 : decode m_Mo_cancel.2.1 51 = .ok (.istore_n 3, 1) := by decide +kernel
theorem d_Mo_cancel_52 : decode m_Mo_cancel.2.1 52 = .ok (.iconst 0, 1) := by decide +kernel
theorem d_Mo_cancel_53 : decode m_Mo_cancel.2.1 53 = .ok (.istore 4, 2) := by decide +kernel
theorem d_Mo_cancel_55 : decode m_Mo_cancel.2.1 55 = .ok (.iload 4, 2) := by decide +kernel
theorem d_Mo_cancel_57 : decode m_Mo_cancel.2.1 57 = .ok (.aload_n 0, 1) := by decide +kernel
theorem d_Mo_cancel_58 : decode m_Mo_cancel.2.1 58 = .ok (.getfield 35, 3) := by decide +kernel
theorem d_Mo_cancel_61 : decode m_Mo_cancel.2.1 61 = .ok (.iload_n 2, 1) := by decide +kernel
theorem d_Mo_cancel_62 : decode m_Mo_cancel.2.1 62 = .ok (.iaload, 1) := by decide +kernel
theorem d_Mo_cancel_63 : decode m_Mo_cancel.2.1 63 = .ok (.if_icmp .ge 65, 3) := by decide +kernel
theorem d_Mo_cancel_66 : decode m_Mo_cancel.2.1 66 = .ok (.sipush 160, 3) := by decide +kernel
theorem d_Mo_cancel_69 : decode m_Mo_cancel.2.1 69 = .ok (.iload_n 2, 1) := by decide +kernel
theorem d_Mo_cancel_70 : decode m_Mo_cancel.2.1 70 = .ok (.imul, 1) := by decide +kernel
theorem d_Mo_cancel_71 : decode m_Mo_cancel.2.1 71 = .ok (.iload 4, 2) := by decide +kernel
theorem d_Mo_cancel_73 : decode m_Mo_cancel.2.1 73 = .ok (.iadd, 1) := by decide +kernel
theorem d_Mo_cancel_74 : decode m_Mo_cancel.2.1 74 = .ok (.istore 5, 2) := by decide +kernel
theorem d_Mo_cancel_76 : decode m_Mo_cancel.2.1 76 = .ok (.aload_n 0, 1) := by decide +kernel
theorem d_Mo_cancel_77 : decode m_Mo_cancel.2.1 77 = .ok (.getfield 38, 3) := by decide +kernel
theorem d_Mo_cancel_80 : decode m_Mo_cancel.2.1 80 = .ok (.iload 5, 2) := by decide +kernel
theorem d_Mo_cancel_82 : decode m_Mo_cancel.2.1 82 = .ok (.iaload, 1) := by decide +kernel
theorem d_Mo_cancel_83 : decode m_Mo_cancel.2.1 83 = .ok (.iconst 2, 1) := by decide +kernel
theorem d_Mo_cancel_84 : decode m_Mo_cancel.2.1 84 = .ok (.if_icmp .ne 38, 3) := by decide +kernel
theorem d_Mo_cancel_87 : decode m_Mo_cancel.2.1 87 = .ok (.aload_n 0, 1) := by decide +kernel
theorem d_Mo_cancel_88 : decode m_Mo_cancel.2.1 88 = .ok (.getfield 77, 3) := by decide +kernel
theorem d_Mo_cancel_91 : decode m_Mo_cancel.2.1 91 = .ok (.aload_n 0, 1) := by decide +kernel
theorem d_Mo_cancel_92 : decode m_Mo_cancel.2.1 92 = .ok (.getfield 53, 3) := by decide +kernel
theorem d_Mo_cancel_95 : decode m_Mo_cancel.2.1 95 = .ok (.iload 5, 2) := by decide +kernel
theorem d_Mo_cancel_97 : decode m_Mo_cancel.2.1 97 = .ok (.iaload, 1) := by decide +kernel
theorem d_Mo_cancel_98 : decode m_Mo_cancel.2.1 98 = .ok (.dup2, 1) := by decide +kernel
theorem d_Mo_cancel_99 : decode m_Mo_cancel.2.1 99 = .ok (.iaload, 1) := by decide +kernel
theorem d_Mo_cancel_100 : decode m_Mo_cancel.2.1 100 = .ok (.iconst 1, 1) := by decide +kernel
theorem d_Mo_cancel_101 : decode m_Mo_cancel.2.1 101 = .ok (.isub, 1) := by decide +kernel
theorem d_Mo_cancel_102 : decode m_Mo_cancel.2.1 102 = .ok (.iastore, 1) := by decide +kernel
theorem d_Mo_cancel_103 : decode m_Mo_cancel.2.1 103 = .ok (.aload_n 0, 1) := by decide +kernel
theorem d_Mo_cancel_104 : decode m_Mo_cancel.2.1 104 = .ok (.getfield 74, 3) := by decide +kernel
theorem d_Mo_cancel_107 : decode m_Mo_cancel.2.1 107 = .ok (.aload_n 0, 1) := by decide +kernel
theorem d_Mo_cancel_108 : decode m_Mo_cancel.2.1 108 = .ok (.getfield 53, 3) := by decide +kernel
theorem d_Mo_cancel_111 : decode m_Mo_cancel.2.1 111 = .ok (.iload 5, 2) := by decide +kernel
theorem d_Mo_cancel_113 : decode m_Mo_cancel.2.1 113 = .ok (.iaload, 1) := by decide +kernel
theorem d_Mo_cancel_114 : decode m_Mo_cancel.2.1 114 = .ok (.dup2, 1) := by decide +kernel
theorem d_Mo_cancel_115 : decode m_Mo_cancel.2.1 115 = .ok (.iaload, 1) := by decide +kernel
theorem d_Mo_cancel_116 : decode m_Mo_cancel.2.1 116 = .ok (.iconst 1, 1) := by decide +kernel
theorem d_Mo_cancel_117 : decode m_Mo_cancel.2.1 117 = .ok (.iadd, 1) := by decide +kernel
theorem d_Mo_cancel_118 : decode m_Mo_cancel.2.1 118 = .ok (.iastore, 1) := by decide +kernel
theorem d_Mo_cancel_119 : decode m_Mo_cancel.2.1 119 = .ok (.iinc 3 1, 3) := by decide +kernel
theorem d_Mo_cancel_122 : decode m_Mo_cancel.2.1 122 = .ok (.iinc 4 1, 3) := by decide +kernel
theorem d_Mo_cancel_125 : decode m_Mo_cancel.2.1 125 = .ok (.goto (-70), 3) := by decide +kernel
theorem d_Mo_cancel_128 : decode m_Mo_cancel.2.1 128 = .ok (.aload_n 0, 1) := by decide +kernel
theorem d_Mo_cancel_129 : decode m_Mo_cancel.2.1 129 = .ok (.getfield 23, 3) := by decide +kernel
theorem d_Mo_cancel_132 : decode m_Mo_cancel.2.1 132 = .ok (.iload_n 2, 1) := by decide +kernel
theorem d_Mo_cancel_133 : decode m_Mo_cancel.2.1 133 = .ok (.iconst 0, 1) := by decide +kernel
theorem d_Mo_cancel_134 : decode m_Mo_cancel.2.1 134 = .ok (.bastore, 1) := by decide +kernel
theorem d_Mo_cancel_135 : decode m_Mo_cancel.2.1 135 = .ok (.iload_n 3, 1) := by decide +kernel
theorem d_Mo_cancel_136 : decode m_Mo_cancel.2.1 136 = .ok (.ireturn, 1) := by decide +kernel
theorem d_Mo_nodes_0 : decode m_Mo_nodes.2.1 0 = .ok (.aload_n 0, 1) := by decide +kernel
theorem d_Mo_nodes_1 : decode m_Mo_nodes.2.1 1 = .ok (.iload_n 1, 1) := by decide +kernel
theorem d_Mo_nodes_2 : decode m_Mo_nodes.2.1 2 = .ok (.invokevirtual 166, 3) := by decide +kernel
theorem d_Mo_nodes_5 : decode m_Mo_nodes.2.1 5 = .ok (.istore_n 2, 1) := by decide +kernel
theorem d_Mo_nodes_6 : decode m_Mo_nodes.2.1 6 = .ok (.aload_n 0, 1) := by decide +kernel
theorem d_Mo_nodes_7 : decode m_Mo_nodes.2.1 7 = .ok (.iload_n 2, 1) := by decide +kernel
theorem d_Mo_nodes_8 : decode m_Mo_nodes.2.1 8 = .ok (.ifCond .ge 7, 3) := by decide +kernel
theorem d_Mo_nodes_11 : decode m_Mo_nodes.2.1 11 = .ok (.iconst 1, 1) := by decide +kernel
theorem d_Mo_nodes_12 : decode m_Mo_nodes.2.1 12 = .ok (.goto 17, 3) := by decide +kernel
theorem d_Mo_nodes_15 : decode m_Mo_nodes.2.1 15 = .ok (.aload_n 0, 1) := by decide +kernel
theorem d_Mo_nodes_16 : decode m_Mo_nodes.2.1 16 = .ok (.getfield 23, 3) := by decide +kernel
theorem d_Mo_nodes_19 : decode m_Mo_nodes.2.1 19 = .ok (.iload_n 2, 1) := by decide +kernel
theorem d_Mo_nodes_20 : decode m_Mo_nodes.2.1 20 = .ok (.baload, 1) := by decide +kernel
theorem d_Mo_nodes_21 : decode m_Mo_nodes.2.1 21 = .ok (.ifCond .eq 7, 3) := by decide +kernel
theorem d_Mo_nodes_24 : decode m_Mo_nodes.2.1 24 = .ok (.iconst 0, 1) := by decide +kernel
theorem d_Mo_nodes_25 : decode m_Mo_nodes.2.1 25 = .ok (.goto 4, 3) := by decide +kernel
theorem d_Mo_nodes_28 : decode m_Mo_nodes.2.1 28 = .ok (.iconst 2, 1) := by decide +kernel
theorem d_Mo_nodes_29 : decode m_Mo_nodes.2.1 29 = .ok (.putfield 140, 3) := by decide +kernel
theorem d_Mo_nodes_32 : decode m_Mo_nodes.2.1 32 = .ok (.aload_n 0, 1) := by decide +kernel
theorem d_Mo_nodes_33 : decode m_Mo_nodes.2.1 33 = .ok (.getfield 140, 3) := by decide +kernel
theorem d_Mo_nodes_36 : decode m_Mo_nodes.2.1 36 = .ok (.ifCond .le 7, 3) := by decide +kernel
theorem d_Mo_nodes_39 : decode m_Mo_nodes.2.1 39 = .ok (.iconst 0, 1) := by decide +kernel
theorem d_Mo_nodes_40 : decode m_Mo_nodes.2.1 40 = .ok (.goto 9, 3) := by decide +kernel
theorem d_Mo_nodes_43 : decode m_Mo_nodes.2.1 43 = .ok (.aload_n 0, 1) := by decide +kernel
theorem d_Mo_nodes_44 : decode m_Mo_nodes.2.1 44 = .ok (.getfield 35, 3) := by decide +kernel
theorem d_Mo_nodes_47 : decode m_Mo_nodes.2.1 47 = .ok (.iload_n 2, 1) := by decide +kernel
theorem d_Mo_nodes_48 : decode m_Mo_nodes.2.1 48 = .ok (.iaload, 1) := by decide +kernel
theorem d_Mo_nodes_49 : decode m_Mo_nodes.2.1 49 = .ok (.ireturn, 1) := by decide +kernel
theorem d_Mo_node_0 : decode m_Mo_node.2.1 0 = .ok (.aload_n 0, 1) := by decide +kernel
theorem d_Mo_node_1 : decode m_Mo_node.2.1 1 = .ok (.iload_n 1, 1) := by decide +kernel
theorem d_Mo_node_2 : decode m_Mo_node.2.1 2 = .ok (.invokevirtual 166, 3) := by decide +kernel
theorem d_Mo_node_5 : decode m_Mo_node.2.1 5 = .ok (.istore 4, 2) := by decide +kernel
theorem d_Mo_node_7 : decode m_Mo_node.2.1 7 = .ok (.aload_n 0, 1) := by decide +kernel
theorem d_Mo_node_8 : decode m_Mo_node.2.1 8 = .ok (.iload 4, 2) := by decide +kernel
theorem d_Mo_node_10 : decode m_Mo_node.2.1 10 = .ok (.ifCond .ge 7, 3) := by decide +kernel
theorem d_Mo_node_13 : decode m_Mo_node.2.1 13 = .ok (.iconst 1, 1) := by decide +kernel
theorem d_Mo_node_14 : decode m_Mo_node.2.1 14 = .ok (.goto 51, 3) := by decide +kernel
theorem d_Mo_node_17 : decode m_Mo_node.2.1 17 = .ok (.aload_n 0, 1) := by decide +kernel
theorem d_Mo_node_18 : decode m_Mo_node.2.1 18 = .ok (.getfield 23, 3) := by decide +kernel
theorem d_Mo_node_21 : decode m_Mo_node.2.1 21 = .ok (.iload 4, 2) := by decide +kernel
theorem d_Mo_node_23 : decode m_Mo_node.2.1 23 = .ok (.baload, 1) := by decide +kernel
theorem d_Mo_node_24 : decode m_Mo_node.2.1 24 = .ok (.ifCond .ne 7, 3) := by decide +kernel
theorem d_Mo_node_27 : decode m_Mo_node.2.1 27 = .ok (.iconst 2, 1) := by decide +kernel
theorem d_Mo_node_28 : decode m_Mo_node.2.1 28 = .ok (.goto 37, 3) := by decide +kernel
theorem d_Mo_node_31 : decode m_Mo_node.2.1 31 = .ok (.iload_n 2, 1) := by decide +kernel
theorem d_Mo_node_32 : decode m_Mo_node.2.1 32 = .ok (.ifCond .lt 14, 3) := by decide +kernel
theorem d_Mo_node_35 : decode m_Mo_node.2.1 35 = .ok (.iload_n 2, 1) := by decide +kernel
theorem d_Mo_node_36 : decode m_Mo_node.2.1 36 = .ok (.aload_n 0, 1) := by decide +kernel
theorem d_Mo_node_37 : decode m_Mo_node.2.1 37 = .ok (.getfield 35, 3) := by decide +kernel
theorem d_Mo_node_40 : decode m_Mo_node.2.1 40 = .ok (.iload 4, 2) := by decide +kernel
theorem d_Mo_node_42 : decode m_Mo_node.2.1 42 = .ok (.iaload, 1) := by decide +kernel
theorem d_Mo_node_43 : decode m_Mo_node.2.1 43 = .ok (.if_icmp .lt 7, 3) := by decide +kernel
theorem d_Mo_node_46 : decode m_Mo_node.2.1 46 = .ok (.iconst 3, 1) := by decide +kernel
theorem d_Mo_node_47 : decode m_Mo_node.2.1 47 = .ok (.goto 18, 3) := by decide +kernel
theorem d_Mo_node_50 : decode m_Mo_node.2.1 50 = .ok (.iload_n 3, 1) := by decide +kernel
theorem d_Mo_node_51 : decode m_Mo_node.2.1 51 = .ok (.ifCond .lt 9, 3) := by decide +kernel
theorem d_Mo_node_54 : decode m_Mo_node.2.1 54 = .ok (.iload_n 3, 1) := by decide +kernel
theorem d_Mo_node_55 : decode m_Mo_node.2.1 55 = .ok (.bipush 8, 2) := by decide +kernel
theorem d_Mo_node_57 : decode m_Mo_node.2.1 57 = .ok (.if_icmp .le 7, 3) := by decide +kernel
theorem d_Mo_node_60 : decode m_Mo_node.2.1 60 = .ok (.iconst 4, 1) := by decide +kernel
theorem d_Mo_node_61 : decode m_Mo_node.2.1 61 = .ok (.goto 4, 3) := by decide +kernel
theorem d_Mo_node_64 : decode m_Mo_node.2.1 64 = .ok (.iconst 0, 1) := by decide +kernel
theorem d_Mo_node_65 : decode m_Mo_node.2.1 65 = .ok (.putfield 140, 3) := by decide +kernel
theorem d_Mo_node_68 : decode m_Mo_node.2.1 68 = .ok (.aload_n 0, 1) := by decide +kernel
theorem d_Mo_node_69 : decode m_Mo_node.2.1 69 = .ok (.getfield 140, 3) := by decide +kernel
theorem d_Mo_node_72 : decode m_Mo_node.2.1 72 = .ok (.ifCond .le 5, 3) := by decide +kernel
theorem d_Mo_node_75 : decode m_Mo_node.2.1 75 = .ok (.iconst 0, 1) := by decide +kernel
theorem d_Mo_node_76 : decode m_Mo_node.2.1 76 = .ok (.ireturn, 1) := by decide +kernel
theorem d_Mo_node_77 : decode m_Mo_node.2.1 77 = .ok (.sipush 160, 3) := by decide +kernel
theorem d_Mo_node_80 : decode m_Mo_node.2.1 80 = .ok (.iload 4, 2) := by decide +kernel
theorem d_Mo_node_82 : decode m_Mo_node.2.1 82 = .ok (.imul, 1) := by decide +kernel
theorem d_Mo_node_83 : decode m_Mo_node.2.1 83 = .ok (.iload_n 2, 1) := by decide +kernel
theorem d_Mo_node_84 : decode m_Mo_node.2.1 84 = .ok (.iadd, 1) := by decide +kernel
theorem d_Mo_node_85 : decode m_Mo_node.2.1 85 = .ok (.istore 5, 2) := by decide +kernel
theorem d_Mo_node_87 : decode m_Mo_node.2.1 87 = .ok (.iload_n 3, 1) := by decide +kernel
theorem d_Mo_node_88 : decode m_Mo_node.2.1 88 = .ok (.tableswitch 112 0 7 #[48, 56, 64, 72, 80, 88, 96, 104], 48) := by decide +kernel
theorem d_Mo_node_136 : decode m_Mo_node.2.1 136 = .ok (.aload_n 0, 1) := by decide +kernel
theorem d_Mo_node_137 : decode m_Mo_node.2.1 137 = .ok (.getfield 38, 3) := by decide +kernel
theorem d_Mo_node_140 : decode m_Mo_node.2.1 140 = .ok (.iload 5, 2) := by decide +kernel
theorem d_Mo_node_142 : decode m_Mo_node.2.1 142 = .ok (.iaload, 1) := by decide +kernel
theorem d_Mo_node_143 : decode m_Mo_node.2.1 143 = .ok (.ireturn, 1) := by decide +kernel
theorem d_Mo_node_144 : decode m_Mo_node.2.1 144 = .ok (.aload_n 0, 1) := by decide +kernel
theorem d_Mo_node_145 : decode m_Mo_node.2.1 145 = .ok (.getfield 41, 3) := by decide +kernel
theorem d_Mo_node_148 : decode m_Mo_node.2.1 148 = .ok (.iload 5, 2) := by decide +kernel
theorem d_Mo_node_150 : decode m_Mo_node.2.1 150 = .ok (.iaload, 1) := by decide +kernel
theorem d_Mo_node_151 : decode m_Mo_node.2.1 151 = .ok (.ireturn, 1) := by decide +kernel
theorem d_Mo_node_152 : decode m_Mo_node.2.1 152 = .ok (.aload_n 0, 1) := by decide +kernel
theorem d_Mo_node_153 : decode m_Mo_node.2.1 153 = .ok (.getfield 44, 3) := by decide +kernel
theorem d_Mo_node_156 : decode m_Mo_node.2.1 156 = .ok (.iload 5, 2) := by decide +kernel
theorem d_Mo_node_158 : decode m_Mo_node.2.1 158 = .ok (.iaload, 1) := by decide +kernel
theorem d_Mo_node_159 : decode m_Mo_node.2.1 159 = .ok (.ireturn, 1) := by decide +kernel
theorem d_Mo_node_160 : decode m_Mo_node.2.1 160 = .ok (.aload_n 0, 1) := by decide +kernel
theorem d_Mo_node_161 : decode m_Mo_node.2.1 161 = .ok (.getfield 47, 3) := by decide +kernel
theorem d_Mo_node_164 : decode m_Mo_node.2.1 164 = .ok (.iload 5, 2) := by decide +kernel
theorem d_Mo_node_166 : decode m_Mo_node.2.1 166 = .ok (.iaload, 1) := by decide +kernel
theorem d_Mo_node_167 : decode m_Mo_node.2.1 167 = .ok (.ireturn, 1) := by decide +kernel
theorem d_Mo_node_168 : decode m_Mo_node.2.1 168 = .ok (.aload_n 0, 1) := by decide +kernel
theorem d_Mo_node_169 : decode m_Mo_node.2.1 169 = .ok (.getfield 50, 3) := by decide +kernel
theorem d_Mo_node_172 : decode m_Mo_node.2.1 172 = .ok (.iload 5, 2) := by decide +kernel
theorem d_Mo_node_174 : decode m_Mo_node.2.1 174 = .ok (.iaload, 1) := by decide +kernel
theorem d_Mo_node_175 : decode m_Mo_node.2.1 175 = .ok (.ireturn, 1) := by decide +kernel
theorem d_Mo_node_176 : decode m_Mo_node.2.1 176 = .ok (.aload_n 0, 1) := by decide +kernel
theorem d_Mo_node_177 : decode m_Mo_node.2.1 177 = .ok (.getfield 53, 3) := by decide +kernel
theorem d_Mo_node_180 : decode m_Mo_node.2.1 180 = .ok (.iload 5, 2) := by decide +kernel
theorem d_Mo_node_182 : decode m_Mo_node.2.1 182 = .ok (.iaload, 1) := by decide +kernel
theorem d_Mo_node_183 : decode m_Mo_node.2.1 183 = .ok (.ireturn, 1) := by decide +kernel
theorem d_Mo_node_184 : decode m_Mo_node.2.1 184 = .ok (.aload_n 0, 1) := by decide +kernel
theorem d_Mo_node_185 : decode m_Mo_node.2.1 185 = .ok (.getfield 56, 3) := by decide +kernel
theorem d_Mo_node_188 : decode m_Mo_node.2.1 188 = .ok (.iload 5, 2) := by decide +kernel
theorem d_Mo_node_190 : decode m_Mo_node.2.1 190 = .ok (.iaload, 1) := by decide +kernel
theorem d_Mo_node_191 : decode m_Mo_node.2.1 191 = .ok (.ireturn, 1) := by decide +kernel
theorem d_Mo_node_192 : decode m_Mo_node.2.1 192 = .ok (.aload_n 0, 1) := by decide +kernel
theorem d_Mo_node_193 : decode m_Mo_node.2.1 193 = .ok (.getfield 59, 3) := by decide +kernel
theorem d_Mo_node_196 : decode m_Mo_node.2.1 196 = .ok (.iload 5, 2) := by decide +kernel
theorem d_Mo_node_198 : decode m_Mo_node.2.1 198 = .ok (.iaload, 1) := by decide +kernel
theorem d_Mo_node_199 : decode m_Mo_node.2.1 199 = .ok (.ireturn, 1) := by decide +kernel
theorem d_Mo_node_200 : decode m_Mo_node.2.1 200 = .ok (.aload_n 0, 1) := by decide +kernel
theorem d_Mo_node_201 : decode m_Mo_node.2.1 201 = .ok (.getfield 62, 3) := by decide +kernel
theorem d_Mo_node_204 : decode m_Mo_node.2.1 204 = .ok (.iload 5, 2) := by decide +kernel
theorem d_Mo_node_206 : decode m_Mo_node.2.1 206 = .ok (.iaload, 1) := by decide +kernel
theorem d_Mo_node_207 : decode m_Mo_node.2.1 207 = .ok (.ireturn, 1) := by decide +kernel
theorem d_Mo_use_0 : decode m_Mo_use.2.1 0 = .ok (.aload_n 0, 1) := by decide +kernel
theorem d_Mo_use_1 : decode m_Mo_use.2.1 1 = .ok (.aload_n 0, 1) := by decide +kernel
theorem d_Mo_use_2 : decode m_Mo_use.2.1 2 = .ok (.iload_n 1, 1) := by decide +kernel
theorem d_Mo_use_3 : decode m_Mo_use.2.1 3 = .ok (.invokevirtual 285, 3) := by decide +kernel
theorem d_Mo_use_6 : decode m_Mo_use.2.1 6 = .ok (.ifCond .ne 7, 3) := by decide +kernel
theorem d_Mo_use_9 : decode m_Mo_use.2.1 9 = .ok (.iconst 1, 1) := by decide +kernel
theorem d_Mo_use_10 : decode m_Mo_use.2.1 10 = .ok (.goto 17, 3) := by decide +kernel
theorem d_Mo_use_13 : decode m_Mo_use.2.1 13 = .ok (.aload_n 0, 1) := by decide +kernel
theorem d_Mo_use_14 : decode m_Mo_use.2.1 14 = .ok (.invokevirtual 154, 3) := by decide +kernel
theorem d_Mo_use_17 : decode m_Mo_use.2.1 17 = .ok (.bipush 8, 2) := by decide +kernel
theorem d_Mo_use_19 : decode m_Mo_use.2.1 19 = .ok (.if_icmp .ne 7, 3) := by decide +kernel
theorem d_Mo_use_22 : decode m_Mo_use.2.1 22 = .ok (.iconst 2, 1) := by decide +kernel
theorem d_Mo_use_23 : decode m_Mo_use.2.1 23 = .ok (.goto 4, 3) := by decide +kernel
theorem d_Mo_use_26 : decode m_Mo_use.2.1 26 = .ok (.iconst 0, 1) := by decide +kernel
theorem d_Mo_use_27 : decode m_Mo_use.2.1 27 = .ok (.putfield 140, 3) := by decide +kernel
theorem d_Mo_use_30 : decode m_Mo_use.2.1 30 = .ok (.aload_n 0, 1) := by decide +kernel
theorem d_Mo_use_31 : decode m_Mo_use.2.1 31 = .ok (.getfield 140, 3) := by decide +kernel
theorem d_Mo_use_34 : decode m_Mo_use.2.1 34 = .ok (.ifCond .le 5, 3) := by decide +kernel
theorem d_Mo_use_37 : decode m_Mo_use.2.1 37 = .ok (.iconst 0, 1) := by decide +kernel
theorem d_Mo_use_38 : decode m_Mo_use.2.1 38 = .ok (.ireturn, 1) := by decide +kernel
theorem d_Mo_use_39 : decode m_Mo_use.2.1 39 = .ok (.aload_n 0, 1) := by decide +kernel
theorem d_Mo_use_40 : decode m_Mo_use.2.1 40 = .ok (.aload_n 0, 1) := by decide +kernel
theorem d_Mo_use_41 : decode m_Mo_use.2.1 41 = .ok (.getfield 83, 3) := by decide +kernel
theorem d_Mo_use_44 : decode m_Mo_use.2.1 44 = .ok (.iload_n 1, 1) := by decide +kernel
theorem d_Mo_use_45 : decode m_Mo_use.2.1 45 = .ok (.iaload, 1) := by decide +kernel
theorem d_Mo_use_46 : decode m_Mo_use.2.1 46 = .ok (.aload_n 0, 1) := by decide +kernel
theorem d_Mo_use_47 : decode m_Mo_use.2.1 47 = .ok (.getfield 86, 3) := by decide +kernel
theorem d_Mo_use_50 : decode m_Mo_use.2.1 50 = .ok (.iload_n 1, 1) := by decide +kernel
theorem d_Mo_use_51 : decode m_Mo_use.2.1 51 = .ok (.iaload, 1) := by decide +kernel
theorem d_Mo_use_52 : decode m_Mo_use.2.1 52 = .ok (.invokevirtual 162, 3) := by decide +kernel
theorem d_Mo_use_55 : decode m_Mo_use.2.1 55 = .ok (.istore_n 2, 1) := by decide +kernel
theorem d_Mo_use_56 : decode m_Mo_use.2.1 56 = .ok (.iconst 0, 1) := by decide +kernel
theorem d_Mo_use_57 : decode m_Mo_use.2.1 57 = .ok (.istore_n 3, 1) := by decide +kernel
theorem d_Mo_use_58 : decode m_Mo_use.2.1 58 = .ok (.iload_n 3, 1) := by decide +kernel
theorem d_Mo_use_59 : decode m_Mo_use.2.1 59 = .ok (.aload_n 0, 1) := by decide +kernel
theorem d_Mo_use_60 : decode m_Mo_use.2.1 60 = .ok (.getfield 89, 3) := by decide +kernel
theorem d_Mo_use_63 : decode m_Mo_use.2.1 63 = .ok (.iload_n 1, 1) := by decide +kernel
theorem d_Mo_use_64 : decode m_Mo_use.2.1 64 = .ok (.iaload, 1) := by decide +kernel
theorem d_Mo_use_65 : decode m_Mo_use.2.1 65 = .ok (.if_icmp .ge 58, 3) := by decide +kernel
theorem d_Mo_use_68 : decode m_Mo_use.2.1 68 = .ok (.bipush 24, 2) := by decide +kernel
theorem d_Mo_use_70 : decode m_Mo_use.2.1 70 = .ok (.iload_n 1, 1) := by decide +kernel
theorem d_Mo_use_71 : decode m_Mo_use.2.1 71 = .ok (.imul, 1) := by decide +kernel
theorem d_Mo_use_72 : decode m_Mo_use.2.1 72 = .ok (.iconst 4, 1) := by decide +kernel
theorem d_Mo_use_73 : decode m_Mo_use.2.1 73 = .ok (.iload_n 3, 1) := by decide +kernel
theorem d_Mo_use_74 : decode m_Mo_use.2.1 74 = .ok (.imul, 1) := by decide +kernel
theorem d_Mo_use_75 : decode m_Mo_use.2.1 75 = .ok (.iadd, 1) := by decide +kernel
theorem d_Mo_use_76 : decode m_Mo_use.2.1 76 = .ok (.istore 4, 2) := by decide +kernel
theorem d_Mo_use_78 : decode m_Mo_use.2.1 78 = .ok (.aload_n 0, 1) := by decide +kernel
theorem d_Mo_use_79 : decode m_Mo_use.2.1 79 = .ok (.iload_n 2, 1) := by decide +kernel
theorem d_Mo_use_80 : decode m_Mo_use.2.1 80 = .ok (.aload_n 0, 1) := by decide +kernel
theorem d_Mo_use_81 : decode m_Mo_use.2.1 81 = .ok (.getfield 92, 3) := by decide +kernel
theorem d_Mo_use_84 : decode m_Mo_use.2.1 84 = .ok (.iload 4, 2) := by decide +kernel
theorem d_Mo_use_86 : decode m_Mo_use.2.1 86 = .ok (.iaload, 1) := by decide +kernel
theorem d_Mo_use_87 : decode m_Mo_use.2.1 87 = .ok (.aload_n 0, 1) := by decide +kernel
theorem d_Mo_use_88 : decode m_Mo_use.2.1 88 = .ok (.getfield 92, 3) := by decide +kernel
theorem d_Mo_use_91 : decode m_Mo_use.2.1 91 = .ok (.iload 4, 2) := by decide +kernel
theorem d_Mo_use_93 : decode m_Mo_use.2.1 93 = .ok (.iconst 1, 1) := by decide +kernel
theorem d_Mo_use_94 : decode m_Mo_use.2.1 94 = .ok (.iadd, 1) := by decide +kernel
theorem d_Mo_use_95 : decode m_Mo_use.2.1 95 = .ok (.iaload, 1) := by decide +kernel
theorem d_Mo_use_96 : decode m_Mo_use.2.1 96 = .ok (.aload_n 0, 1) := by decide +kernel
theorem d_Mo_use_97 : decode m_Mo_use.2.1 97 = .ok (.getfield 92, 3) := by decide +kernel
theorem d_Mo_use_100 : decode m_Mo_use.2.1 100 = .ok (.iload 4, 2) := by decide +kernel
theorem d_Mo_use_102 : decode m_Mo_use.2.1 102 = .ok (.iconst 2, 1) := by decide +kernel
theorem d_Mo_use_103 : decode m_Mo_use.2.1 103 = .ok (.iadd, 1) := by decide +kernel
theorem d_Mo_use_104 : decode m_Mo_use.2.1 104 = .ok (.iaload, 1) := by decide +kernel
theorem d_Mo_use_105 : decode m_Mo_use.2.1 105 = .ok (.aload_n 0, 1) := by decide +kernel
theorem d_Mo_use_106 : decode m_Mo_use.2.1 106 = .ok (.getfield 92, 3) := by decide +kernel
theorem d_Mo_use_109 : decode m_Mo_use.2.1 109 = .ok (.iload 4, 2) := by decide +kernel
theorem d_Mo_use_111 : decode m_Mo_use.2.1 111 = .ok (.iconst 3, 1) := by decide +kernel
theorem d_Mo_use_112 : decode m_Mo_use.2.1 112 = .ok (.iadd, 1) := by decide +kernel
theorem d_Mo_use_113 : decode m_Mo_use.2.1 113 = .ok (.iaload, 1) := by decide +kernel
theorem d_Mo_use_114 : decode m_Mo_use.2.1 114 = .ok (.invokevirtual 170, 3) := by decide +kernel
theorem d_Mo_use_117 : decode m_Mo_use.2.1 117 = .ok (.iinc 3 1, 3) := by decide +kernel
theorem d_Mo_use_120 : decode m_Mo_use.2.1 120 = .ok (.goto (-62), 3) := by decide +kernel
theorem d_Mo_use_123 : decode m_Mo_use.2.1 123 = .ok (.aload_n 0, 1) := by decide +kernel
theorem d_Mo_use_124 : decode m_Mo_use.2.1 124 = .ok (.dup, 1) := by decide +kernel
theorem d_Mo_use_125 : decode m_Mo_use.2.1 125 = .ok (.getfield 263, 3) := by decide +kernel
theorem d_Mo_use_128 : decode m_Mo_use.2.1 128 = .ok (.iconst 1, 1) := by decide +kernel
theorem d_Mo_use_129 : decode m_Mo_use.2.1 129 = .ok (.isub, 1) := by decide +kernel
theorem d_Mo_use_130 : decode m_Mo_use.2.1 130 = .ok (.putfield 263, 3) := by decide +kernel
theorem d_Mo_use_133 : decode m_Mo_use.2.1 133 = .ok (.iload_n 1, 1) := by decide +kernel
theorem d_Mo_use_134 : decode m_Mo_use.2.1 134 = .ok (.istore_n 3, 1) := by decide +kernel
theorem d_Mo_use_135 : decode m_Mo_use.2.1 135 = .ok (.iload_n 3, 1) := by decide +kernel
theorem d_Mo_use_136 : decode m_Mo_use.2.1 136 = .ok (.aload_n 0, 1) := by decide +kernel
theorem d_Mo_use_137 : decode m_Mo_use.2.1 137 = .ok (.getfield 263, 3) := by decide +kernel
theorem d_Mo_use_140 : decode m_Mo_use.2.1 140 = .ok (.if_icmp .ge 17, 3) := by decide +kernel
theorem d_Mo_use_143 : decode m_Mo_use.2.1 143 = .ok (.aload_n 0, 1) := by decide +kernel
theorem d_Mo_use_144 : decode m_Mo_use.2.1 144 = .ok (.iload_n 3, 1) := by decide +kernel
theorem d_Mo_use_145 : decode m_Mo_use.2.1 145 = .ok (.iconst 1, 1) := by decide +kernel
theorem d_Mo_use_146 : decode m_Mo_use.2.1 146 = .ok (.iadd, 1) := by decide +kernel
theorem d_Mo_use_147 : decode m_Mo_use.2.1 147 = .ok (.iload_n 3, 1) := by decide +kernel
theorem d_Mo_use_148 : decode m_Mo_use.2.1 148 = .ok (.invokevirtual 288, 3) := by decide +kernel
theorem d_Mo_use_151 : decode m_Mo_use.2.1 151 = .ok (.iinc 3 1, 3) := by decide +kernel
theorem d_Mo_use_154 : decode m_Mo_use.2.1 154 = .ok (.goto (-19), 3) := by decide +kernel
theorem d_Mo_use_157 : decode m_Mo_use.2.1 157 = .ok (.aload_n 0, 1) := by decide +kernel
theorem d_Mo_use_158 : decode m_Mo_use.2.1 158 = .ok (.getfield 13, 3) := by decide +kernel
theorem d_Mo_use_161 : decode m_Mo_use.2.1 161 = .ok (.iload_n 2, 1) := by decide +kernel
theorem d_Mo_use_162 : decode m_Mo_use.2.1 162 = .ok (.iaload, 1) := by decide +kernel
theorem d_Mo_use_163 : decode m_Mo_use.2.1 163 = .ok (.ireturn, 1) := by decide +kernel
theorem d_Mo_isOffcut_0 : decode m_Mo_isOffcut.2.1 0 = .ok (.iload_n 1, 1) := by decide +kernel
theorem d_Mo_isOffcut_1 : decode m_Mo_isOffcut.2.1 1 = .ok (.ifCond .lt 15, 3) := by decide +kernel
theorem d_Mo_isOffcut_4 : decode m_Mo_isOffcut.2.1 4 = .ok (.iload_n 1, 1) := by decide +kernel
theorem d_Mo_isOffcut_5 : decode m_Mo_isOffcut.2.1 5 = .ok (.aload_n 0, 1) := by decide +kernel
theorem d_Mo_isOffcut_6 : decode m_Mo_isOffcut.2.1 6 = .ok (.getfield 263, 3) := by decide +kernel
theorem d_Mo_isOffcut_9 : decode m_Mo_isOffcut.2.1 9 = .ok (.if_icmp .ge 7, 3) := by decide +kernel
theorem d_Mo_isOffcut_12 : decode m_Mo_isOffcut.2.1 12 = .ok (.iconst 1, 1) := by decide +kernel
theorem d_Mo_isOffcut_13 : decode m_Mo_isOffcut.2.1 13 = .ok (.goto 4, 3) := by decide +kernel
theorem d_Mo_isOffcut_16 : decode m_Mo_isOffcut.2.1 16 = .ok (.iconst 0, 1) := by decide +kernel
theorem d_Mo_isOffcut_17 : decode m_Mo_isOffcut.2.1 17 = .ok (.ireturn, 1) := by decide +kernel
theorem d_Mo_moveOffcut_0 : decode m_Mo_moveOffcut.2.1 0 = .ok (.aload_n 0, 1) := by decide +kernel
theorem d_Mo_moveOffcut_1 : decode m_Mo_moveOffcut.2.1 1 = .ok (.getfield 83, 3) := by decide +kernel
theorem d_Mo_moveOffcut_4 : decode m_Mo_moveOffcut.2.1 4 = .ok (.iload_n 2, 1) := by decide +kernel
theorem d_Mo_moveOffcut_5 : decode m_Mo_moveOffcut.2.1 5 = .ok (.aload_n 0, 1) := by decide +kernel
theorem d_Mo_moveOffcut_6 : decode m_Mo_moveOffcut.2.1 6 = .ok (.getfield 83, 3) := by decide +kernel
theorem d_Mo_moveOffcut_9 : decode m_Mo_moveOffcut.2.1 9 = .ok (.iload_n 1, 1) := by decide +kernel
theorem d_Mo_moveOffcut_10 : decode m_Mo_moveOffcut.2.1 10 = .ok (.iaload, 1) := by decide +kernel
theorem d_Mo_moveOffcut_11 : decode m_Mo_moveOffcut.2.1 11 = .ok (.iastore, 1) := by decide +kernel
theorem d_Mo_moveOffcut_12 : decode m_Mo_moveOffcut.2.1 12 = .ok (.aload_n 0, 1) := by decide +kernel
theorem d_Mo_moveOffcut_13 : decode m_Mo_moveOffcut.2.1 13 = .ok (.getfield 86, 3) := by decide +kernel
theorem d_Mo_moveOffcut_16 : decode m_Mo_moveOffcut.2.1 16 = .ok (.iload_n 2, 1) := by decide +kernel
theorem d_Mo_moveOffcut_17 : decode m_Mo_moveOffcut.2.1 17 = .ok (.aload_n 0, 1) := by decide +kernel
theorem d_Mo_moveOffcut_18 : decode m_Mo_moveOffcut.2.1 18 = .ok (.getfield 86, 3) := by decide +kernel
theorem d_Mo_moveOffcut_21 : decode m_Mo_moveOffcut.2.1 21 = .ok (.iload_n 1, 1) := by decide +kernel
theorem d_Mo_moveOffcut_22 : decode m_Mo_moveOffcut.2.1 22 = .ok (.iaload, 1) := by decide +kernel
theorem d_Mo_moveOffcut_23 : decode m_Mo_moveOffcut.2.1 23 = .ok (.iastore, 1) := by decide +kernel
theorem d_Mo_moveOffcut_24 : decode m_Mo_moveOffcut.2.1 24 = .ok (.aload_n 0, 1) := by decide +kernel
theorem d_Mo_moveOffcut_25 : decode m_Mo_moveOffcut.2.1 25 = .ok (.getfield 89, 3) := by decide +kernel
theorem d_Mo_moveOffcut_28 : decode m_Mo_moveOffcut.2.1 28 = .ok (.iload_n 2, 1) := by decide +kernel
theorem d_Mo_moveOffcut_29 : decode m_Mo_moveOffcut.2.1 29 = .ok (.aload_n 0, 1) := by decide +kernel
theorem d_Mo_moveOffcut_30 : decode m_Mo_moveOffcut.2.1 30 = .ok (.getfield 89, 3) := by decide +kernel
theorem d_Mo_moveOffcut_33 : decode m_Mo_moveOffcut.2.1 33 = .ok (.iload_n 1, 1) := by decide +kernel
theorem d_Mo_moveOffcut_34 : decode m_Mo_moveOffcut.2.1 34 = .ok (.iaload, 1) := by decide +kernel
theorem d_Mo_moveOffcut_35 : decode m_Mo_moveOffcut.2.1 35 = .ok (.iastore, 1) := by decide +kernel
theorem d_Mo_moveOffcut_36 : decode m_Mo_moveOffcut.2.1 36 = .ok (.iconst 0, 1) := by decide +kernel
theorem d_Mo_moveOffcut_37 : decode m_Mo_moveOffcut.2.1 37 = .ok (.istore_n 3, 1) := by decide +kernel
theorem d_Mo_moveOffcut_38 : decode m_Mo_moveOffcut.2.1 38 = .ok (.iload_n 3, 1) := by decide +kernel
theorem d_Mo_moveOffcut_39 : decode m_Mo_moveOffcut.2.1 39 = .ok (.bipush 24, 2) := by decide +kernel
theorem d_Mo_moveOffcut_41 : decode m_Mo_moveOffcut.2.1 41 = .ok (.if_icmp .ge 31, 3) := by decide +kernel
theorem d_Mo_moveOffcut_44 : decode m_Mo_moveOffcut.2.1 44 = .ok (.aload_n 0, 1) := by decide +kernel
theorem d_Mo_moveOffcut_45 : decode m_Mo_moveOffcut.2.1 45 = .ok (.getfield 92, 3) := by decide +kernel
theorem d_Mo_moveOffcut_48 : decode m_Mo_moveOffcut.2.1 48 = .ok (.bipush 24, 2) := by decide +kernel
theorem d_Mo_moveOffcut_50 : decode m_Mo_moveOffcut.2.1 50 = .ok (.iload_n 2, 1) := by decide +kernel
theorem d_Mo_moveOffcut_51 : decode m_Mo_moveOffcut.2.1 51 = .ok (.imul, 1) := by decide +kernel
theorem d_Mo_moveOffcut_52 : decode m_Mo_moveOffcut.2.1 52 = .ok (.iload_n 3, 1) := by decide +kernel
theorem d_Mo_moveOffcut_53 : decode m_Mo_moveOffcut.2.1 53 = .ok (.iadd, 1) := by decide +kernel
theorem d_Mo_moveOffcut_54 : decode m_Mo_moveOffcut.2.1 54 = .ok (.aload_n 0, 1) := by decide +kernel
theorem d_Mo_moveOffcut_55 : decode m_Mo_moveOffcut.2.1 55 = .ok (.getfield 92, 3) := by decide +kernel
theorem d_Mo_moveOffcut_58 : decode m_Mo_moveOffcut.2.1 58 = .ok (.bipush 24, 2) := by decide +kernel
theorem d_Mo_moveOffcut_60 : decode m_Mo_moveOffcut.2.1 60 = .ok (.iload_n 1, 1) := by decide +kernel
theorem d_Mo_moveOffcut_61 : decode m_Mo_moveOffcut.2.1 61 = .ok (.imul, 1) := by decide +kernel
theorem d_Mo_moveOffcut_62 : decode m_Mo_moveOffcut.2.1 62 = .ok (.iload_n 3, 1) := by decide +kernel
theorem d_Mo_moveOffcut_63 : decode m_Mo_moveOffcut.2.1 63 = .ok (.iadd, 1) := by decide +kernel
theorem d_Mo_moveOffcut_64 : decode m_Mo_moveOffcut.2.1 64 = .ok (.iaload, 1) := by decide +kernel
theorem d_Mo_moveOffcut_65 : decode m_Mo_moveOffcut.2.1 65 = .ok (.iastore, 1) := by decide +kernel
theorem d_Mo_moveOffcut_66 : decode m_Mo_moveOffcut.2.1 66 = .ok (.iinc 3 1, 3) := by decide +kernel
theorem d_Mo_moveOffcut_69 : decode m_Mo_moveOffcut.2.1 69 = .ok (.goto (-31), 3) := by decide +kernel
theorem d_Mo_moveOffcut_72 : decode m_Mo_moveOffcut.2.1 72 = .ok (.return_, 1) := by decide +kernel
theorem d_Mo_rack_0 : decode m_Mo_rack.2.1 0 = .ok (.aload_n 0, 1) := by decide +kernel
theorem d_Mo_rack_1 : decode m_Mo_rack.2.1 1 = .ok (.aload_n 0, 1) := by decide +kernel
theorem d_Mo_rack_2 : decode m_Mo_rack.2.1 2 = .ok (.iload_n 1, 1) := by decide +kernel
theorem d_Mo_rack_3 : decode m_Mo_rack.2.1 3 = .ok (.invokevirtual 285, 3) := by decide +kernel
theorem d_Mo_rack_6 : decode m_Mo_rack.2.1 6 = .ok (.ifCond .ne 7, 3) := by decide +kernel
theorem d_Mo_rack_9 : decode m_Mo_rack.2.1 9 = .ok (.iconst 1, 1) := by decide +kernel
theorem d_Mo_rack_10 : decode m_Mo_rack.2.1 10 = .ok (.goto 17, 3) := by decide +kernel
theorem d_Mo_rack_13 : decode m_Mo_rack.2.1 13 = .ok (.iload_n 2, 1) := by decide +kernel
theorem d_Mo_rack_14 : decode m_Mo_rack.2.1 14 = .ok (.ifCond .lt 8, 3) := by decide +kernel
theorem d_Mo_rack_17 : decode m_Mo_rack.2.1 17 = .ok (.iload_n 2, 1) := by decide +kernel
theorem d_Mo_rack_18 : decode m_Mo_rack.2.1 18 = .ok (.iconst 2, 1) := by decide +kernel
theorem d_Mo_rack_19 : decode m_Mo_rack.2.1 19 = .ok (.if_icmp .le 7, 3) := by decide +kernel
theorem d_Mo_rack_22 : decode m_Mo_rack.2.1 22 = .ok (.iconst 2, 1) := by decide +kernel
theorem d_Mo_rack_23 : decode m_Mo_rack.2.1 23 = .ok (.goto 4, 3) := by decide +kernel
theorem d_Mo_rack_26 : decode m_Mo_rack.2.1 26 = .ok (.iconst 0, 1) := by decide +kernel
theorem d_Mo_rack_27 : decode m_Mo_rack.2.1 27 = .ok (.putfield 140, 3) := by decide +kernel
theorem d_Mo_rack_30 : decode m_Mo_rack.2.1 30 = .ok (.aload_n 0, 1) := by decide +kernel
theorem d_Mo_rack_31 : decode m_Mo_rack.2.1 31 = .ok (.getfield 140, 3) := by decide +kernel
theorem d_Mo_rack_34 : decode m_Mo_rack.2.1 34 = .ok (.ifCond .le 5, 3) := by decide +kernel
theorem d_Mo_rack_37 : decode m_Mo_rack.2.1 37 = .ok (.iconst 0, 1) := by decide +kernel
theorem d_Mo_rack_38 : decode m_Mo_rack.2.1 38 = .ok (.ireturn, 1) := by decide +kernel
theorem d_Mo_rack_39 : decode m_Mo_rack.2.1 39 = .ok (.iload_n 2, 1) := by decide +kernel
theorem d_Mo_rack_40 : decode m_Mo_rack.2.1 40 = .ok (.ifCond .ne 12, 3) := by decide +kernel
theorem d_Mo_rack_43 : decode m_Mo_rack.2.1 43 = .ok (.aload_n 0, 1) := by decide +kernel
theorem d_Mo_rack_44 : decode m_Mo_rack.2.1 44 = .ok (.getfield 83, 3) := by decide +kernel
theorem d_Mo_rack_47 : decode m_Mo_rack.2.1 47 = .ok (.iload_n 1, 1) := by decide +kernel
theorem d_Mo_rack_48 : decode m_Mo_rack.2.1 48 = .ok (.iaload, 1) := by decide +kernel
theorem d_Mo_rack_49 : decode m_Mo_rack.2.1 49 = .ok (.goto 23, 3) := by decide +kernel
theorem d_Mo_rack_52 : decode m_Mo_rack.2.1 52 = .ok (.iload_n 2, 1) := by decide +kernel
theorem d_Mo_rack_53 : decode m_Mo_rack.2.1 53 = .ok (.iconst 1, 1) := by decide +kernel
theorem d_Mo_rack_54 : decode m_Mo_rack.2.1 54 = .ok (.if_icmp .ne 12, 3) := by decide +kernel
theorem d_Mo_rack_57 : decode m_Mo_rack.2.1 57 = .ok (.aload_n 0, 1) := by decide +kernel
theorem d_Mo_rack_58 : decode m_Mo_rack.2.1 58 = .ok (.getfield 86, 3) := by decide +kernel
theorem d_Mo_rack_61 : decode m_Mo_rack.2.1 61 = .ok (.iload_n 1, 1) := by decide +kernel
theorem d_Mo_rack_62 : decode m_Mo_rack.2.1 62 = .ok (.iaload, 1) := by decide +kernel
theorem d_Mo_rack_63 : decode m_Mo_rack.2.1 63 = .ok (.goto 9, 3) := by decide +kernel
theorem d_Mo_rack_66 : decode m_Mo_rack.2.1 66 = .ok (.aload_n 0, 1) := by decide +kernel
theorem d_Mo_rack_67 : decode m_Mo_rack.2.1 67 = .ok (.getfield 89, 3) := by decide +kernel
theorem d_Mo_rack_70 : decode m_Mo_rack.2.1 70 = .ok (.iload_n 1, 1) := by decide +kernel
theorem d_Mo_rack_71 : decode m_Mo_rack.2.1 71 = .ok (.iaload, 1) := by decide +kernel
theorem d_Mo_rack_72 : decode m_Mo_rack.2.1 72 = .ok (.ireturn, 1) := by decide +kernel
theorem d_Mo_fit_0 : decode m_Mo_fit.2.1 0 = .ok (.aload_n 0, 1) := by decide +kernel
theorem d_Mo_fit_1 : decode m_Mo_fit.2.1 1 = .ok (.iconst 0, 1) := by decide +kernel
theorem d_Mo_fit_2 : decode m_Mo_fit.2.1 2 = .ok (.putfield 140, 3) := by decide +kernel
theorem d_Mo_fit_5 : decode m_Mo_fit.2.1 5 = .ok (.iconst (-1), 1) := by decide +kernel
theorem d_Mo_fit_6 : decode m_Mo_fit.2.1 6 = .ok (.istore_n 3, 1) := by decide +kernel
theorem d_Mo_fit_7 : decode m_Mo_fit.2.1 7 = .ok (.aload_n 0, 1) := by decide +kernel
theorem d_Mo_fit_8 : decode m_Mo_fit.2.1 8 = .ok (.getfield 263, 3) := by decide +kernel
theorem d_Mo_fit_11 : decode m_Mo_fit.2.1 11 = .ok (.iconst 1, 1) := by decide +kernel
theorem d_Mo_fit_12 : decode m_Mo_fit.2.1 12 = .ok (.isub, 1) := by decide +kernel
theorem d_Mo_fit_13 : decode m_Mo_fit.2.1 13 = .ok (.istore 4, 2) := by decide +kernel
theorem d_Mo_fit_15 : decode m_Mo_fit.2.1 15 = .ok (.iload 4, 2) := by decide +kernel
theorem d_Mo_fit_17 : decode m_Mo_fit.2.1 17 = .ok (.ifCond .lt 137, 3) := by decide +kernel
theorem d_Mo_fit_20 : decode m_Mo_fit.2.1 20 = .ok (.aload_n 0, 1) := by decide +kernel
theorem d_Mo_fit_21 : decode m_Mo_fit.2.1 21 = .ok (.getfield 83, 3) := by decide +kernel
theorem d_Mo_fit_24 : decode m_Mo_fit.2.1 24 = .ok (.iload 4, 2) := by decide +kernel
theorem d_Mo_fit_26 : decode m_Mo_fit.2.1 26 = .ok (.iaload, 1) := by decide +kernel
theorem d_Mo_fit_27 : decode m_Mo_fit.2.1 27 = .ok (.iload_n 1, 1) := by decide +kernel
theorem d_Mo_fit_28 : decode m_Mo_fit.2.1 28 = .ok (.if_icmp .lt 14, 3) := by decide +kernel
theorem d_Mo_fit_31 : decode m_Mo_fit.2.1 31 = .ok (.aload_n 0, 1) := by decide +kernel
theorem d_Mo_fit_32 : decode m_Mo_fit.2.1 32 = .ok (.getfield 86, 3) := by decide +kernel
theorem d_Mo_fit_35 : decode m_Mo_fit.2.1 35 = .ok (.iload 4, 2) := by decide +kernel
theorem d_Mo_fit_37 : decode m_Mo_fit.2.1 37 = .ok (.iaload, 1) := by decide +kernel
theorem d_Mo_fit_38 : decode m_Mo_fit.2.1 38 = .ok (.iload_n 2, 1) := by decide +kernel
theorem d_Mo_fit_39 : decode m_Mo_fit.2.1 39 = .ok (.if_icmp .ge 25, 3) := by decide +kernel
theorem d_Mo_fit_42 : decode m_Mo_fit.2.1 42 = .ok (.aload_n 0, 1) := by decide +kernel
theorem d_Mo_fit_43 : decode m_Mo_fit.2.1 43 = .ok (.getfield 83, 3) := by decide +kernel
theorem d_Mo_fit_46 : decode m_Mo_fit.2.1 46 = .ok (.iload 4, 2) := by decide +kernel
theorem d_Mo_fit_48 : decode m_Mo_fit.2.1 48 = .ok (.iaload, 1) := by decide +kernel
theorem d_Mo_fit_49 : decode m_Mo_fit.2.1 49 = .ok (.iload_n 2, 1) := by decide +kernel
theorem d_Mo_fit_50 : decode m_Mo_fit.2.1 50 = .ok (.if_icmp .lt 18, 3) := by decide +kernel
theorem d_Mo_fit_53 : decode m_Mo_fit.2.1 53 = .ok (.aload_n 0, 1) := by decide +kernel
theorem d_Mo_fit_54 : decode m_Mo_fit.2.1 54 = .ok (.getfield 86, 3) := by decide +kernel
theorem d_Mo_fit_57 : decode m_Mo_fit.2.1 57 = .ok (.iload 4, 2) := by decide +kernel
theorem d_Mo_fit_59 : decode m_Mo_fit.2.1 59 = .ok (.iaload, 1) := by decide +kernel
theorem d_Mo_fit_60 : decode m_Mo_fit.2.1 60 = .ok (.iload_n 1, 1) := by decide +kernel
theorem d_Mo_fit_61 : decode m_Mo_fit.2.1 61 = .ok (.if_icmp .lt 7, 3) := by decide +kernel
theorem d_Mo_fit_64 : decode m_Mo_fit.2.1 64 = .ok (.iconst 1, 1) := by decide +kernel
theorem d_Mo_fit_65 : decode m_Mo_fit.2.1 65 = .ok (.goto 4, 3) := by decide +kernel
theorem d_Mo_fit_68 : decode m_Mo_fit.2.1 68 = .ok (.iconst 0, 1) := by decide +kernel
