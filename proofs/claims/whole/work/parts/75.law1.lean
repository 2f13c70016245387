theorem d_Law_law_0 : decode code 0 = .ok (.new 7, 3) := by decide +kernel
theorem d_Law_law_3 : decode code 3 = .ok (.dup, 1) := by decide +kernel
theorem d_Law_law_4 : decode code 4 = .ok (.invokespecial 9, 3) := by decide +kernel
theorem d_Law_law_7 : decode code 7 = .ok (.astore_n 1, 1) := by decide +kernel
theorem d_Law_law_8 : decode code 8 = .ok (.new 10, 3) := by decide +kernel
theorem d_Law_law_11 : decode code 11 = .ok (.dup, 1) := by decide +kernel
theorem d_Law_law_12 : decode code 12 = .ok (.invokespecial 12, 3) := by decide +kernel
theorem d_Law_law_15 : decode code 15 = .ok (.astore_n 2, 1) := by decide +kernel
theorem d_Law_law_16 : decode code 16 = .ok (.iconst 0, 1) := by decide +kernel
theorem d_Law_law_17 : decode code 17 = .ok (.istore_n 3, 1) := by decide +kernel
theorem d_Law_law_18 : decode code 18 = .ok (.iload_n 3, 1) := by decide +kernel
theorem d_Law_law_19 : decode code 19 = .ok (.aload_n 0, 1) := by decide +kernel
theorem d_Law_law_20 : decode code 20 = .ok (.arraylength, 1) := by decide +kernel
theorem d_Law_law_21 : decode code 21 = .ok (.bipush 6, 2) := by decide +kernel
theorem d_Law_law_23 : decode code 23 = .ok (.isub, 1) := by decide +kernel
theorem d_Law_law_24 : decode code 24 = .ok (.if_icmp .gt 320, 3) := by decide +kernel
theorem d_Law_law_27 : decode code 27 = .ok (.aload_n 0, 1) := by decide +kernel
theorem d_Law_law_28 : decode code 28 = .ok (.iload_n 3, 1) := by decide +kernel
theorem d_Law_law_29 : decode code 29 = .ok (.iaload, 1) := by decide +kernel
theorem d_Law_law_30 : decode code 30 = .ok (.bipush 15, 2) := by decide +kernel
theorem d_Law_law_32 : decode code 32 = .ok (.iand, 1) := by decide +kernel
theorem d_Law_law_33 : decode code 33 = .ok (.tableswitch 305 0 9 #[55, 118, 141, 154, 177, 200, 213, 226, 249, 282], 55) := by decide +kernel
theorem d_Law_law_88 : decode code 88 = .ok (.aload_n 1, 1) := by decide +kernel
theorem d_Law_law_89 : decode code 89 = .ok (.aload_n 0, 1) := by decide +kernel
theorem d_Law_law_90 : decode code 90 = .ok (.iload_n 3, 1) := by decide +kernel
theorem d_Law_law_91 : decode code 91 = .ok (.iconst 1, 1) := by decide +kernel
theorem d_Law_law_92 : decode code 92 = .ok (.iadd, 1) := by decide +kernel
theorem d_Law_law_93 : decode code 93 = .ok (.iaload, 1) := by decide +kernel
theorem d_Law_law_94 : decode code 94 = .ok (.aload_n 0, 1) := by decide +kernel
theorem d_Law_law_95 : decode code 95 = .ok (.iload_n 3, 1) := by decide +kernel
theorem d_Law_law_96 : decode code 96 = .ok (.iconst 2, 1) := by decide +kernel
theorem d_Law_law_97 : decode code 97 = .ok (.iadd, 1) := by decide +kernel
theorem d_Law_law_98 : decode code 98 = .ok (.iaload, 1) := by decide +kernel
theorem d_Law_law_99 : decode code 99 = .ok (.aload_n 0, 1) := by decide +kernel
theorem d_Law_law_100 : decode code 100 = .ok (.iload_n 3, 1) := by decide +kernel
theorem d_Law_law_101 : decode code 101 = .ok (.iconst 3, 1) := by decide +kernel
theorem d_Law_law_102 : decode code 102 = .ok (.iadd, 1) := by decide +kernel
theorem d_Law_law_103 : decode code 103 = .ok (.iaload, 1) := by decide +kernel
theorem d_Law_law_104 : decode code 104 = .ok (.aload_n 0, 1) := by decide +kernel
theorem d_Law_law_105 : decode code 105 = .ok (.iload_n 3, 1) := by decide +kernel
theorem d_Law_law_106 : decode code 106 = .ok (.iconst 4, 1) := by decide +kernel
theorem d_Law_law_107 : decode code 107 = .ok (.iadd, 1) := by decide +kernel
theorem d_Law_law_108 : decode code 108 = .ok (.iaload, 1) := by decide +kernel
theorem d_Law_law_109 : decode code 109 = .ok (.aload_n 0, 1) := by decide +kernel
theorem d_Law_law_110 : decode code 110 = .ok (.iload_n 3, 1) := by decide +kernel
theorem d_Law_law_111 : decode code 111 = .ok (.iconst 5, 1) := by decide +kernel
theorem d_Law_law_112 : decode code 112 = .ok (.iadd, 1) := by decide +kernel
theorem d_Law_law_113 : decode code 113 = .ok (.iaload, 1) := by decide +kernel
theorem d_Law_law_114 : decode code 114 = .ok (.invokevirtual 13, 3) := by decide +kernel
theorem d_Law_law_117 : decode code 117 = .ok (.aload_n 2, 1) := by decide +kernel
theorem d_Law_law_118 : decode code 118 = .ok (.aload_n 0, 1) := by decide +kernel
theorem d_Law_law_119 : decode code 119 = .ok (.iload_n 3, 1) := by decide +kernel
theorem d_Law_law_120 : decode code 120 = .ok (.iconst 1, 1) := by decide +kernel
theorem d_Law_law_121 : decode code 121 = .ok (.iadd, 1) := by decide +kernel
theorem d_Law_law_122 : decode code 122 = .ok (.iaload, 1) := by decide +kernel
theorem d_Law_law_123 : decode code 123 = .ok (.aload_n 0, 1) := by decide +kernel
theorem d_Law_law_124 : decode code 124 = .ok (.iload_n 3, 1) := by decide +kernel
theorem d_Law_law_125 : decode code 125 = .ok (.iconst 2, 1) := by decide +kernel
theorem d_Law_law_126 : decode code 126 = .ok (.iadd, 1) := by decide +kernel
theorem d_Law_law_127 : decode code 127 = .ok (.iaload, 1) := by decide +kernel
theorem d_Law_law_128 : decode code 128 = .ok (.aload_n 0, 1) := by decide +kernel
theorem d_Law_law_129 : decode code 129 = .ok (.iload_n 3, 1) := by decide +kernel
theorem d_Law_law_130 : decode code 130 = .ok (.iconst 3, 1) := by decide +kernel
theorem d_Law_law_131 : decode code 131 = .ok (.iadd, 1) := by decide +kernel
theorem d_Law_law_132 : decode code 132 = .ok (.iaload, 1) := by decide +kernel
theorem d_Law_law_133 : decode code 133 = .ok (.aload_n 0, 1) := by decide +kernel
theorem d_Law_law_134 : decode code 134 = .ok (.iload_n 3, 1) := by decide +kernel
theorem d_Law_law_135 : decode code 135 = .ok (.iconst 4, 1) := by decide +kernel
theorem d_Law_law_136 : decode code 136 = .ok (.iadd, 1) := by decide +kernel
theorem d_Law_law_137 : decode code 137 = .ok (.iaload, 1) := by decide +kernel
theorem d_Law_law_138 : decode code 138 = .ok (.aload_n 0, 1) := by decide +kernel
theorem d_Law_law_139 : decode code 139 = .ok (.iload_n 3, 1) := by decide +kernel
theorem d_Law_law_140 : decode code 140 = .ok (.iconst 5, 1) := by decide +kernel
theorem d_Law_law_141 : decode code 141 = .ok (.iadd, 1) := by decide +kernel
theorem d_Law_law_142 : decode code 142 = .ok (.iaload, 1) := by decide +kernel
theorem d_Law_law_143 : decode code 143 = .ok (.invokevirtual 17, 3) := by decide +kernel
theorem d_Law_law_146 : decode code 146 = .ok (.if_icmp .eq 192, 3) := by decide +kernel
theorem d_Law_law_149 : decode code 149 = .ok (.iconst 0, 1) := by decide +kernel
theorem d_Law_law_150 : decode code 150 = .ok (.ireturn, 1) := by decide +kernel
theorem d_Law_law_151 : decode code 151 = .ok (.aload_n 1, 1) := by decide +kernel
theorem d_Law_law_152 : decode code 152 = .ok (.aload_n 0, 1) := by decide +kernel
theorem d_Law_law_153 : decode code 153 = .ok (.iload_n 3, 1) := by decide +kernel
theorem d_Law_law_154 : decode code 154 = .ok (.iconst 1, 1) := by decide +kernel
theorem d_Law_law_155 : decode code 155 = .ok (.iadd, 1) := by decide +kernel
theorem d_Law_law_156 : decode code 156 = .ok (.iaload, 1) := by decide +kernel
theorem d_Law_law_157 : decode code 157 = .ok (.invokevirtual 18, 3) := by decide +kernel
theorem d_Law_law_160 : decode code 160 = .ok (.aload_n 2, 1) := by decide +kernel
theorem d_Law_law_161 : decode code 161 = .ok (.aload_n 0, 1) := by decide +kernel
theorem d_Law_law_162 : decode code 162 = .ok (.iload_n 3, 1) := by decide +kernel
theorem d_Law_law_163 : decode code 163 = .ok (.iconst 1, 1) := by decide +kernel
theorem d_Law_law_164 : decode code 164 = .ok (.iadd, 1) := by decide +kernel
theorem d_Law_law_165 : decode code 165 = .ok (.iaload, 1) := by decide +kernel
theorem d_Law_law_166 : decode code 166 = .ok (.invokevirtual 22, 3) := by decide +kernel
theorem d_Law_law_169 : decode code 169 = .ok (.if_icmp .eq 169, 3) := by decide +kernel
theorem d_Law_law_172 : decode code 172 = .ok (.iconst 0, 1) := by decide +kernel
theorem d_Law_law_173 : decode code 173 = .ok (.ireturn, 1) := by decide +kernel
theorem d_Law_law_174 : decode code 174 = .ok (.aload_n 1, 1) := by decide +kernel
theorem d_Law_law_175 : decode code 175 = .ok (.invokevirtual 23, 3) := by decide +kernel
theorem d_Law_law_178 : decode code 178 = .ok (.aload_n 2, 1) := by decide +kernel
theorem d_Law_law_179 : decode code 179 = .ok (.invokevirtual 27, 3) := by decide +kernel
theorem d_Law_law_182 : decode code 182 = .ok (.if_icmp .eq 156, 3) := by decide +kernel
theorem d_Law_law_185 : decode code 185 = .ok (.iconst 0, 1) := by decide +kernel
theorem d_Law_law_186 : decode code 186 = .ok (.ireturn, 1) := by decide +kernel
theorem d_Law_law_187 : decode code 187 = .ok (.aload_n 1, 1) := by decide +kernel
theorem d_Law_law_188 : decode code 188 = .ok (.aload_n 0, 1) := by decide +kernel
theorem d_Law_law_189 : decode code 189 = .ok (.iload_n 3, 1) := by decide +kernel
theorem d_Law_law_190 : decode code 190 = .ok (.iconst 1, 1) := by decide +kernel
theorem d_Law_law_191 : decode code 191 = .ok (.iadd, 1) := by decide +kernel
theorem d_Law_law_192 : decode code 192 = .ok (.iaload, 1) := by decide +kernel
theorem d_Law_law_193 : decode code 193 = .ok (.invokevirtual 28, 3) := by decide +kernel
theorem d_Law_law_196 : decode code 196 = .ok (.aload_n 2, 1) := by decide +kernel
theorem d_Law_law_197 : decode code 197 = .ok (.aload_n 0, 1) := by decide +kernel
theorem d_Law_law_198 : decode code 198 = .ok (.iload_n 3, 1) := by decide +kernel
theorem d_Law_law_199 : decode code 199 = .ok (.iconst 1, 1) := by decide +kernel
theorem d_Law_law_200 : decode code 200 = .ok (.iadd, 1) := by decide +kernel
theorem d_Law_law_201 : decode code 201 = .ok (.iaload, 1) := by decide +kernel
theorem d_Law_law_202 : decode code 202 = .ok (.invokevirtual 31, 3) := by decide +kernel
theorem d_Law_law_205 : decode code 205 = .ok (.if_icmp .eq 133, 3) := by decide +kernel
theorem d_Law_law_208 : decode code 208 = .ok (.iconst 0, 1) := by decide +kernel
theorem d_Law_law_209 : decode code 209 = .ok (.ireturn, 1) := by decide +kernel
theorem d_Law_law_210 : decode code 210 = .ok (.aload_n 1, 1) := by decide +kernel
theorem d_Law_law_211 : decode code 211 = .ok (.aload_n 0, 1) := by decide +kernel
theorem d_Law_law_212 : decode code 212 = .ok (.iload_n 3, 1) := by decide +kernel
theorem d_Law_law_213 : decode code 213 = .ok (.iconst 1, 1) := by decide +kernel
theorem d_Law_law_214 : decode code 214 = .ok (.iadd, 1) := by decide +kernel
theorem d_Law_law_215 : decode code 215 = .ok (.iaload, 1) := by decide +kernel
theorem d_Law_law_216 : decode code 216 = .ok (.invokevirtual 32, 3) := by decide +kernel
theorem d_Law_law_219 : decode code 219 = .ok (.aload_n 2, 1) := by decide +kernel
theorem d_Law_law_220 : decode code 220 = .ok (.aload_n 0, 1) := by decide +kernel
theorem d_Law_law_221 : decode code 221 = .ok (.iload_n 3, 1) := by decide +kernel
theorem d_Law_law_222 : decode code 222 = .ok (.iconst 1, 1) := by decide +kernel
theorem d_Law_law_223 : decode code 223 = .ok (.iadd, 1) := by decide +kernel
theorem d_Law_law_224 : decode code 224 = .ok (.iaload, 1) := by decide +kernel
theorem d_Law_law_225 : decode code 225 = .ok (.invokevirtual 35, 3) := by decide +kernel
theorem d_Law_law_228 : decode code 228 = .ok (.if_icmp .eq 110, 3) := by decide +kernel
theorem d_Law_law_231 : decode code 231 = .ok (.iconst 0, 1) := by decide +kernel
theorem d_Law_law_232 : decode code 232 = .ok (.ireturn, 1) := by decide +kernel
theorem d_Law_law_233 : decode code 233 = .ok (.aload_n 1, 1) := by decide +kernel
theorem d_Law_law_234 : decode code 234 = .ok (.invokevirtual 36, 3) := by decide +kernel
theorem d_Law_law_237 : decode code 237 = .ok (.aload_n 2, 1) := by decide +kernel
theorem d_Law_law_238 : decode code 238 = .ok (.invokevirtual 39, 3) := by decide +kernel
theorem d_Law_law_241 : decode code 241 = .ok (.if_icmp .eq 97, 3) := by decide +kernel
theorem d_Law_law_244 : decode code 244 = .ok (.iconst 0, 1) := by decide +kernel
theorem d_Law_law_245 : decode code 245 = .ok (.ireturn, 1) := by decide +kernel
theorem d_Law_law_246 : decode code 246 = .ok (.aload_n 1, 1) := by decide +kernel
theorem d_Law_law_247 : decode code 247 = .ok (.invokevirtual 40, 3) := by decide +kernel
theorem d_Law_law_250 : decode code 250 = .ok (.aload_n 2, 1) := by decide +kernel
theorem d_Law_law_251 : decode code 251 = .ok (.invokevirtual 43, 3) := by decide +kernel
theorem d_Law_law_254 : decode code 254 = .ok (.if_icmp .eq 84, 3) := by decide +kernel
theorem d_Law_law_257 : decode code 257 = .ok (.iconst 0, 1) := by decide +kernel
theorem d_Law_law_258 : decode code 258 = .ok (.ireturn, 1) := by decide +kernel
theorem d_Law_law_259 : decode code 259 = .ok (.aload_n 1, 1) := by decide +kernel
theorem d_Law_law_260 : decode code 260 = .ok (.aload_n 0, 1) := by decide +kernel
theorem d_Law_law_261 : decode code 261 = .ok (.iload_n 3, 1) := by decide +kernel
theorem d_Law_law_262 : decode code 262 = .ok (.iconst 1, 1) := by decide +kernel
theorem d_Law_law_263 : decode code 263 = .ok (.iadd, 1) := by decide +kernel
theorem d_Law_law_264 : decode code 264 = .ok (.iaload, 1) := by decide +kernel
theorem d_Law_law_265 : decode code 265 = .ok (.invokevirtual 44, 3) := by decide +kernel
theorem d_Law_law_268 : decode code 268 = .ok (.aload_n 2, 1) := by decide +kernel
theorem d_Law_law_269 : decode code 269 = .ok (.aload_n 0, 1) := by decide +kernel
theorem d_Law_law_270 : decode code 270 = .ok (.iload_n 3, 1) := by decide +kernel
theorem d_Law_law_271 : decode code 271 = .ok (.iconst 1, 1) := by decide +kernel
theorem d_Law_law_272 : decode code 272 = .ok (.iadd, 1) := by decide +kernel
theorem d_Law_law_273 : decode code 273 = .ok (.iaload, 1) := by decide +kernel
theorem d_Law_law_274 : decode code 274 = .ok (.invokevirtual 47, 3) := by decide +kernel
theorem d_Law_law_277 : decode code 277 = .ok (.if_icmp .eq 61, 3) := by decide +kernel
theorem d_Law_law_280 : decode code 280 = .ok (.iconst 0, 1) := by decide +kernel
theorem d_Law_law_281 : decode code 281 = .ok (.ireturn, 1) := by decide +kernel
theorem d_Law_law_282 : decode code 282 = .ok (.aload_n 1, 1) := by decide +kernel
theorem d_Law_law_283 : decode code 283 = .ok (.aload_n 0, 1) := by decide +kernel
theorem d_Law_law_284 : decode code 284 = .ok (.iload_n 3, 1) := by decide +kernel
theorem d_Law_law_285 : decode code 285 = .ok (.iconst 1, 1) := by decide +kernel
theorem d_Law_law_286 : decode code 286 = .ok (.iadd, 1) := by decide +kernel
theorem d_Law_law_287 : decode code 287 = .ok (.iaload, 1) := by decide +kernel
theorem d_Law_law_288 : decode code 288 = .ok (.aload_n 0, 1) := by decide +kernel
theorem d_Law_law_289 : decode code 289 = .ok (.iload_n 3, 1) := by decide +kernel
theorem d_Law_law_290 : decode code 290 = .ok (.iconst 2, 1) := by decide +kernel
theorem d_Law_law_291 : decode code 291 = .ok (.iadd, 1) := by decide +kernel
theorem d_Law_law_292 : decode code 292 = .ok (.iaload, 1) := by decide +kernel
theorem d_Law_law_293 : decode code 293 = .ok (.invokevirtual 48, 3) := by decide +kernel
theorem d_Law_law_296 : decode code 296 = .ok (.aload_n 2, 1) := by decide +kernel
theorem d_Law_law_297 : decode code 297 = .ok (.aload_n 0, 1) := by decide +kernel
theorem d_Law_law_298 : decode code 298 = .ok (.iload_n 3, 1) := by decide +kernel
theorem d_Law_law_299 : decode code 299 = .ok (.iconst 1, 1) := by decide +kernel
theorem d_Law_law_300 : decode code 300 = .ok (.iadd, 1) := by decide +kernel
theorem d_Law_law_301 : decode code 301 = .ok (.iaload, 1) := by decide +kernel
theorem d_Law_law_302 : decode code 302 = .ok (.aload_n 0, 1) := by decide +kernel
theorem d_Law_law_303 : decode code 303 = .ok (.iload_n 3, 1) := by decide +kernel
theorem d_Law_law_304 : decode code 304 = .ok (.iconst 2, 1) := by decide +kernel
theorem d_Law_law_305 : decode code 305 = .ok (.iadd, 1) := by decide +kernel
theorem d_Law_law_306 : decode code 306 = .ok (.iaload, 1) := by decide +kernel
theorem d_Law_law_307 : decode code 307 = .ok (.invokevirtual 52, 3) := by decide +kernel
theorem d_Law_law_310 : decode code 310 = .ok (.if_icmp .eq 28, 3) := by decide +kernel
theorem d_Law_law_313 : decode code 313 = .ok (.iconst 0, 1) := by decide +kernel
theorem d_Law_law_314 : decode code 314 = .ok (.ireturn, 1) := by decide +kernel
theorem d_Law_law_315 : decode code 315 = .ok (.aload_n 1, 1) := by decide +kernel
theorem d_Law_law_316 : decode code 316 = .ok (.aload_n 0, 1) := by decide +kernel
theorem d_Law_law_317 : decode code 317 = .ok (.iload_n 3, 1) := by decide +kernel
theorem d_Law_law_318 : decode code 318 = .ok (.iconst 1, 1) := by decide +kernel
theorem d_Law_law_319 : decode code 319 = .ok (.iadd, 1) := by decide +kernel
theorem d_Law_law_320 : decode code 320 = .ok (.iaload, 1) := by decide +kernel
theorem d_Law_law_321 : decode code 321 = .ok (.invokevirtual 53, 3) := by decide +kernel
theorem d_Law_law_324 : decode code 324 = .ok (.aload_n 2, 1) := by decide +kernel
theorem d_Law_law_325 : decode code 325 = .ok (.aload_n 0, 1) := by decide +kernel
theorem d_Law_law_326 : decode code 326 = .ok (.iload_n 3, 1) := by decide +kernel
theorem d_Law_law_327 : decode code 327 = .ok (.iconst 1, 1) := by decide +kernel
theorem d_Law_law_328 : decode code 328 = .ok (.iadd, 1) := by decide +kernel
theorem d_Law_law_329 : decode code 329 = .ok (.iaload, 1) := by decide +kernel
theorem d_Law_law_330 : decode code 330 = .ok (.invokevirtual 56, 3) := by decide +kernel
theorem d_Law_law_333 : decode code 333 = .ok (.if_icmp .eq 5, 3) := by decide +kernel
theorem d_Law_law_336 : decode code 336 = .ok (.iconst 0, 1) := by decide +kernel
theorem d_Law_law_337 : decode code 337 = .ok (.ireturn, 1) := by decide +kernel
theorem d_Law_law_338 : decode code 338 = .ok (.iinc 3 6, 3) := by decide +kernel
theorem d_Law_law_341 : decode code 341 = .ok (.goto (-323), 3) := by decide +kernel
theorem d_Law_law_344 : decode code 344 = .ok (.iconst 1, 1) := by decide +kernel
theorem d_Law_law_345 : decode code 345 = .ok (.ireturn, 1) := by decide +kernel
theorem ml_Law_9 : Cond.methodLink "DavRoomLaw" 9 ⟨"DavRoom", "<init>", "()V"⟩ ∈ TB := tb1 20 rfl rfl
theorem ml_Law_13 : Cond.methodLink "DavRoomLaw" 13 ⟨"DavRoom", "feed", "(IIIII)I"⟩ ∈ TB := tb1 232 rfl rfl
theorem ml_Law_18 : Cond.methodLink "DavRoomLaw" 18 ⟨"DavRoom", "end", "(I)I"⟩ ∈ TB := tb2 5 rfl rfl
theorem ml_Law_23 : Cond.methodLink "DavRoomLaw" 23 ⟨"DavRoom", "request", "()I"⟩ ∈ TB := tb2 13 rfl rfl
theorem ml_Law_28 : Cond.methodLink "DavRoomLaw" 28 ⟨"DavRoom", "octet", "(I)I"⟩ ∈ TB := tb3 183 rfl rfl
theorem ml_Law_32 : Cond.methodLink "DavRoomLaw" 32 ⟨"DavRoom", "tick", "(I)I"⟩ ∈ TB := tb3 188 rfl rfl
theorem ml_Law_36 : Cond.methodLink "DavRoomLaw" 36 ⟨"DavRoom", "keep", "()I"⟩ ∈ TB := tb3 196 rfl rfl
theorem ml_Law_40 : Cond.methodLink "DavRoomLaw" 40 ⟨"DavRoom", "crash", "()I"⟩ ∈ TB := tb3 213 rfl rfl
theorem ml_Law_44 : Cond.methodLink "DavRoomLaw" 44 ⟨"DavRoom", "look", "(I)I"⟩ ∈ TB := tb3 217 rfl rfl
theorem ml_Law_48 : Cond.methodLink "DavRoomLaw" 48 ⟨"DavRoom", "lock", "(II)I"⟩ ∈ TB := tb3 225 rfl rfl
theorem ml_Law_53 : Cond.methodLink "DavRoomLaw" 53 ⟨"DavRoom", "count", "(I)I"⟩ ∈ TB := tb3 233 rfl rfl
theorem ml_Law_12 : Cond.methodLink "DavRoomLaw" 12 ⟨"DavRoomModel", "<init>", "()V"⟩ ∈ TB := tb4 11 rfl rfl
theorem ml_Law_17 : Cond.methodLink "DavRoomLaw" 17 ⟨"DavRoomModel", "feed", "(IIIII)I"⟩ ∈ TB := tb4 172 rfl rfl
theorem ml_Law_22 : Cond.methodLink "DavRoomLaw" 22 ⟨"DavRoomModel", "end", "(I)I"⟩ ∈ TB := tb4 176 rfl rfl
theorem ml_Law_27 : Cond.methodLink "DavRoomLaw" 27 ⟨"DavRoomModel", "request", "()I"⟩ ∈ TB := tb4 180 rfl rfl
theorem ml_Law_31 : Cond.methodLink "DavRoomLaw" 31 ⟨"DavRoomModel", "octet", "(I)I"⟩ ∈ TB := tb5 144 rfl rfl
theorem ml_Law_35 : Cond.methodLink "DavRoomLaw" 35 ⟨"DavRoomModel", "tick", "(I)I"⟩ ∈ TB := tb5 148 rfl rfl
theorem ml_Law_39 : Cond.methodLink "DavRoomLaw" 39 ⟨"DavRoomModel", "keep", "()I"⟩ ∈ TB := tb5 156 rfl rfl
theorem ml_Law_43 : Cond.methodLink "DavRoomLaw" 43 ⟨"DavRoomModel", "crash", "()I"⟩ ∈ TB := tb5 160 rfl rfl
theorem ml_Law_47 : Cond.methodLink "DavRoomLaw" 47 ⟨"DavRoomModel", "look", "(I)I"⟩ ∈ TB := tb5 164 rfl rfl
theorem ml_Law_52 : Cond.methodLink "DavRoomLaw" 52 ⟨"DavRoomModel", "lock", "(II)I"⟩ ∈ TB := tb5 172 rfl rfl
theorem ml_Law_56 : Cond.methodLink "DavRoomLaw" 56 ⟨"DavRoomModel", "count", "(I)I"⟩ ∈ TB := tb5 176 rfl rfl
theorem cl_Law_7 : Cond.classLink "DavRoomLaw" 7 "DavRoom" ∈ TB := tb1 18 rfl rfl
theorem cl_Law_10 : Cond.classLink "DavRoomLaw" 10 "DavRoomModel" ∈ TB := tb4 9 rfl rfl
theorem isZ.out {K : gK} {E E' : gE} {z c n : Nat} {tp os pa ta pr md : Bs} {ms : List Me} {ls : List Lk} {kms : List Me} {kls : List Lk} {bms : List Me} {bls : List Lk} {ck vn tn : Int32} {mt hs bo : Nat} {vl : Nat → Int32} (h : isZ K E z tp os pa ta pr md ms ls kms kls bms bls ck vn tn mt hs bo vl) (hf : frN c n E E') (h1 : z + 476 ≤ c ∨ c + n ≤ z) : isZ K E' z tp os pa ta pr md ms ls kms kls bms bls ck vn tn mt hs bo vl := ⟨(hf z (by omega)).trans h.1, h.2.1.out hf (by omega), h.2.2.1.out hf (by omega), h.2.2.2.1.out hf (by omega), h.2.2.2.2.1.out hf (by omega), h.2.2.2.2.2.1.out hf (by omega), h.2.2.2.2.2.2.1.out hf (by omega), h.2.2.2.2.2.2.2.1.out hf (by omega), h.2.2.2.2.2.2.2.2.1.out hf (by omega), h.2.2.2.2.2.2.2.2.2.1.out hf (by omega), h.2.2.2.2.2.2.2.2.2.2.1.out hf (by omega), h.2.2.2.2.2.2.2.2.2.2.2.1.out hf (by omega), h.2.2.2.2.2.2.2.2.2.2.2.2.1.out hf (by omega), h.2.2.2.2.2.2.2.2.2.2.2.2.2⟩
theorem isD.out {K : gK} {E E' : gE} {x c n : Nat} {tp os pa ta ba : Bs} {vb dp : Nat} {ma tk tm : Int32} {an sp al : Bool} {se : Int32} {cu : Nat} {vt : Int32} {rs : List Re} {kt : Int32} {krs : List Re} {lt : Int32} {ls : List Lk} {kl : Int32} {kls : List Lk} {ck : Int32} (h : isD K E x tp os pa ta ba vb dp ma tk tm an sp al se cu vt rs kt krs lt ls kl kls ck) (hf : frN c n E E') (h1 : x + 490 ≤ c ∨ c + n ≤ x) : isD K E' x tp os pa ta ba vb dp ma tk tm an sp al se cu vt rs kt krs lt ls kl kls ck := ⟨(hf x (by omega)).trans h.1, h.2.1.out hf (by omega), h.2.2.1.out hf (by omega), h.2.2.2.1.out hf (by omega), h.2.2.2.2.1.out hf (by omega), h.2.2.2.2.2.1.out hf (by omega), h.2.2.2.2.2.2.1.out hf (by omega), h.2.2.2.2.2.2.2.1.out hf (by omega), h.2.2.2.2.2.2.2.2⟩
theorem isTT.bod {K : gK} {E : gE} {t : Nat} {lv : Int32} {rs : List Re} (h : isTT K E t lv rs) : ∀ v ∈ rs, v.2.1.length ≤ 80 := by
  obtain ⟨π, w, f, h1, h2, h3, h4, h5, h6, h7, h8⟩ := h
  intro v hv
  obtain ⟨i, hi, rfl⟩ := List.getElem_of_mem hv
  rw [← h7 i hi]
  exact (h5 (π i) (h4.1 i (by omega))).2.2.2.1
section GLAW
variable {X : gX} {K : gK} {cc : ByteArray} {own : String} {mL rf rl pc : Nat} {E : gE} {lv : List (Nat × Value)} {st rest : List Value}
theorem g_sld (C : gC X K cc own mL rf rl) {b L i : Nat} {ys : Nat → Int32} (hX : va_X b L ys (xs X) (xs X).heap) (hbl : b < (xs X).heap.size) (hbA : ¬ xA X b) (hi : i < L) (hL : L < 2 ^ 31) (hdg : decode cc pc = .ok (.iaload, 1)) (kk : gW X K E (pc + 1) lv (.int (ys i) :: st)) : gW X K E pc lv (.int (nI i) :: .ref b :: st) := by
  intro H locs ls hH hl
  refine va_sld C.1 C.2.1 hX hbl hbA hH.2.2 (vp_in_nI hi hL) hdg ?_
  rw [nI_clamp (by omega)]
  exact kk H locs ls hH hl
theorem g_scl (C : gC X K cc own mL rf rl) {b L : Nat} {ys : Nat → Int32} (hX : va_X b L ys (xs X) (xs X).heap) (hbl : b < (xs X).heap.size) (hbA : ¬ xA X b) (hdg : decode cc pc = .ok (.arraylength, 1)) (kk : gW X K E (pc + 1) lv (.int (nI L) :: st)) : gW X K E pc lv (.ref b :: st) := by
  intro H locs ls hH hl
  exact va_slen C.1 C.2.1 hX hbl hbA hH.2.2 hdg (kk H locs ls hH hl)
theorem g_cF {k n : Nat} {y : MethodName} {bytes : ByteArray} {mL' nA index b rf' rl' : Nat} {As : List Value} {post : Int32 → gE → Prop} (C : gC (gXa X k n) K cc own mL rf rl) (hM : gMF (xl X) y bytes mL' rf' rl' K E (.ref (ka K b) :: As) post) (mw : gMW y bytes mL' (some .int) nA) (mo : gMO y) (hlink : Cond.methodLink own index y ∈ TB) (hr : rf' + 1 ≤ rf ∧ 8 + (mL' + 11) + rl' ≤ rl)
    {ci : Nat} {fs : List Value} {T : u_T} {Nf : Nat} (he : E b = .inr (ci, fs)) (hcl : cls[ci]? = some (y.cls, T, Nf)) (hb : b < kN K) (hn : As.length = nA) (hst : st = As.reverse ++ .ref (ka K b) :: rest) (hcat : (rest.map fun v => v.category).sum ≤ 8) (hc1 : k + 1 ≤ (xR X).cells) (hc5 : n + 5 ≤ (xR X).slots) (hdg : decode cc pc = .ok (.invokevirtual index, 3))
    (kk : ∀ (r : Int32) (E' : gE), post r E' → gW (gXa X (k + 1) (n + 5)) K E' (pc + 3) lv (.int r :: rest)) : gW (gXa X k n) K E pc lv st := by
  subst hst
  intro H locs ls hH hl
  have h6 := gw_at (ad := ka K) (N := kN K) (E := E) hb
  rw [he] at h6
  refine va_calli (va_runV (As := As) (rest := rest) (n := nA) ⟨C.1, C.2.1, C.2.2.2.1, C.ow, C.ts⟩ (hM H.size) (cwV nA C.ts (fun w hw => ?_) rfl rfl rfl ⟨rfl, mw.2⟩ ⟨by rw [C.fr]; exact hr.1, by rw [C.lo]; exact hr.2⟩) ⟨gPc_blind, va_recv C.kk hH.1 hcl h6, gPc_at C hH _⟩ rfl hn hl.1 rfl (lv_room hcat) hdg ⟨hc1, hc5⟩) hH.2.2 (fun q _ h => gA_sub C hH q h) (gA_sub C hH) (fun r E' t H1 locs1 ht _ hp hB _ _ hS => kk r E' hp H1 locs1 ls ⟨ht ▸ hB, gw_D hH.2.1, hS⟩ hl)
  rcases List.mem_append.mp hw with h | h
  · simp only [List.mem_cons, List.not_mem_nil, or_false] at h
    rcases h with rfl | rfl | rfl | rfl
    · exact tb_good _ hlink
    · exact tb_good _ mo.1
    · exact tb_good _ mo.2
    · exact tb_good _ mw.1.1
  · exact gGood mw.1.2 w h
end GLAW
theorem live_map (ck : Int32) (ls : List Lk) : (liveL ck ls).map cvL = liveL ck (ls.map cvL) := lflt_eq (fun v _ => rfl)
def LAWr (K : gK) (E : gE) (T : Nat) : Prop := ∃ (tp os : Bs) (vt : Int32) (rs : List Re) (kt : Int32) (krs : List Re) (ls : List Lk) (kl : Int32) (kls : List Lk) (ck : Int32) (ms kms : List Me) (pa ta pr md : Bs) (bms : List Me) (bls : List Lk) (mt hs bo : Nat) (vl : Nat → Int32), isDx K E 0 tp os vt rs kt krs (nI T) ls kl kls ck ∧ isZ K E 490 tp os pa ta pr md ms (ls.map cvL) kms (kls.map cvL) bms bls ck vt (nI T) mt hs bo vl ∧ REL rs ms ∧ okL ls ∧ INV T ms (ls.map cvL) ∧ REL krs kms ∧ okL kls ∧ INV T kms (kls.map cvL)