theorem d_Lw_law_0 : decode code 0 = .ok (.new 7, 3) := by decide +kernel
theorem d_Lw_law_3 : decode code 3 = .ok (.dup, 1) := by decide +kernel
theorem d_Lw_law_4 : decode code 4 = .ok (.invokespecial 9, 3) := by decide +kernel
theorem d_Lw_law_7 : decode code 7 = .ok (.astore_n 1, 1) := by decide +kernel
theorem d_Lw_law_8 : decode code 8 = .ok (.new 10, 3) := by decide +kernel
theorem d_Lw_law_11 : decode code 11 = .ok (.dup, 1) := by decide +kernel
theorem d_Lw_law_12 : decode code 12 = .ok (.invokespecial 12, 3) := by decide +kernel
theorem d_Lw_law_15 : decode code 15 = .ok (.astore_n 2, 1) := by decide +kernel
theorem d_Lw_law_16 : decode code 16 = .ok (.iconst 0, 1) := by decide +kernel
theorem d_Lw_law_17 : decode code 17 = .ok (.istore_n 3, 1) := by decide +kernel
theorem d_Lw_law_18 : decode code 18 = .ok (.iload_n 3, 1) := by decide +kernel
theorem d_Lw_law_19 : decode code 19 = .ok (.aload_n 0, 1) := by decide +kernel
theorem d_Lw_law_20 : decode code 20 = .ok (.arraylength, 1) := by decide +kernel
theorem d_Lw_law_21 : decode code 21 = .ok (.iconst 4, 1) := by decide +kernel
theorem d_Lw_law_22 : decode code 22 = .ok (.isub, 1) := by decide +kernel
theorem d_Lw_law_23 : decode code 23 = .ok (.if_icmp .gt 369, 3) := by decide +kernel
theorem d_Lw_law_26 : decode code 26 = .ok (.aload_n 0, 1) := by decide +kernel
theorem d_Lw_law_27 : decode code 27 = .ok (.iload_n 3, 1) := by decide +kernel
theorem d_Lw_law_28 : decode code 28 = .ok (.iaload, 1) := by decide +kernel
theorem d_Lw_law_29 : decode code 29 = .ok (.bipush 15, 2) := by decide +kernel
theorem d_Lw_law_31 : decode code 31 = .ok (.iand, 1) := by decide +kernel
theorem d_Lw_law_32 : decode code 32 = .ok (.tableswitch 354 0 10 #[60, 83, 96, 129, 142, 175, 198, 232, 255, 318, 331], 60) := by decide +kernel
theorem d_Lw_law_92 : decode code 92 = .ok (.aload_n 1, 1) := by decide +kernel
theorem d_Lw_law_93 : decode code 93 = .ok (.aload_n 0, 1) := by decide +kernel
theorem d_Lw_law_94 : decode code 94 = .ok (.iload_n 3, 1) := by decide +kernel
theorem d_Lw_law_95 : decode code 95 = .ok (.iconst 1, 1) := by decide +kernel
theorem d_Lw_law_96 : decode code 96 = .ok (.iadd, 1) := by decide +kernel
theorem d_Lw_law_97 : decode code 97 = .ok (.iaload, 1) := by decide +kernel
theorem d_Lw_law_98 : decode code 98 = .ok (.invokevirtual 13, 3) := by decide +kernel
theorem d_Lw_law_101 : decode code 101 = .ok (.aload_n 2, 1) := by decide +kernel
theorem d_Lw_law_102 : decode code 102 = .ok (.aload_n 0, 1) := by decide +kernel
theorem d_Lw_law_103 : decode code 103 = .ok (.iload_n 3, 1) := by decide +kernel
theorem d_Lw_law_104 : decode code 104 = .ok (.iconst 1, 1) := by decide +kernel
theorem d_Lw_law_105 : decode code 105 = .ok (.iadd, 1) := by decide +kernel
theorem d_Lw_law_106 : decode code 106 = .ok (.iaload, 1) := by decide +kernel
theorem d_Lw_law_107 : decode code 107 = .ok (.invokevirtual 17, 3) := by decide +kernel
theorem d_Lw_law_110 : decode code 110 = .ok (.if_icmp .eq 276, 3) := by decide +kernel
theorem d_Lw_law_113 : decode code 113 = .ok (.iconst 0, 1) := by decide +kernel
theorem d_Lw_law_114 : decode code 114 = .ok (.ireturn, 1) := by decide +kernel
theorem d_Lw_law_115 : decode code 115 = .ok (.aload_n 1, 1) := by decide +kernel
theorem d_Lw_law_116 : decode code 116 = .ok (.invokevirtual 18, 3) := by decide +kernel
theorem d_Lw_law_119 : decode code 119 = .ok (.aload_n 2, 1) := by decide +kernel
theorem d_Lw_law_120 : decode code 120 = .ok (.invokevirtual 22, 3) := by decide +kernel
theorem d_Lw_law_123 : decode code 123 = .ok (.if_icmp .eq 263, 3) := by decide +kernel
theorem d_Lw_law_126 : decode code 126 = .ok (.iconst 0, 1) := by decide +kernel
theorem d_Lw_law_127 : decode code 127 = .ok (.ireturn, 1) := by decide +kernel
theorem d_Lw_law_128 : decode code 128 = .ok (.aload_n 1, 1) := by decide +kernel
theorem d_Lw_law_129 : decode code 129 = .ok (.aload_n 0, 1) := by decide +kernel
theorem d_Lw_law_130 : decode code 130 = .ok (.iload_n 3, 1) := by decide +kernel
theorem d_Lw_law_131 : decode code 131 = .ok (.iconst 1, 1) := by decide +kernel
theorem d_Lw_law_132 : decode code 132 = .ok (.iadd, 1) := by decide +kernel
theorem d_Lw_law_133 : decode code 133 = .ok (.iaload, 1) := by decide +kernel
theorem d_Lw_law_134 : decode code 134 = .ok (.aload_n 0, 1) := by decide +kernel
theorem d_Lw_law_135 : decode code 135 = .ok (.iload_n 3, 1) := by decide +kernel
theorem d_Lw_law_136 : decode code 136 = .ok (.iconst 2, 1) := by decide +kernel
theorem d_Lw_law_137 : decode code 137 = .ok (.iadd, 1) := by decide +kernel
theorem d_Lw_law_138 : decode code 138 = .ok (.iaload, 1) := by decide +kernel
theorem d_Lw_law_139 : decode code 139 = .ok (.invokevirtual 23, 3) := by decide +kernel
theorem d_Lw_law_142 : decode code 142 = .ok (.aload_n 2, 1) := by decide +kernel
theorem d_Lw_law_143 : decode code 143 = .ok (.aload_n 0, 1) := by decide +kernel
theorem d_Lw_law_144 : decode code 144 = .ok (.iload_n 3, 1) := by decide +kernel
theorem d_Lw_law_145 : decode code 145 = .ok (.iconst 1, 1) := by decide +kernel
theorem d_Lw_law_146 : decode code 146 = .ok (.iadd, 1) := by decide +kernel
theorem d_Lw_law_147 : decode code 147 = .ok (.iaload, 1) := by decide +kernel
theorem d_Lw_law_148 : decode code 148 = .ok (.aload_n 0, 1) := by decide +kernel
theorem d_Lw_law_149 : decode code 149 = .ok (.iload_n 3, 1) := by decide +kernel
theorem d_Lw_law_150 : decode code 150 = .ok (.iconst 2, 1) := by decide +kernel
theorem d_Lw_law_151 : decode code 151 = .ok (.iadd, 1) := by decide +kernel
theorem d_Lw_law_152 : decode code 152 = .ok (.iaload, 1) := by decide +kernel
theorem d_Lw_law_153 : decode code 153 = .ok (.invokevirtual 27, 3) := by decide +kernel
theorem d_Lw_law_156 : decode code 156 = .ok (.if_icmp .eq 230, 3) := by decide +kernel
theorem d_Lw_law_159 : decode code 159 = .ok (.iconst 0, 1) := by decide +kernel
theorem d_Lw_law_160 : decode code 160 = .ok (.ireturn, 1) := by decide +kernel
theorem d_Lw_law_161 : decode code 161 = .ok (.aload_n 1, 1) := by decide +kernel
theorem d_Lw_law_162 : decode code 162 = .ok (.invokevirtual 28, 3) := by decide +kernel
theorem d_Lw_law_165 : decode code 165 = .ok (.aload_n 2, 1) := by decide +kernel
theorem d_Lw_law_166 : decode code 166 = .ok (.invokevirtual 31, 3) := by decide +kernel
theorem d_Lw_law_169 : decode code 169 = .ok (.if_icmp .eq 217, 3) := by decide +kernel
theorem d_Lw_law_172 : decode code 172 = .ok (.iconst 0, 1) := by decide +kernel
theorem d_Lw_law_173 : decode code 173 = .ok (.ireturn, 1) := by decide +kernel
theorem d_Lw_law_174 : decode code 174 = .ok (.aload_n 1, 1) := by decide +kernel
theorem d_Lw_law_175 : decode code 175 = .ok (.aload_n 0, 1) := by decide +kernel
theorem d_Lw_law_176 : decode code 176 = .ok (.iload_n 3, 1) := by decide +kernel
theorem d_Lw_law_177 : decode code 177 = .ok (.iconst 1, 1) := by decide +kernel
theorem d_Lw_law_178 : decode code 178 = .ok (.iadd, 1) := by decide +kernel
theorem d_Lw_law_179 : decode code 179 = .ok (.iaload, 1) := by decide +kernel
theorem d_Lw_law_180 : decode code 180 = .ok (.aload_n 0, 1) := by decide +kernel
theorem d_Lw_law_181 : decode code 181 = .ok (.iload_n 3, 1) := by decide +kernel
theorem d_Lw_law_182 : decode code 182 = .ok (.iconst 2, 1) := by decide +kernel
theorem d_Lw_law_183 : decode code 183 = .ok (.iadd, 1) := by decide +kernel
theorem d_Lw_law_184 : decode code 184 = .ok (.iaload, 1) := by decide +kernel
theorem d_Lw_law_185 : decode code 185 = .ok (.invokevirtual 32, 3) := by decide +kernel
theorem d_Lw_law_188 : decode code 188 = .ok (.aload_n 2, 1) := by decide +kernel
theorem d_Lw_law_189 : decode code 189 = .ok (.aload_n 0, 1) := by decide +kernel
theorem d_Lw_law_190 : decode code 190 = .ok (.iload_n 3, 1) := by decide +kernel
theorem d_Lw_law_191 : decode code 191 = .ok (.iconst 1, 1) := by decide +kernel
theorem d_Lw_law_192 : decode code 192 = .ok (.iadd, 1) := by decide +kernel
theorem d_Lw_law_193 : decode code 193 = .ok (.iaload, 1) := by decide +kernel
theorem d_Lw_law_194 : decode code 194 = .ok (.aload_n 0, 1) := by decide +kernel
theorem d_Lw_law_195 : decode code 195 = .ok (.iload_n 3, 1) := by decide +kernel
theorem d_Lw_law_196 : decode code 196 = .ok (.iconst 2, 1) := by decide +kernel
theorem d_Lw_law_197 : decode code 197 = .ok (.iadd, 1) := by decide +kernel
theorem d_Lw_law_198 : decode code 198 = .ok (.iaload, 1) := by decide +kernel
theorem d_Lw_law_199 : decode code 199 = .ok (.invokevirtual 35, 3) := by decide +kernel
theorem d_Lw_law_202 : decode code 202 = .ok (.if_icmp .eq 184, 3) := by decide +kernel
theorem d_Lw_law_205 : decode code 205 = .ok (.iconst 0, 1) := by decide +kernel
theorem d_Lw_law_206 : decode code 206 = .ok (.ireturn, 1) := by decide +kernel
theorem d_Lw_law_207 : decode code 207 = .ok (.aload_n 1, 1) := by decide +kernel
theorem d_Lw_law_208 : decode code 208 = .ok (.aload_n 0, 1) := by decide +kernel
theorem d_Lw_law_209 : decode code 209 = .ok (.iload_n 3, 1) := by decide +kernel
theorem d_Lw_law_210 : decode code 210 = .ok (.iconst 1, 1) := by decide +kernel
theorem d_Lw_law_211 : decode code 211 = .ok (.iadd, 1) := by decide +kernel
theorem d_Lw_law_212 : decode code 212 = .ok (.iaload, 1) := by decide +kernel
theorem d_Lw_law_213 : decode code 213 = .ok (.invokevirtual 36, 3) := by decide +kernel
theorem d_Lw_law_216 : decode code 216 = .ok (.aload_n 2, 1) := by decide +kernel
theorem d_Lw_law_217 : decode code 217 = .ok (.aload_n 0, 1) := by decide +kernel
theorem d_Lw_law_218 : decode code 218 = .ok (.iload_n 3, 1) := by decide +kernel
theorem d_Lw_law_219 : decode code 219 = .ok (.iconst 1, 1) := by decide +kernel
theorem d_Lw_law_220 : decode code 220 = .ok (.iadd, 1) := by decide +kernel
theorem d_Lw_law_221 : decode code 221 = .ok (.iaload, 1) := by decide +kernel
theorem d_Lw_law_222 : decode code 222 = .ok (.invokevirtual 40, 3) := by decide +kernel
theorem d_Lw_law_225 : decode code 225 = .ok (.if_icmp .eq 161, 3) := by decide +kernel
theorem d_Lw_law_228 : decode code 228 = .ok (.iconst 0, 1) := by decide +kernel
theorem d_Lw_law_229 : decode code 229 = .ok (.ireturn, 1) := by decide +kernel
theorem d_Lw_law_230 : decode code 230 = .ok (.aload_n 1, 1) := by decide +kernel
theorem d_Lw_law_231 : decode code 231 = .ok (.aload_n 0, 1) := by decide +kernel
theorem d_Lw_law_232 : decode code 232 = .ok (.iload_n 3, 1) := by decide +kernel
theorem d_Lw_law_233 : decode code 233 = .ok (.iconst 1, 1) := by decide +kernel
theorem d_Lw_law_234 : decode code 234 = .ok (.iadd, 1) := by decide +kernel
theorem d_Lw_law_235 : decode code 235 = .ok (.iaload, 1) := by decide +kernel
theorem d_Lw_law_236 : decode code 236 = .ok (.aload_n 0, 1) := by decide +kernel
theorem d_Lw_law_237 : decode code 237 = .ok (.iload_n 3, 1) := by decide +kernel
theorem d_Lw_law_238 : decode code 238 = .ok (.iconst 2, 1) := by decide +kernel
theorem d_Lw_law_239 : decode code 239 = .ok (.iadd, 1) := by decide +kernel
theorem d_Lw_law_240 : decode code 240 = .ok (.iaload, 1) := by decide +kernel
theorem d_Lw_law_241 : decode code 241 = .ok (.invokevirtual 41, 3) := by decide +kernel
theorem d_Lw_law_244 : decode code 244 = .ok (.aload_n 2, 1) := by decide +kernel
theorem d_Lw_law_245 : decode code 245 = .ok (.aload_n 0, 1) := by decide +kernel
theorem d_Lw_law_246 : decode code 246 = .ok (.iload_n 3, 1) := by decide +kernel
theorem d_Lw_law_247 : decode code 247 = .ok (.iconst 1, 1) := by decide +kernel
theorem d_Lw_law_248 : decode code 248 = .ok (.iadd, 1) := by decide +kernel
theorem d_Lw_law_249 : decode code 249 = .ok (.iaload, 1) := by decide +kernel
theorem d_Lw_law_250 : decode code 250 = .ok (.aload_n 0, 1) := by decide +kernel
theorem d_Lw_law_251 : decode code 251 = .ok (.iload_n 3, 1) := by decide +kernel
theorem d_Lw_law_252 : decode code 252 = .ok (.iconst 2, 1) := by decide +kernel
theorem d_Lw_law_253 : decode code 253 = .ok (.iadd, 1) := by decide +kernel
theorem d_Lw_law_254 : decode code 254 = .ok (.iaload, 1) := by decide +kernel
theorem d_Lw_law_255 : decode code 255 = .ok (.invokevirtual 45, 3) := by decide +kernel
theorem d_Lw_law_258 : decode code 258 = .ok (.lcmp, 1) := by decide +kernel
theorem d_Lw_law_259 : decode code 259 = .ok (.ifCond .eq 127, 3) := by decide +kernel
theorem d_Lw_law_262 : decode code 262 = .ok (.iconst 0, 1) := by decide +kernel
theorem d_Lw_law_263 : decode code 263 = .ok (.ireturn, 1) := by decide +kernel
theorem d_Lw_law_264 : decode code 264 = .ok (.aload_n 1, 1) := by decide +kernel
theorem d_Lw_law_265 : decode code 265 = .ok (.aload_n 0, 1) := by decide +kernel
theorem d_Lw_law_266 : decode code 266 = .ok (.iload_n 3, 1) := by decide +kernel
theorem d_Lw_law_267 : decode code 267 = .ok (.iconst 1, 1) := by decide +kernel
theorem d_Lw_law_268 : decode code 268 = .ok (.iadd, 1) := by decide +kernel
theorem d_Lw_law_269 : decode code 269 = .ok (.iaload, 1) := by decide +kernel
theorem d_Lw_law_270 : decode code 270 = .ok (.invokevirtual 46, 3) := by decide +kernel
theorem d_Lw_law_273 : decode code 273 = .ok (.aload_n 2, 1) := by decide +kernel
theorem d_Lw_law_274 : decode code 274 = .ok (.aload_n 0, 1) := by decide +kernel
theorem d_Lw_law_275 : decode code 275 = .ok (.iload_n 3, 1) := by decide +kernel
theorem d_Lw_law_276 : decode code 276 = .ok (.iconst 1, 1) := by decide +kernel
theorem d_Lw_law_277 : decode code 277 = .ok (.iadd, 1) := by decide +kernel
theorem d_Lw_law_278 : decode code 278 = .ok (.iaload, 1) := by decide +kernel
theorem d_Lw_law_279 : decode code 279 = .ok (.invokevirtual 49, 3) := by decide +kernel
theorem d_Lw_law_282 : decode code 282 = .ok (.if_icmp .eq 104, 3) := by decide +kernel
theorem d_Lw_law_285 : decode code 285 = .ok (.iconst 0, 1) := by decide +kernel
theorem d_Lw_law_286 : decode code 286 = .ok (.ireturn, 1) := by decide +kernel
theorem d_Lw_law_287 : decode code 287 = .ok (.aload_n 1, 1) := by decide +kernel
theorem d_Lw_law_288 : decode code 288 = .ok (.aload_n 0, 1) := by decide +kernel
theorem d_Lw_law_289 : decode code 289 = .ok (.iload_n 3, 1) := by decide +kernel
theorem d_Lw_law_290 : decode code 290 = .ok (.iconst 1, 1) := by decide +kernel
theorem d_Lw_law_291 : decode code 291 = .ok (.iadd, 1) := by decide +kernel
theorem d_Lw_law_292 : decode code 292 = .ok (.iaload, 1) := by decide +kernel
theorem d_Lw_law_293 : decode code 293 = .ok (.aload_n 0, 1) := by decide +kernel
theorem d_Lw_law_294 : decode code 294 = .ok (.iload_n 3, 1) := by decide +kernel
theorem d_Lw_law_295 : decode code 295 = .ok (.iconst 2, 1) := by decide +kernel
theorem d_Lw_law_296 : decode code 296 = .ok (.iadd, 1) := by decide +kernel
theorem d_Lw_law_297 : decode code 297 = .ok (.iaload, 1) := by decide +kernel
theorem d_Lw_law_298 : decode code 298 = .ok (.i2l, 1) := by decide +kernel
theorem d_Lw_law_299 : decode code 299 = .ok (.bipush 32, 2) := by decide +kernel
theorem d_Lw_law_301 : decode code 301 = .ok (.lshl, 1) := by decide +kernel
theorem d_Lw_law_302 : decode code 302 = .ok (.aload_n 0, 1) := by decide +kernel
theorem d_Lw_law_303 : decode code 303 = .ok (.iload_n 3, 1) := by decide +kernel
theorem d_Lw_law_304 : decode code 304 = .ok (.iconst 3, 1) := by decide +kernel
theorem d_Lw_law_305 : decode code 305 = .ok (.iadd, 1) := by decide +kernel
theorem d_Lw_law_306 : decode code 306 = .ok (.iaload, 1) := by decide +kernel
theorem d_Lw_law_307 : decode code 307 = .ok (.i2l, 1) := by decide +kernel
theorem d_Lw_law_308 : decode code 308 = .ok (.ldc2_w 50, 3) := by decide +kernel
theorem d_Lw_law_311 : decode code 311 = .ok (.land, 1) := by decide +kernel
theorem d_Lw_law_312 : decode code 312 = .ok (.lor, 1) := by decide +kernel
theorem d_Lw_law_313 : decode code 313 = .ok (.invokevirtual 52, 3) := by decide +kernel
theorem d_Lw_law_316 : decode code 316 = .ok (.aload_n 2, 1) := by decide +kernel
theorem d_Lw_law_317 : decode code 317 = .ok (.aload_n 0, 1) := by decide +kernel
theorem d_Lw_law_318 : decode code 318 = .ok (.iload_n 3, 1) := by decide +kernel
theorem d_Lw_law_319 : decode code 319 = .ok (.iconst 1, 1) := by decide +kernel
theorem d_Lw_law_320 : decode code 320 = .ok (.iadd, 1) := by decide +kernel
theorem d_Lw_law_321 : decode code 321 = .ok (.iaload, 1) := by decide +kernel
theorem d_Lw_law_322 : decode code 322 = .ok (.aload_n 0, 1) := by decide +kernel
theorem d_Lw_law_323 : decode code 323 = .ok (.iload_n 3, 1) := by decide +kernel
theorem d_Lw_law_324 : decode code 324 = .ok (.iconst 2, 1) := by decide +kernel
theorem d_Lw_law_325 : decode code 325 = .ok (.iadd, 1) := by decide +kernel
theorem d_Lw_law_326 : decode code 326 = .ok (.iaload, 1) := by decide +kernel
theorem d_Lw_law_327 : decode code 327 = .ok (.i2l, 1) := by decide +kernel
theorem d_Lw_law_328 : decode code 328 = .ok (.bipush 32, 2) := by decide +kernel
theorem d_Lw_law_330 : decode code 330 = .ok (.lshl, 1) := by decide +kernel
theorem d_Lw_law_331 : decode code 331 = .ok (.aload_n 0, 1) := by decide +kernel
theorem d_Lw_law_332 : decode code 332 = .ok (.iload_n 3, 1) := by decide +kernel
theorem d_Lw_law_333 : decode code 333 = .ok (.iconst 3, 1) := by decide +kernel
theorem d_Lw_law_334 : decode code 334 = .ok (.iadd, 1) := by decide +kernel
theorem d_Lw_law_335 : decode code 335 = .ok (.iaload, 1) := by decide +kernel
theorem d_Lw_law_336 : decode code 336 = .ok (.i2l, 1) := by decide +kernel
theorem d_Lw_law_337 : decode code 337 = .ok (.ldc2_w 50, 3) := by decide +kernel
theorem d_Lw_law_340 : decode code 340 = .ok (.land, 1) := by decide +kernel
theorem d_Lw_law_341 : decode code 341 = .ok (.lor, 1) := by decide +kernel
theorem d_Lw_law_342 : decode code 342 = .ok (.invokevirtual 56, 3) := by decide +kernel
theorem d_Lw_law_345 : decode code 345 = .ok (.if_icmp .eq 41, 3) := by decide +kernel
theorem d_Lw_law_348 : decode code 348 = .ok (.iconst 0, 1) := by decide +kernel
theorem d_Lw_law_349 : decode code 349 = .ok (.ireturn, 1) := by decide +kernel
theorem d_Lw_law_350 : decode code 350 = .ok (.aload_n 1, 1) := by decide +kernel
theorem d_Lw_law_351 : decode code 351 = .ok (.invokevirtual 57, 3) := by decide +kernel
theorem d_Lw_law_354 : decode code 354 = .ok (.aload_n 2, 1) := by decide +kernel
theorem d_Lw_law_355 : decode code 355 = .ok (.invokevirtual 60, 3) := by decide +kernel
theorem d_Lw_law_358 : decode code 358 = .ok (.if_icmp .eq 28, 3) := by decide +kernel
theorem d_Lw_law_361 : decode code 361 = .ok (.iconst 0, 1) := by decide +kernel
theorem d_Lw_law_362 : decode code 362 = .ok (.ireturn, 1) := by decide +kernel
theorem d_Lw_law_363 : decode code 363 = .ok (.aload_n 1, 1) := by decide +kernel
theorem d_Lw_law_364 : decode code 364 = .ok (.aload_n 0, 1) := by decide +kernel
theorem d_Lw_law_365 : decode code 365 = .ok (.iload_n 3, 1) := by decide +kernel
theorem d_Lw_law_366 : decode code 366 = .ok (.iconst 1, 1) := by decide +kernel
theorem d_Lw_law_367 : decode code 367 = .ok (.iadd, 1) := by decide +kernel
theorem d_Lw_law_368 : decode code 368 = .ok (.iaload, 1) := by decide +kernel
theorem d_Lw_law_369 : decode code 369 = .ok (.invokevirtual 61, 3) := by decide +kernel
theorem d_Lw_law_372 : decode code 372 = .ok (.aload_n 2, 1) := by decide +kernel
theorem d_Lw_law_373 : decode code 373 = .ok (.aload_n 0, 1) := by decide +kernel
theorem d_Lw_law_374 : decode code 374 = .ok (.iload_n 3, 1) := by decide +kernel
theorem d_Lw_law_375 : decode code 375 = .ok (.iconst 1, 1) := by decide +kernel
theorem d_Lw_law_376 : decode code 376 = .ok (.iadd, 1) := by decide +kernel
theorem d_Lw_law_377 : decode code 377 = .ok (.iaload, 1) := by decide +kernel
theorem d_Lw_law_378 : decode code 378 = .ok (.invokevirtual 64, 3) := by decide +kernel
theorem d_Lw_law_381 : decode code 381 = .ok (.if_icmp .eq 5, 3) := by decide +kernel
theorem d_Lw_law_384 : decode code 384 = .ok (.iconst 0, 1) := by decide +kernel
theorem d_Lw_law_385 : decode code 385 = .ok (.ireturn, 1) := by decide +kernel
theorem d_Lw_law_386 : decode code 386 = .ok (.iinc 3 4, 3) := by decide +kernel
theorem d_Lw_law_389 : decode code 389 = .ok (.goto (-371), 3) := by decide +kernel
theorem d_Lw_law_392 : decode code 392 = .ok (.iconst 1, 1) := by decide +kernel
theorem d_Lw_law_393 : decode code 393 = .ok (.ireturn, 1) := by decide +kernel
