/-! decode rows -/
theorem nd_L_law_0 : decode nc_L_law 0 = .ok (.new 7, 3) := by decide +kernel
theorem nd_L_law_3 : decode nc_L_law 3 = .ok (.dup, 1) := by decide +kernel
theorem nd_L_law_4 : decode nc_L_law 4 = .ok (.invokespecial 9, 3) := by decide +kernel
theorem nd_L_law_7 : decode nc_L_law 7 = .ok (.astore_n 1, 1) := by decide +kernel
theorem nd_L_law_8 : decode nc_L_law 8 = .ok (.new 10, 3) := by decide +kernel
theorem nd_L_law_11 : decode nc_L_law 11 = .ok (.dup, 1) := by decide +kernel
theorem nd_L_law_12 : decode nc_L_law 12 = .ok (.invokespecial 12, 3) := by decide +kernel
theorem nd_L_law_15 : decode nc_L_law 15 = .ok (.astore_n 2, 1) := by decide +kernel
theorem nd_L_law_16 : decode nc_L_law 16 = .ok (.iconst 0, 1) := by decide +kernel
theorem nd_L_law_17 : decode nc_L_law 17 = .ok (.istore_n 3, 1) := by decide +kernel
theorem nd_L_law_18 : decode nc_L_law 18 = .ok (.iload_n 3, 1) := by decide +kernel
theorem nd_L_law_19 : decode nc_L_law 19 = .ok (.aload_n 0, 1) := by decide +kernel
theorem nd_L_law_20 : decode nc_L_law 20 = .ok (.arraylength, 1) := by decide +kernel
theorem nd_L_law_21 : decode nc_L_law 21 = .ok (.iconst 5, 1) := by decide +kernel
theorem nd_L_law_22 : decode nc_L_law 22 = .ok (.isub, 1) := by decide +kernel
theorem nd_L_law_23 : decode nc_L_law 23 = .ok (.if_icmp .gt 675, 3) := by decide +kernel
theorem nd_L_law_26 : decode nc_L_law 26 = .ok (.aload_n 0, 1) := by decide +kernel
theorem nd_L_law_27 : decode nc_L_law 27 = .ok (.iload_n 3, 1) := by decide +kernel
theorem nd_L_law_28 : decode nc_L_law 28 = .ok (.iaload, 1) := by decide +kernel
theorem nd_L_law_29 : decode nc_L_law 29 = .ok (.bipush 31, 2) := by decide +kernel
theorem nd_L_law_31 : decode nc_L_law 31 = .ok (.iand, 1) := by decide +kernel
theorem nd_L_law_32 : decode nc_L_law 32 = .ok (.tableswitch 660 0 19 #[96, 149, 192, 225, 248, 291, 344, 367, 390, 413, 426, 450, 474, 498, 521, 555, 578, 591, 634, 647], 96) := by decide +kernel
theorem nd_L_law_128 : decode nc_L_law 128 = .ok (.aload_n 1, 1) := by decide +kernel
theorem nd_L_law_129 : decode nc_L_law 129 = .ok (.aload_n 0, 1) := by decide +kernel
theorem nd_L_law_130 : decode nc_L_law 130 = .ok (.iload_n 3, 1) := by decide +kernel
theorem nd_L_law_131 : decode nc_L_law 131 = .ok (.iconst 1, 1) := by decide +kernel
theorem nd_L_law_132 : decode nc_L_law 132 = .ok (.iadd, 1) := by decide +kernel
theorem nd_L_law_133 : decode nc_L_law 133 = .ok (.iaload, 1) := by decide +kernel
theorem nd_L_law_134 : decode nc_L_law 134 = .ok (.aload_n 0, 1) := by decide +kernel
theorem nd_L_law_135 : decode nc_L_law 135 = .ok (.iload_n 3, 1) := by decide +kernel
theorem nd_L_law_136 : decode nc_L_law 136 = .ok (.iconst 2, 1) := by decide +kernel
theorem nd_L_law_137 : decode nc_L_law 137 = .ok (.iadd, 1) := by decide +kernel
theorem nd_L_law_138 : decode nc_L_law 138 = .ok (.iaload, 1) := by decide +kernel
theorem nd_L_law_139 : decode nc_L_law 139 = .ok (.aload_n 0, 1) := by decide +kernel
theorem nd_L_law_140 : decode nc_L_law 140 = .ok (.iload_n 3, 1) := by decide +kernel
theorem nd_L_law_141 : decode nc_L_law 141 = .ok (.iconst 3, 1) := by decide +kernel
theorem nd_L_law_142 : decode nc_L_law 142 = .ok (.iadd, 1) := by decide +kernel
theorem nd_L_law_143 : decode nc_L_law 143 = .ok (.iaload, 1) := by decide +kernel
theorem nd_L_law_144 : decode nc_L_law 144 = .ok (.aload_n 0, 1) := by decide +kernel
theorem nd_L_law_145 : decode nc_L_law 145 = .ok (.iload_n 3, 1) := by decide +kernel
theorem nd_L_law_146 : decode nc_L_law 146 = .ok (.iconst 4, 1) := by decide +kernel
theorem nd_L_law_147 : decode nc_L_law 147 = .ok (.iadd, 1) := by decide +kernel
theorem nd_L_law_148 : decode nc_L_law 148 = .ok (.iaload, 1) := by decide +kernel
theorem nd_L_law_149 : decode nc_L_law 149 = .ok (.invokevirtual 13, 3) := by decide +kernel
theorem nd_L_law_152 : decode nc_L_law 152 = .ok (.aload_n 2, 1) := by decide +kernel
theorem nd_L_law_153 : decode nc_L_law 153 = .ok (.aload_n 0, 1) := by decide +kernel
theorem nd_L_law_154 : decode nc_L_law 154 = .ok (.iload_n 3, 1) := by decide +kernel
theorem nd_L_law_155 : decode nc_L_law 155 = .ok (.iconst 1, 1) := by decide +kernel
theorem nd_L_law_156 : decode nc_L_law 156 = .ok (.iadd, 1) := by decide +kernel
theorem nd_L_law_157 : decode nc_L_law 157 = .ok (.iaload, 1) := by decide +kernel
theorem nd_L_law_158 : decode nc_L_law 158 = .ok (.aload_n 0, 1) := by decide +kernel
theorem nd_L_law_159 : decode nc_L_law 159 = .ok (.iload_n 3, 1) := by decide +kernel
theorem nd_L_law_160 : decode nc_L_law 160 = .ok (.iconst 2, 1) := by decide +kernel
theorem nd_L_law_161 : decode nc_L_law 161 = .ok (.iadd, 1) := by decide +kernel
theorem nd_L_law_162 : decode nc_L_law 162 = .ok (.iaload, 1) := by decide +kernel
theorem nd_L_law_163 : decode nc_L_law 163 = .ok (.aload_n 0, 1) := by decide +kernel
theorem nd_L_law_164 : decode nc_L_law 164 = .ok (.iload_n 3, 1) := by decide +kernel
theorem nd_L_law_165 : decode nc_L_law 165 = .ok (.iconst 3, 1) := by decide +kernel
theorem nd_L_law_166 : decode nc_L_law 166 = .ok (.iadd, 1) := by decide +kernel
theorem nd_L_law_167 : decode nc_L_law 167 = .ok (.iaload, 1) := by decide +kernel
theorem nd_L_law_168 : decode nc_L_law 168 = .ok (.aload_n 0, 1) := by decide +kernel
theorem nd_L_law_169 : decode nc_L_law 169 = .ok (.iload_n 3, 1) := by decide +kernel
theorem nd_L_law_170 : decode nc_L_law 170 = .ok (.iconst 4, 1) := by decide +kernel
theorem nd_L_law_171 : decode nc_L_law 171 = .ok (.iadd, 1) := by decide +kernel
theorem nd_L_law_172 : decode nc_L_law 172 = .ok (.iaload, 1) := by decide +kernel
theorem nd_L_law_173 : decode nc_L_law 173 = .ok (.invokevirtual 17, 3) := by decide +kernel
theorem nd_L_law_176 : decode nc_L_law 176 = .ok (.if_icmp .eq 516, 3) := by decide +kernel
theorem nd_L_law_179 : decode nc_L_law 179 = .ok (.iconst 0, 1) := by decide +kernel
theorem nd_L_law_180 : decode nc_L_law 180 = .ok (.ireturn, 1) := by decide +kernel
theorem nd_L_law_181 : decode nc_L_law 181 = .ok (.aload_n 1, 1) := by decide +kernel
theorem nd_L_law_182 : decode nc_L_law 182 = .ok (.aload_n 0, 1) := by decide +kernel
theorem nd_L_law_183 : decode nc_L_law 183 = .ok (.iload_n 3, 1) := by decide +kernel
theorem nd_L_law_184 : decode nc_L_law 184 = .ok (.iconst 1, 1) := by decide +kernel
theorem nd_L_law_185 : decode nc_L_law 185 = .ok (.iadd, 1) := by decide +kernel
theorem nd_L_law_186 : decode nc_L_law 186 = .ok (.iaload, 1) := by decide +kernel
theorem nd_L_law_187 : decode nc_L_law 187 = .ok (.aload_n 0, 1) := by decide +kernel
theorem nd_L_law_188 : decode nc_L_law 188 = .ok (.iload_n 3, 1) := by decide +kernel
theorem nd_L_law_189 : decode nc_L_law 189 = .ok (.iconst 2, 1) := by decide +kernel
theorem nd_L_law_190 : decode nc_L_law 190 = .ok (.iadd, 1) := by decide +kernel
theorem nd_L_law_191 : decode nc_L_law 191 = .ok (.iaload, 1) := by decide +kernel
theorem nd_L_law_192 : decode nc_L_law 192 = .ok (.aload_n 0, 1) := by decide +kernel
theorem nd_L_law_193 : decode nc_L_law 193 = .ok (.iload_n 3, 1) := by decide +kernel
theorem nd_L_law_194 : decode nc_L_law 194 = .ok (.iconst 3, 1) := by decide +kernel
theorem nd_L_law_195 : decode nc_L_law 195 = .ok (.iadd, 1) := by decide +kernel
theorem nd_L_law_196 : decode nc_L_law 196 = .ok (.iaload, 1) := by decide +kernel
theorem nd_L_law_197 : decode nc_L_law 197 = .ok (.invokevirtual 18, 3) := by decide +kernel
theorem nd_L_law_200 : decode nc_L_law 200 = .ok (.aload_n 2, 1) := by decide +kernel
theorem nd_L_law_201 : decode nc_L_law 201 = .ok (.aload_n 0, 1) := by decide +kernel
theorem nd_L_law_202 : decode nc_L_law 202 = .ok (.iload_n 3, 1) := by decide +kernel
theorem nd_L_law_203 : decode nc_L_law 203 = .ok (.iconst 1, 1) := by decide +kernel
theorem nd_L_law_204 : decode nc_L_law 204 = .ok (.iadd, 1) := by decide +kernel
theorem nd_L_law_205 : decode nc_L_law 205 = .ok (.iaload, 1) := by decide +kernel
theorem nd_L_law_206 : decode nc_L_law 206 = .ok (.aload_n 0, 1) := by decide +kernel
theorem nd_L_law_207 : decode nc_L_law 207 = .ok (.iload_n 3, 1) := by decide +kernel
theorem nd_L_law_208 : decode nc_L_law 208 = .ok (.iconst 2, 1) := by decide +kernel
theorem nd_L_law_209 : decode nc_L_law 209 = .ok (.iadd, 1) := by decide +kernel
theorem nd_L_law_210 : decode nc_L_law 210 = .ok (.iaload, 1) := by decide +kernel
theorem nd_L_law_211 : decode nc_L_law 211 = .ok (.aload_n 0, 1) := by decide +kernel
theorem nd_L_law_212 : decode nc_L_law 212 = .ok (.iload_n 3, 1) := by decide +kernel
theorem nd_L_law_213 : decode nc_L_law 213 = .ok (.iconst 3, 1) := by decide +kernel
theorem nd_L_law_214 : decode nc_L_law 214 = .ok (.iadd, 1) := by decide +kernel
theorem nd_L_law_215 : decode nc_L_law 215 = .ok (.iaload, 1) := by decide +kernel
theorem nd_L_law_216 : decode nc_L_law 216 = .ok (.invokevirtual 22, 3) := by decide +kernel
theorem nd_L_law_219 : decode nc_L_law 219 = .ok (.if_icmp .eq 473, 3) := by decide +kernel
theorem nd_L_law_222 : decode nc_L_law 222 = .ok (.iconst 0, 1) := by decide +kernel
theorem nd_L_law_223 : decode nc_L_law 223 = .ok (.ireturn, 1) := by decide +kernel
theorem nd_L_law_224 : decode nc_L_law 224 = .ok (.aload_n 1, 1) := by decide +kernel
theorem nd_L_law_225 : decode nc_L_law 225 = .ok (.aload_n 0, 1) := by decide +kernel
theorem nd_L_law_226 : decode nc_L_law 226 = .ok (.iload_n 3, 1) := by decide +kernel
theorem nd_L_law_227 : decode nc_L_law 227 = .ok (.iconst 1, 1) := by decide +kernel
theorem nd_L_law_228 : decode nc_L_law 228 = .ok (.iadd, 1) := by decide +kernel
theorem nd_L_law_229 : decode nc_L_law 229 = .ok (.iaload, 1) := by decide +kernel
theorem nd_L_law_230 : decode nc_L_law 230 = .ok (.aload_n 0, 1) := by decide +kernel
theorem nd_L_law_231 : decode nc_L_law 231 = .ok (.iload_n 3, 1) := by decide +kernel
theorem nd_L_law_232 : decode nc_L_law 232 = .ok (.iconst 2, 1) := by decide +kernel
theorem nd_L_law_233 : decode nc_L_law 233 = .ok (.iadd, 1) := by decide +kernel
theorem nd_L_law_234 : decode nc_L_law 234 = .ok (.iaload, 1) := by decide +kernel
theorem nd_L_law_235 : decode nc_L_law 235 = .ok (.invokevirtual 23, 3) := by decide +kernel
theorem nd_L_law_238 : decode nc_L_law 238 = .ok (.aload_n 2, 1) := by decide +kernel
theorem nd_L_law_239 : decode nc_L_law 239 = .ok (.aload_n 0, 1) := by decide +kernel
theorem nd_L_law_240 : decode nc_L_law 240 = .ok (.iload_n 3, 1) := by decide +kernel
theorem nd_L_law_241 : decode nc_L_law 241 = .ok (.iconst 1, 1) := by decide +kernel
theorem nd_L_law_242 : decode nc_L_law 242 = .ok (.iadd, 1) := by decide +kernel
theorem nd_L_law_243 : decode nc_L_law 243 = .ok (.iaload, 1) := by decide +kernel
theorem nd_L_law_244 : decode nc_L_law 244 = .ok (.aload_n 0, 1) := by decide +kernel
theorem nd_L_law_245 : decode nc_L_law 245 = .ok (.iload_n 3, 1) := by decide +kernel
theorem nd_L_law_246 : decode nc_L_law 246 = .ok (.iconst 2, 1) := by decide +kernel
theorem nd_L_law_247 : decode nc_L_law 247 = .ok (.iadd, 1) := by decide +kernel
theorem nd_L_law_248 : decode nc_L_law 248 = .ok (.iaload, 1) := by decide +kernel
theorem nd_L_law_249 : decode nc_L_law 249 = .ok (.invokevirtual 27, 3) := by decide +kernel
theorem nd_L_law_252 : decode nc_L_law 252 = .ok (.if_icmp .eq 440, 3) := by decide +kernel
theorem nd_L_law_255 : decode nc_L_law 255 = .ok (.iconst 0, 1) := by decide +kernel
theorem nd_L_law_256 : decode nc_L_law 256 = .ok (.ireturn, 1) := by decide +kernel
theorem nd_L_law_257 : decode nc_L_law 257 = .ok (.aload_n 1, 1) := by decide +kernel
theorem nd_L_law_258 : decode nc_L_law 258 = .ok (.aload_n 0, 1) := by decide +kernel
theorem nd_L_law_259 : decode nc_L_law 259 = .ok (.iload_n 3, 1) := by decide +kernel
theorem nd_L_law_260 : decode nc_L_law 260 = .ok (.iconst 1, 1) := by decide +kernel
theorem nd_L_law_261 : decode nc_L_law 261 = .ok (.iadd, 1) := by decide +kernel
theorem nd_L_law_262 : decode nc_L_law 262 = .ok (.iaload, 1) := by decide +kernel
theorem nd_L_law_263 : decode nc_L_law 263 = .ok (.invokevirtual 28, 3) := by decide +kernel
theorem nd_L_law_266 : decode nc_L_law 266 = .ok (.aload_n 2, 1) := by decide +kernel
theorem nd_L_law_267 : decode nc_L_law 267 = .ok (.aload_n 0, 1) := by decide +kernel
theorem nd_L_law_268 : decode nc_L_law 268 = .ok (.iload_n 3, 1) := by decide +kernel
theorem nd_L_law_269 : decode nc_L_law 269 = .ok (.iconst 1, 1) := by decide +kernel
theorem nd_L_law_270 : decode nc_L_law 270 = .ok (.iadd, 1) := by decide +kernel
theorem nd_L_law_271 : decode nc_L_law 271 = .ok (.iaload, 1) := by decide +kernel
theorem nd_L_law_272 : decode nc_L_law 272 = .ok (.invokevirtual 32, 3) := by decide +kernel
theorem nd_L_law_275 : decode nc_L_law 275 = .ok (.if_icmp .eq 417, 3) := by decide +kernel
theorem nd_L_law_278 : decode nc_L_law 278 = .ok (.iconst 0, 1) := by decide +kernel
theorem nd_L_law_279 : decode nc_L_law 279 = .ok (.ireturn, 1) := by decide +kernel
theorem nd_L_law_280 : decode nc_L_law 280 = .ok (.aload_n 1, 1) := by decide +kernel
theorem nd_L_law_281 : decode nc_L_law 281 = .ok (.aload_n 0, 1) := by decide +kernel
theorem nd_L_law_282 : decode nc_L_law 282 = .ok (.iload_n 3, 1) := by decide +kernel
theorem nd_L_law_283 : decode nc_L_law 283 = .ok (.iconst 1, 1) := by decide +kernel
theorem nd_L_law_284 : decode nc_L_law 284 = .ok (.iadd, 1) := by decide +kernel
theorem nd_L_law_285 : decode nc_L_law 285 = .ok (.iaload, 1) := by decide +kernel
theorem nd_L_law_286 : decode nc_L_law 286 = .ok (.aload_n 0, 1) := by decide +kernel
theorem nd_L_law_287 : decode nc_L_law 287 = .ok (.iload_n 3, 1) := by decide +kernel
theorem nd_L_law_288 : decode nc_L_law 288 = .ok (.iconst 2, 1) := by decide +kernel
theorem nd_L_law_289 : decode nc_L_law 289 = .ok (.iadd, 1) := by decide +kernel
theorem nd_L_law_290 : decode nc_L_law 290 = .ok (.iaload, 1) := by decide +kernel
theorem nd_L_law_291 : decode nc_L_law 291 = .ok (.aload_n 0, 1) := by decide +kernel
theorem nd_L_law_292 : decode nc_L_law 292 = .ok (.iload_n 3, 1) := by decide +kernel
theorem nd_L_law_293 : decode nc_L_law 293 = .ok (.iconst 3, 1) := by decide +kernel
theorem nd_L_law_294 : decode nc_L_law 294 = .ok (.iadd, 1) := by decide +kernel
theorem nd_L_law_295 : decode nc_L_law 295 = .ok (.iaload, 1) := by decide +kernel
theorem nd_L_law_296 : decode nc_L_law 296 = .ok (.invokevirtual 33, 3) := by decide +kernel
theorem nd_L_law_299 : decode nc_L_law 299 = .ok (.aload_n 2, 1) := by decide +kernel
theorem nd_L_law_300 : decode nc_L_law 300 = .ok (.aload_n 0, 1) := by decide +kernel
theorem nd_L_law_301 : decode nc_L_law 301 = .ok (.iload_n 3, 1) := by decide +kernel
theorem nd_L_law_302 : decode nc_L_law 302 = .ok (.iconst 1, 1) := by decide +kernel
theorem nd_L_law_303 : decode nc_L_law 303 = .ok (.iadd, 1) := by decide +kernel
theorem nd_L_law_304 : decode nc_L_law 304 = .ok (.iaload, 1) := by decide +kernel
theorem nd_L_law_305 : decode nc_L_law 305 = .ok (.aload_n 0, 1) := by decide +kernel
theorem nd_L_law_306 : decode nc_L_law 306 = .ok (.iload_n 3, 1) := by decide +kernel
theorem nd_L_law_307 : decode nc_L_law 307 = .ok (.iconst 2, 1) := by decide +kernel
theorem nd_L_law_308 : decode nc_L_law 308 = .ok (.iadd, 1) := by decide +kernel
theorem nd_L_law_309 : decode nc_L_law 309 = .ok (.iaload, 1) := by decide +kernel
theorem nd_L_law_310 : decode nc_L_law 310 = .ok (.aload_n 0, 1) := by decide +kernel
theorem nd_L_law_311 : decode nc_L_law 311 = .ok (.iload_n 3, 1) := by decide +kernel
theorem nd_L_law_312 : decode nc_L_law 312 = .ok (.iconst 3, 1) := by decide +kernel
theorem nd_L_law_313 : decode nc_L_law 313 = .ok (.iadd, 1) := by decide +kernel
theorem nd_L_law_314 : decode nc_L_law 314 = .ok (.iaload, 1) := by decide +kernel
theorem nd_L_law_315 : decode nc_L_law 315 = .ok (.invokevirtual 36, 3) := by decide +kernel
theorem nd_L_law_318 : decode nc_L_law 318 = .ok (.if_icmp .eq 374, 3) := by decide +kernel
theorem nd_L_law_321 : decode nc_L_law 321 = .ok (.iconst 0, 1) := by decide +kernel
theorem nd_L_law_322 : decode nc_L_law 322 = .ok (.ireturn, 1) := by decide +kernel
theorem nd_L_law_323 : decode nc_L_law 323 = .ok (.aload_n 1, 1) := by decide +kernel
theorem nd_L_law_324 : decode nc_L_law 324 = .ok (.aload_n 0, 1) := by decide +kernel
theorem nd_L_law_325 : decode nc_L_law 325 = .ok (.iload_n 3, 1) := by decide +kernel
theorem nd_L_law_326 : decode nc_L_law 326 = .ok (.iconst 1, 1) := by decide +kernel
theorem nd_L_law_327 : decode nc_L_law 327 = .ok (.iadd, 1) := by decide +kernel
theorem nd_L_law_328 : decode nc_L_law 328 = .ok (.iaload, 1) := by decide +kernel
theorem nd_L_law_329 : decode nc_L_law 329 = .ok (.aload_n 0, 1) := by decide +kernel
theorem nd_L_law_330 : decode nc_L_law 330 = .ok (.iload_n 3, 1) := by decide +kernel
theorem nd_L_law_331 : decode nc_L_law 331 = .ok (.iconst 2, 1) := by decide +kernel
theorem nd_L_law_332 : decode nc_L_law 332 = .ok (.iadd, 1) := by decide +kernel
theorem nd_L_law_333 : decode nc_L_law 333 = .ok (.iaload, 1) := by decide +kernel
theorem nd_L_law_334 : decode nc_L_law 334 = .ok (.aload_n 0, 1) := by decide +kernel
theorem nd_L_law_335 : decode nc_L_law 335 = .ok (.iload_n 3, 1) := by decide +kernel
theorem nd_L_law_336 : decode nc_L_law 336 = .ok (.iconst 3, 1) := by decide +kernel
theorem nd_L_law_337 : decode nc_L_law 337 = .ok (.iadd, 1) := by decide +kernel
theorem nd_L_law_338 : decode nc_L_law 338 = .ok (.iaload, 1) := by decide +kernel
theorem nd_L_law_339 : decode nc_L_law 339 = .ok (.aload_n 0, 1) := by decide +kernel
theorem nd_L_law_340 : decode nc_L_law 340 = .ok (.iload_n 3, 1) := by decide +kernel
theorem nd_L_law_341 : decode nc_L_law 341 = .ok (.iconst 4, 1) := by decide +kernel
theorem nd_L_law_342 : decode nc_L_law 342 = .ok (.iadd, 1) := by decide +kernel
theorem nd_L_law_343 : decode nc_L_law 343 = .ok (.iaload, 1) := by decide +kernel
theorem nd_L_law_344 : decode nc_L_law 344 = .ok (.invokevirtual 37, 3) := by decide +kernel
theorem nd_L_law_347 : decode nc_L_law 347 = .ok (.aload_n 2, 1) := by decide +kernel
theorem nd_L_law_348 : decode nc_L_law 348 = .ok (.aload_n 0, 1) := by decide +kernel
theorem nd_L_law_349 : decode nc_L_law 349 = .ok (.iload_n 3, 1) := by decide +kernel
theorem nd_L_law_350 : decode nc_L_law 350 = .ok (.iconst 1, 1) := by decide +kernel
theorem nd_L_law_351 : decode nc_L_law 351 = .ok (.iadd, 1) := by decide +kernel
theorem nd_L_law_352 : decode nc_L_law 352 = .ok (.iaload, 1) := by decide +kernel
theorem nd_L_law_353 : decode nc_L_law 353 = .ok (.aload_n 0, 1) := by decide +kernel
theorem nd_L_law_354 : decode nc_L_law 354 = .ok (.iload_n 3, 1) := by decide +kernel
theorem nd_L_law_355 : decode nc_L_law 355 = .ok (.iconst 2, 1) := by decide +kernel
theorem nd_L_law_356 : decode nc_L_law 356 = .ok (.iadd, 1) := by decide +kernel
theorem nd_L_law_357 : decode nc_L_law 357 = .ok (.iaload, 1) := by decide +kernel
theorem nd_L_law_358 : decode nc_L_law 358 = .ok (.aload_n 0, 1) := by decide +kernel
theorem nd_L_law_359 : decode nc_L_law 359 = .ok (.iload_n 3, 1) := by decide +kernel
theorem nd_L_law_360 : decode nc_L_law 360 = .ok (.iconst 3, 1) := by decide +kernel
theorem nd_L_law_361 : decode nc_L_law 361 = .ok (.iadd, 1) := by decide +kernel
theorem nd_L_law_362 : decode nc_L_law 362 = .ok (.iaload, 1) := by decide +kernel
theorem nd_L_law_363 : decode nc_L_law 363 = .ok (.aload_n 0, 1) := by decide +kernel
theorem nd_L_law_364 : decode nc_L_law 364 = .ok (.iload_n 3, 1) := by decide +kernel
theorem nd_L_law_365 : decode nc_L_law 365 = .ok (.iconst 4, 1) := by decide +kernel
theorem nd_L_law_366 : decode nc_L_law 366 = .ok (.iadd, 1) := by decide +kernel
theorem nd_L_law_367 : decode nc_L_law 367 = .ok (.iaload, 1) := by decide +kernel
theorem nd_L_law_368 : decode nc_L_law 368 = .ok (.invokevirtual 40, 3) := by decide +kernel
theorem nd_L_law_371 : decode nc_L_law 371 = .ok (.if_icmp .eq 321, 3) := by decide +kernel
theorem nd_L_law_374 : decode nc_L_law 374 = .ok (.iconst 0, 1) := by decide +kernel
theorem nd_L_law_375 : decode nc_L_law 375 = .ok (.ireturn, 1) := by decide +kernel
theorem nd_L_law_376 : decode nc_L_law 376 = .ok (.aload_n 1, 1) := by decide +kernel
theorem nd_L_law_377 : decode nc_L_law 377 = .ok (.aload_n 0, 1) := by decide +kernel
theorem nd_L_law_378 : decode nc_L_law 378 = .ok (.iload_n 3, 1) := by decide +kernel
theorem nd_L_law_379 : decode nc_L_law 379 = .ok (.iconst 1, 1) := by decide +kernel
theorem nd_L_law_380 : decode nc_L_law 380 = .ok (.iadd, 1) := by decide +kernel
theorem nd_L_law_381 : decode nc_L_law 381 = .ok (.iaload, 1) := by decide +kernel
theorem nd_L_law_382 : decode nc_L_law 382 = .ok (.invokevirtual 41, 3) := by decide +kernel
theorem nd_L_law_385 : decode nc_L_law 385 = .ok (.aload_n 2, 1) := by decide +kernel
theorem nd_L_law_386 : decode nc_L_law 386 = .ok (.aload_n 0, 1) := by decide +kernel
theorem nd_L_law_387 : decode nc_L_law 387 = .ok (.iload_n 3, 1) := by decide +kernel
theorem nd_L_law_388 : decode nc_L_law 388 = .ok (.iconst 1, 1) := by decide +kernel
theorem nd_L_law_389 : decode nc_L_law 389 = .ok (.iadd, 1) := by decide +kernel
theorem nd_L_law_390 : decode nc_L_law 390 = .ok (.iaload, 1) := by decide +kernel
theorem nd_L_law_391 : decode nc_L_law 391 = .ok (.invokevirtual 44, 3) := by decide +kernel
theorem nd_L_law_394 : decode nc_L_law 394 = .ok (.if_icmp .eq 298, 3) := by decide +kernel
theorem nd_L_law_397 : decode nc_L_law 397 = .ok (.iconst 0, 1) := by decide +kernel
theorem nd_L_law_398 : decode nc_L_law 398 = .ok (.ireturn, 1) := by decide +kernel
theorem nd_L_law_399 : decode nc_L_law 399 = .ok (.aload_n 1, 1) := by decide +kernel
theorem nd_L_law_400 : decode nc_L_law 400 = .ok (.aload_n 0, 1) := by decide +kernel
theorem nd_L_law_401 : decode nc_L_law 401 = .ok (.iload_n 3, 1) := by decide +kernel
theorem nd_L_law_402 : decode nc_L_law 402 = .ok (.iconst 1, 1) := by decide +kernel
theorem nd_L_law_403 : decode nc_L_law 403 = .ok (.iadd, 1) := by decide +kernel
theorem nd_L_law_404 : decode nc_L_law 404 = .ok (.iaload, 1) := by decide +kernel
theorem nd_L_law_405 : decode nc_L_law 405 = .ok (.invokevirtual 45, 3) := by decide +kernel
theorem nd_L_law_408 : decode nc_L_law 408 = .ok (.aload_n 2, 1) := by decide +kernel
theorem nd_L_law_409 : decode nc_L_law 409 = .ok (.aload_n 0, 1) := by decide +kernel
theorem nd_L_law_410 : decode nc_L_law 410 = .ok (.iload_n 3, 1) := by decide +kernel
theorem nd_L_law_411 : decode nc_L_law 411 = .ok (.iconst 1, 1) := by decide +kernel
theorem nd_L_law_412 : decode nc_L_law 412 = .ok (.iadd, 1) := by decide +kernel
theorem nd_L_law_413 : decode nc_L_law 413 = .ok (.iaload, 1) := by decide +kernel
theorem nd_L_law_414 : decode nc_L_law 414 = .ok (.invokevirtual 48, 3) := by decide +kernel
theorem nd_L_law_417 : decode nc_L_law 417 = .ok (.if_icmp .eq 275, 3) := by decide +kernel
theorem nd_L_law_420 : decode nc_L_law 420 = .ok (.iconst 0, 1) := by decide +kernel
theorem nd_L_law_421 : decode nc_L_law 421 = .ok (.ireturn, 1) := by decide +kernel
theorem nd_L_law_422 : decode nc_L_law 422 = .ok (.aload_n 1, 1) := by decide +kernel
theorem nd_L_law_423 : decode nc_L_law 423 = .ok (.aload_n 0, 1) := by decide +kernel
theorem nd_L_law_424 : decode nc_L_law 424 = .ok (.iload_n 3, 1) := by decide +kernel
theorem nd_L_law_425 : decode nc_L_law 425 = .ok (.iconst 1, 1) := by decide +kernel
theorem nd_L_law_426 : decode nc_L_law 426 = .ok (.iadd, 1) := by decide +kernel
theorem nd_L_law_427 : decode nc_L_law 427 = .ok (.iaload, 1) := by decide +kernel
theorem nd_L_law_428 : decode nc_L_law 428 = .ok (.invokevirtual 49, 3) := by decide +kernel
theorem nd_L_law_431 : decode nc_L_law 431 = .ok (.aload_n 2, 1) := by decide +kernel
theorem nd_L_law_432 : decode nc_L_law 432 = .ok (.aload_n 0, 1) := by decide +kernel
theorem nd_L_law_433 : decode nc_L_law 433 = .ok (.iload_n 3, 1) := by decide +kernel
theorem nd_L_law_434 : decode nc_L_law 434 = .ok (.iconst 1, 1) := by decide +kernel
theorem nd_L_law_435 : decode nc_L_law 435 = .ok (.iadd, 1) := by decide +kernel
theorem nd_L_law_436 : decode nc_L_law 436 = .ok (.iaload, 1) := by decide +kernel
theorem nd_L_law_437 : decode nc_L_law 437 = .ok (.invokevirtual 53, 3) := by decide +kernel
theorem nd_L_law_440 : decode nc_L_law 440 = .ok (.if_icmp .eq 252, 3) := by decide +kernel
theorem nd_L_law_443 : decode nc_L_law 443 = .ok (.iconst 0, 1) := by decide +kernel
theorem nd_L_law_444 : decode nc_L_law 444 = .ok (.ireturn, 1) := by decide +kernel
theorem nd_L_law_445 : decode nc_L_law 445 = .ok (.aload_n 1, 1) := by decide +kernel
theorem nd_L_law_446 : decode nc_L_law 446 = .ok (.invokevirtual 54, 3) := by decide +kernel
theorem nd_L_law_449 : decode nc_L_law 449 = .ok (.aload_n 2, 1) := by decide +kernel
theorem nd_L_law_450 : decode nc_L_law 450 = .ok (.invokevirtual 58, 3) := by decide +kernel
theorem nd_L_law_453 : decode nc_L_law 453 = .ok (.if_icmp .eq 239, 3) := by decide +kernel
theorem nd_L_law_456 : decode nc_L_law 456 = .ok (.iconst 0, 1) := by decide +kernel
theorem nd_L_law_457 : decode nc_L_law 457 = .ok (.ireturn, 1) := by decide +kernel
theorem nd_L_law_458 : decode nc_L_law 458 = .ok (.aload_n 1, 1) := by decide +kernel
theorem nd_L_law_459 : decode nc_L_law 459 = .ok (.aload_n 0, 1) := by decide +kernel
theorem nd_L_law_460 : decode nc_L_law 460 = .ok (.iload_n 3, 1) := by decide +kernel
theorem nd_L_law_461 : decode nc_L_law 461 = .ok (.iconst 1, 1) := by decide +kernel
theorem nd_L_law_462 : decode nc_L_law 462 = .ok (.iadd, 1) := by decide +kernel
theorem nd_L_law_463 : decode nc_L_law 463 = .ok (.iaload, 1) := by decide +kernel
theorem nd_L_law_464 : decode nc_L_law 464 = .ok (.invokevirtual 59, 3) := by decide +kernel
theorem nd_L_law_467 : decode nc_L_law 467 = .ok (.aload_n 2, 1) := by decide +kernel
theorem nd_L_law_468 : decode nc_L_law 468 = .ok (.aload_n 0, 1) := by decide +kernel
theorem nd_L_law_469 : decode nc_L_law 469 = .ok (.iload_n 3, 1) := by decide +kernel
theorem nd_L_law_470 : decode nc_L_law 470 = .ok (.iconst 1, 1) := by decide +kernel
theorem nd_L_law_471 : decode nc_L_law 471 = .ok (.iadd, 1) := by decide +kernel
theorem nd_L_law_472 : decode nc_L_law 472 = .ok (.iaload, 1) := by decide +kernel
theorem nd_L_law_473 : decode nc_L_law 473 = .ok (.invokevirtual 63, 3) := by decide +kernel
theorem nd_L_law_476 : decode nc_L_law 476 = .ok (.lcmp, 1) := by decide +kernel
theorem nd_L_law_477 : decode nc_L_law 477 = .ok (.ifCond .eq 215, 3) := by decide +kernel
theorem nd_L_law_480 : decode nc_L_law 480 = .ok (.iconst 0, 1) := by decide +kernel
theorem nd_L_law_481 : decode nc_L_law 481 = .ok (.ireturn, 1) := by decide +kernel
theorem nd_L_law_482 : decode nc_L_law 482 = .ok (.aload_n 1, 1) := by decide +kernel
theorem nd_L_law_483 : decode nc_L_law 483 = .ok (.aload_n 0, 1) := by decide +kernel
theorem nd_L_law_484 : decode nc_L_law 484 = .ok (.iload_n 3, 1) := by decide +kernel
theorem nd_L_law_485 : decode nc_L_law 485 = .ok (.iconst 1, 1) := by decide +kernel
theorem nd_L_law_486 : decode nc_L_law 486 = .ok (.iadd, 1) := by decide +kernel
theorem nd_L_law_487 : decode nc_L_law 487 = .ok (.iaload, 1) := by decide +kernel
theorem nd_L_law_488 : decode nc_L_law 488 = .ok (.invokevirtual 64, 3) := by decide +kernel
theorem nd_L_law_491 : decode nc_L_law 491 = .ok (.aload_n 2, 1) := by decide +kernel
theorem nd_L_law_492 : decode nc_L_law 492 = .ok (.aload_n 0, 1) := by decide +kernel
theorem nd_L_law_493 : decode nc_L_law 493 = .ok (.iload_n 3, 1) := by decide +kernel
theorem nd_L_law_494 : decode nc_L_law 494 = .ok (.iconst 1, 1) := by decide +kernel
theorem nd_L_law_495 : decode nc_L_law 495 = .ok (.iadd, 1) := by decide +kernel
theorem nd_L_law_496 : decode nc_L_law 496 = .ok (.iaload, 1) := by decide +kernel
theorem nd_L_law_497 : decode nc_L_law 497 = .ok (.invokevirtual 67, 3) := by decide +kernel
theorem nd_L_law_500 : decode nc_L_law 500 = .ok (.lcmp, 1) := by decide +kernel
theorem nd_L_law_501 : decode nc_L_law 501 = .ok (.ifCond .eq 191, 3) := by decide +kernel
theorem nd_L_law_504 : decode nc_L_law 504 = .ok (.iconst 0, 1) := by decide +kernel
theorem nd_L_law_505 : decode nc_L_law 505 = .ok (.ireturn, 1) := by decide +kernel
theorem nd_L_law_506 : decode nc_L_law 506 = .ok (.aload_n 1, 1) := by decide +kernel
theorem nd_L_law_507 : decode nc_L_law 507 = .ok (.aload_n 0, 1) := by decide +kernel
theorem nd_L_law_508 : decode nc_L_law 508 = .ok (.iload_n 3, 1) := by decide +kernel
theorem nd_L_law_509 : decode nc_L_law 509 = .ok (.iconst 1, 1) := by decide +kernel
theorem nd_L_law_510 : decode nc_L_law 510 = .ok (.iadd, 1) := by decide +kernel
theorem nd_L_law_511 : decode nc_L_law 511 = .ok (.iaload, 1) := by decide +kernel
theorem nd_L_law_512 : decode nc_L_law 512 = .ok (.invokevirtual 68, 3) := by decide +kernel
theorem nd_L_law_515 : decode nc_L_law 515 = .ok (.aload_n 2, 1) := by decide +kernel
theorem nd_L_law_516 : decode nc_L_law 516 = .ok (.aload_n 0, 1) := by decide +kernel
theorem nd_L_law_517 : decode nc_L_law 517 = .ok (.iload_n 3, 1) := by decide +kernel
theorem nd_L_law_518 : decode nc_L_law 518 = .ok (.iconst 1, 1) := by decide +kernel
theorem nd_L_law_519 : decode nc_L_law 519 = .ok (.iadd, 1) := by decide +kernel
theorem nd_L_law_520 : decode nc_L_law 520 = .ok (.iaload, 1) := by decide +kernel
theorem nd_L_law_521 : decode nc_L_law 521 = .ok (.invokevirtual 71, 3) := by decide +kernel
theorem nd_L_law_524 : decode nc_L_law 524 = .ok (.lcmp, 1) := by decide +kernel
theorem nd_L_law_525 : decode nc_L_law 525 = .ok (.ifCond .eq 167, 3) := by decide +kernel
theorem nd_L_law_528 : decode nc_L_law 528 = .ok (.iconst 0, 1) := by decide +kernel
theorem nd_L_law_529 : decode nc_L_law 529 = .ok (.ireturn, 1) := by decide +kernel
theorem nd_L_law_530 : decode nc_L_law 530 = .ok (.aload_n 1, 1) := by decide +kernel
theorem nd_L_law_531 : decode nc_L_law 531 = .ok (.aload_n 0, 1) := by decide +kernel
theorem nd_L_law_532 : decode nc_L_law 532 = .ok (.iload_n 3, 1) := by decide +kernel
theorem nd_L_law_533 : decode nc_L_law 533 = .ok (.iconst 1, 1) := by decide +kernel
theorem nd_L_law_534 : decode nc_L_law 534 = .ok (.iadd, 1) := by decide +kernel
theorem nd_L_law_535 : decode nc_L_law 535 = .ok (.iaload, 1) := by decide +kernel
theorem nd_L_law_536 : decode nc_L_law 536 = .ok (.invokevirtual 72, 3) := by decide +kernel
theorem nd_L_law_539 : decode nc_L_law 539 = .ok (.aload_n 2, 1) := by decide +kernel
theorem nd_L_law_540 : decode nc_L_law 540 = .ok (.aload_n 0, 1) := by decide +kernel
theorem nd_L_law_541 : decode nc_L_law 541 = .ok (.iload_n 3, 1) := by decide +kernel
theorem nd_L_law_542 : decode nc_L_law 542 = .ok (.iconst 1, 1) := by decide +kernel
theorem nd_L_law_543 : decode nc_L_law 543 = .ok (.iadd, 1) := by decide +kernel
theorem nd_L_law_544 : decode nc_L_law 544 = .ok (.iaload, 1) := by decide +kernel
theorem nd_L_law_545 : decode nc_L_law 545 = .ok (.invokevirtual 75, 3) := by decide +kernel
theorem nd_L_law_548 : decode nc_L_law 548 = .ok (.if_icmp .eq 144, 3) := by decide +kernel
theorem nd_L_law_551 : decode nc_L_law 551 = .ok (.iconst 0, 1) := by decide +kernel
theorem nd_L_law_552 : decode nc_L_law 552 = .ok (.ireturn, 1) := by decide +kernel
theorem nd_L_law_553 : decode nc_L_law 553 = .ok (.aload_n 1, 1) := by decide +kernel
theorem nd_L_law_554 : decode nc_L_law 554 = .ok (.aload_n 0, 1) := by decide +kernel
theorem nd_L_law_555 : decode nc_L_law 555 = .ok (.iload_n 3, 1) := by decide +kernel
theorem nd_L_law_556 : decode nc_L_law 556 = .ok (.iconst 1, 1) := by decide +kernel
theorem nd_L_law_557 : decode nc_L_law 557 = .ok (.iadd, 1) := by decide +kernel
theorem nd_L_law_558 : decode nc_L_law 558 = .ok (.iaload, 1) := by decide +kernel
theorem nd_L_law_559 : decode nc_L_law 559 = .ok (.aload_n 0, 1) := by decide +kernel
theorem nd_L_law_560 : decode nc_L_law 560 = .ok (.iload_n 3, 1) := by decide +kernel
theorem nd_L_law_561 : decode nc_L_law 561 = .ok (.iconst 2, 1) := by decide +kernel
theorem nd_L_law_562 : decode nc_L_law 562 = .ok (.iadd, 1) := by decide +kernel
theorem nd_L_law_563 : decode nc_L_law 563 = .ok (.iaload, 1) := by decide +kernel
theorem nd_L_law_564 : decode nc_L_law 564 = .ok (.invokevirtual 76, 3) := by decide +kernel
theorem nd_L_law_567 : decode nc_L_law 567 = .ok (.aload_n 2, 1) := by decide +kernel
theorem nd_L_law_568 : decode nc_L_law 568 = .ok (.aload_n 0, 1) := by decide +kernel
theorem nd_L_law_569 : decode nc_L_law 569 = .ok (.iload_n 3, 1) := by decide +kernel
theorem nd_L_law_570 : decode nc_L_law 570 = .ok (.iconst 1, 1) := by decide +kernel
theorem nd_L_law_571 : decode nc_L_law 571 = .ok (.iadd, 1) := by decide +kernel
theorem nd_L_law_572 : decode nc_L_law 572 = .ok (.iaload, 1) := by decide +kernel
theorem nd_L_law_573 : decode nc_L_law 573 = .ok (.aload_n 0, 1) := by decide +kernel
theorem nd_L_law_574 : decode nc_L_law 574 = .ok (.iload_n 3, 1) := by decide +kernel
theorem nd_L_law_575 : decode nc_L_law 575 = .ok (.iconst 2, 1) := by decide +kernel
theorem nd_L_law_576 : decode nc_L_law 576 = .ok (.iadd, 1) := by decide +kernel
theorem nd_L_law_577 : decode nc_L_law 577 = .ok (.iaload, 1) := by decide +kernel
theorem nd_L_law_578 : decode nc_L_law 578 = .ok (.invokevirtual 80, 3) := by decide +kernel
theorem nd_L_law_581 : decode nc_L_law 581 = .ok (.lcmp, 1) := by decide +kernel
theorem nd_L_law_582 : decode nc_L_law 582 = .ok (.ifCond .eq 110, 3) := by decide +kernel
theorem nd_L_law_585 : decode nc_L_law 585 = .ok (.iconst 0, 1) := by decide +kernel
theorem nd_L_law_586 : decode nc_L_law 586 = .ok (.ireturn, 1) := by decide +kernel
theorem nd_L_law_587 : decode nc_L_law 587 = .ok (.aload_n 1, 1) := by decide +kernel
theorem nd_L_law_588 : decode nc_L_law 588 = .ok (.aload_n 0, 1) := by decide +kernel
theorem nd_L_law_589 : decode nc_L_law 589 = .ok (.iload_n 3, 1) := by decide +kernel
theorem nd_L_law_590 : decode nc_L_law 590 = .ok (.iconst 1, 1) := by decide +kernel
theorem nd_L_law_591 : decode nc_L_law 591 = .ok (.iadd, 1) := by decide +kernel
theorem nd_L_law_592 : decode nc_L_law 592 = .ok (.iaload, 1) := by decide +kernel
theorem nd_L_law_593 : decode nc_L_law 593 = .ok (.invokevirtual 81, 3) := by decide +kernel
theorem nd_L_law_596 : decode nc_L_law 596 = .ok (.aload_n 2, 1) := by decide +kernel
theorem nd_L_law_597 : decode nc_L_law 597 = .ok (.aload_n 0, 1) := by decide +kernel
theorem nd_L_law_598 : decode nc_L_law 598 = .ok (.iload_n 3, 1) := by decide +kernel
theorem nd_L_law_599 : decode nc_L_law 599 = .ok (.iconst 1, 1) := by decide +kernel
theorem nd_L_law_600 : decode nc_L_law 600 = .ok (.iadd, 1) := by decide +kernel
theorem nd_L_law_601 : decode nc_L_law 601 = .ok (.iaload, 1) := by decide +kernel
theorem nd_L_law_602 : decode nc_L_law 602 = .ok (.invokevirtual 84, 3) := by decide +kernel
theorem nd_L_law_605 : decode nc_L_law 605 = .ok (.if_icmp .eq 87, 3) := by decide +kernel
theorem nd_L_law_608 : decode nc_L_law 608 = .ok (.iconst 0, 1) := by decide +kernel
theorem nd_L_law_609 : decode nc_L_law 609 = .ok (.ireturn, 1) := by decide +kernel
theorem nd_L_law_610 : decode nc_L_law 610 = .ok (.aload_n 1, 1) := by decide +kernel
theorem nd_L_law_611 : decode nc_L_law 611 = .ok (.invokevirtual 85, 3) := by decide +kernel
theorem nd_L_law_614 : decode nc_L_law 614 = .ok (.aload_n 2, 1) := by decide +kernel
theorem nd_L_law_615 : decode nc_L_law 615 = .ok (.invokevirtual 88, 3) := by decide +kernel
theorem nd_L_law_618 : decode nc_L_law 618 = .ok (.if_icmp .eq 74, 3) := by decide +kernel
theorem nd_L_law_621 : decode nc_L_law 621 = .ok (.iconst 0, 1) := by decide +kernel
theorem nd_L_law_622 : decode nc_L_law 622 = .ok (.ireturn, 1) := by decide +kernel
theorem nd_L_law_623 : decode nc_L_law 623 = .ok (.aload_n 1, 1) := by decide +kernel
theorem nd_L_law_624 : decode nc_L_law 624 = .ok (.aload_n 0, 1) := by decide +kernel
theorem nd_L_law_625 : decode nc_L_law 625 = .ok (.iload_n 3, 1) := by decide +kernel
theorem nd_L_law_626 : decode nc_L_law 626 = .ok (.iconst 1, 1) := by decide +kernel
theorem nd_L_law_627 : decode nc_L_law 627 = .ok (.iadd, 1) := by decide +kernel
theorem nd_L_law_628 : decode nc_L_law 628 = .ok (.iaload, 1) := by decide +kernel
theorem nd_L_law_629 : decode nc_L_law 629 = .ok (.aload_n 0, 1) := by decide +kernel
theorem nd_L_law_630 : decode nc_L_law 630 = .ok (.iload_n 3, 1) := by decide +kernel
theorem nd_L_law_631 : decode nc_L_law 631 = .ok (.iconst 2, 1) := by decide +kernel
theorem nd_L_law_632 : decode nc_L_law 632 = .ok (.iadd, 1) := by decide +kernel
theorem nd_L_law_633 : decode nc_L_law 633 = .ok (.iaload, 1) := by decide +kernel
theorem nd_L_law_634 : decode nc_L_law 634 = .ok (.aload_n 0, 1) := by decide +kernel
theorem nd_L_law_635 : decode nc_L_law 635 = .ok (.iload_n 3, 1) := by decide +kernel
theorem nd_L_law_636 : decode nc_L_law 636 = .ok (.iconst 3, 1) := by decide +kernel
theorem nd_L_law_637 : decode nc_L_law 637 = .ok (.iadd, 1) := by decide +kernel
theorem nd_L_law_638 : decode nc_L_law 638 = .ok (.iaload, 1) := by decide +kernel
theorem nd_L_law_639 : decode nc_L_law 639 = .ok (.invokevirtual 89, 3) := by decide +kernel
theorem nd_L_law_642 : decode nc_L_law 642 = .ok (.aload_n 2, 1) := by decide +kernel
theorem nd_L_law_643 : decode nc_L_law 643 = .ok (.aload_n 0, 1) := by decide +kernel
theorem nd_L_law_644 : decode nc_L_law 644 = .ok (.iload_n 3, 1) := by decide +kernel
theorem nd_L_law_645 : decode nc_L_law 645 = .ok (.iconst 1, 1) := by decide +kernel
theorem nd_L_law_646 : decode nc_L_law 646 = .ok (.iadd, 1) := by decide +kernel
theorem nd_L_law_647 : decode nc_L_law 647 = .ok (.iaload, 1) := by decide +kernel
theorem nd_L_law_648 : decode nc_L_law 648 = .ok (.aload_n 0, 1) := by decide +kernel
theorem nd_L_law_649 : decode nc_L_law 649 = .ok (.iload_n 3, 1) := by decide +kernel
theorem nd_L_law_650 : decode nc_L_law 650 = .ok (.iconst 2, 1) := by decide +kernel
theorem nd_L_law_651 : decode nc_L_law 651 = .ok (.iadd, 1) := by decide +kernel
theorem nd_L_law_652 : decode nc_L_law 652 = .ok (.iaload, 1) := by decide +kernel
theorem nd_L_law_653 : decode nc_L_law 653 = .ok (.aload_n 0, 1) := by decide +kernel
theorem nd_L_law_654 : decode nc_L_law 654 = .ok (.iload_n 3, 1) := by decide +kernel
theorem nd_L_law_655 : decode nc_L_law 655 = .ok (.iconst 3, 1) := by decide +kernel
theorem nd_L_law_656 : decode nc_L_law 656 = .ok (.iadd, 1) := by decide +kernel
theorem nd_L_law_657 : decode nc_L_law 657 = .ok (.iaload, 1) := by decide +kernel
theorem nd_L_law_658 : decode nc_L_law 658 = .ok (.invokevirtual 92, 3) := by decide +kernel
theorem nd_L_law_661 : decode nc_L_law 661 = .ok (.if_icmp .eq 31, 3) := by decide +kernel
theorem nd_L_law_664 : decode nc_L_law 664 = .ok (.iconst 0, 1) := by decide +kernel
theorem nd_L_law_665 : decode nc_L_law 665 = .ok (.ireturn, 1) := by decide +kernel
theorem nd_L_law_666 : decode nc_L_law 666 = .ok (.aload_n 1, 1) := by decide +kernel
theorem nd_L_law_667 : decode nc_L_law 667 = .ok (.invokevirtual 93, 3) := by decide +kernel
theorem nd_L_law_670 : decode nc_L_law 670 = .ok (.aload_n 2, 1) := by decide +kernel
theorem nd_L_law_671 : decode nc_L_law 671 = .ok (.invokevirtual 96, 3) := by decide +kernel
theorem nd_L_law_674 : decode nc_L_law 674 = .ok (.if_icmp .eq 18, 3) := by decide +kernel
theorem nd_L_law_677 : decode nc_L_law 677 = .ok (.iconst 0, 1) := by decide +kernel
theorem nd_L_law_678 : decode nc_L_law 678 = .ok (.ireturn, 1) := by decide +kernel
theorem nd_L_law_679 : decode nc_L_law 679 = .ok (.aload_n 1, 1) := by decide +kernel
theorem nd_L_law_680 : decode nc_L_law 680 = .ok (.invokevirtual 97, 3) := by decide +kernel
theorem nd_L_law_683 : decode nc_L_law 683 = .ok (.aload_n 2, 1) := by decide +kernel
theorem nd_L_law_684 : decode nc_L_law 684 = .ok (.invokevirtual 100, 3) := by decide +kernel
theorem nd_L_law_687 : decode nc_L_law 687 = .ok (.if_icmp .eq 5, 3) := by decide +kernel
theorem nd_L_law_690 : decode nc_L_law 690 = .ok (.iconst 0, 1) := by decide +kernel
theorem nd_L_law_691 : decode nc_L_law 691 = .ok (.ireturn, 1) := by decide +kernel
theorem nd_L_law_692 : decode nc_L_law 692 = .ok (.iinc 3 5, 3) := by decide +kernel
theorem nd_L_law_695 : decode nc_L_law 695 = .ok (.goto (-677), 3) := by decide +kernel
theorem nd_L_law_698 : decode nc_L_law 698 = .ok (.iconst 1, 1) := by decide +kernel
theorem nd_L_law_699 : decode nc_L_law 699 = .ok (.ireturn, 1) := by decide +kernel
