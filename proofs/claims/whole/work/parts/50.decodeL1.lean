-- decode rows of the law
theorem d_L_law_137 : decode b_L_law 137 = .ok (.aload_n 0, 1) := by decide +kernel
theorem d_L_law_138 : decode b_L_law 138 = .ok (.iload 4, 2) := by decide +kernel
theorem d_L_law_140 : decode b_L_law 140 = .ok (.iconst 3, 1) := by decide +kernel
theorem d_L_law_141 : decode b_L_law 141 = .ok (.iadd, 1) := by decide +kernel
theorem d_L_law_142 : decode b_L_law 142 = .ok (.iaload, 1) := by decide +kernel
theorem d_L_law_143 : decode b_L_law 143 = .ok (.aload_n 0, 1) := by decide +kernel
theorem d_L_law_144 : decode b_L_law 144 = .ok (.iload 4, 2) := by decide +kernel
theorem d_L_law_146 : decode b_L_law 146 = .ok (.iconst 4, 1) := by decide +kernel
theorem d_L_law_147 : decode b_L_law 147 = .ok (.iadd, 1) := by decide +kernel
theorem d_L_law_148 : decode b_L_law 148 = .ok (.iaload, 1) := by decide +kernel
theorem d_L_law_149 : decode b_L_law 149 = .ok (.invokestatic 45, 3) := by decide +kernel
theorem d_L_law_152 : decode b_L_law 152 = .ok (.istore 5, 2) := by decide +kernel
theorem d_L_law_154 : decode b_L_law 154 = .ok (.aload_n 2, 1) := by decide +kernel
theorem d_L_law_155 : decode b_L_law 155 = .ok (.aload_n 0, 1) := by decide +kernel
theorem d_L_law_156 : decode b_L_law 156 = .ok (.iload 4, 2) := by decide +kernel
theorem d_L_law_158 : decode b_L_law 158 = .ok (.iconst 1, 1) := by decide +kernel
theorem d_L_law_159 : decode b_L_law 159 = .ok (.iadd, 1) := by decide +kernel
theorem d_L_law_160 : decode b_L_law 160 = .ok (.iaload, 1) := by decide +kernel
theorem d_L_law_161 : decode b_L_law 161 = .ok (.aload_n 0, 1) := by decide +kernel
theorem d_L_law_162 : decode b_L_law 162 = .ok (.iload 4, 2) := by decide +kernel
theorem d_L_law_164 : decode b_L_law 164 = .ok (.iconst 2, 1) := by decide +kernel
theorem d_L_law_165 : decode b_L_law 165 = .ok (.iadd, 1) := by decide +kernel
theorem d_L_law_166 : decode b_L_law 166 = .ok (.iaload, 1) := by decide +kernel
theorem d_L_law_167 : decode b_L_law 167 = .ok (.aload_n 0, 1) := by decide +kernel
theorem d_L_law_168 : decode b_L_law 168 = .ok (.iload 4, 2) := by decide +kernel
theorem d_L_law_170 : decode b_L_law 170 = .ok (.iconst 3, 1) := by decide +kernel
theorem d_L_law_171 : decode b_L_law 171 = .ok (.iadd, 1) := by decide +kernel
theorem d_L_law_172 : decode b_L_law 172 = .ok (.iaload, 1) := by decide +kernel
theorem d_L_law_173 : decode b_L_law 173 = .ok (.aload_n 0, 1) := by decide +kernel
theorem d_L_law_174 : decode b_L_law 174 = .ok (.iload 4, 2) := by decide +kernel
theorem d_L_law_176 : decode b_L_law 176 = .ok (.iconst 4, 1) := by decide +kernel
theorem d_L_law_177 : decode b_L_law 177 = .ok (.iadd, 1) := by decide +kernel
theorem d_L_law_178 : decode b_L_law 178 = .ok (.iaload, 1) := by decide +kernel
theorem d_L_law_179 : decode b_L_law 179 = .ok (.invokevirtual 50, 3) := by decide +kernel
theorem d_L_law_182 : decode b_L_law 182 = .ok (.aload_n 2, 1) := by decide +kernel
theorem d_L_law_183 : decode b_L_law 183 = .ok (.invokevirtual 51, 3) := by decide +kernel
theorem d_L_law_186 : decode b_L_law 186 = .ok (.iload 5, 2) := by decide +kernel
theorem d_L_law_188 : decode b_L_law 188 = .ok (.if_icmp .eq 5, 3) := by decide +kernel
theorem d_L_law_191 : decode b_L_law 191 = .ok (.iconst 0, 1) := by decide +kernel
theorem d_L_law_192 : decode b_L_law 192 = .ok (.ireturn, 1) := by decide +kernel
theorem d_L_law_193 : decode b_L_law 193 = .ok (.goto 613, 3) := by decide +kernel
theorem d_L_law_196 : decode b_L_law 196 = .ok (.aload_n 1, 1) := by decide +kernel
theorem d_L_law_197 : decode b_L_law 197 = .ok (.aload_n 0, 1) := by decide +kernel
theorem d_L_law_198 : decode b_L_law 198 = .ok (.iload 4, 2) := by decide +kernel
theorem d_L_law_200 : decode b_L_law 200 = .ok (.iconst 1, 1) := by decide +kernel
theorem d_L_law_201 : decode b_L_law 201 = .ok (.iadd, 1) := by decide +kernel
theorem d_L_law_202 : decode b_L_law 202 = .ok (.iaload, 1) := by decide +kernel
theorem d_L_law_203 : decode b_L_law 203 = .ok (.aload_n 0, 1) := by decide +kernel
theorem d_L_law_204 : decode b_L_law 204 = .ok (.iload 4, 2) := by decide +kernel
theorem d_L_law_206 : decode b_L_law 206 = .ok (.iconst 2, 1) := by decide +kernel
theorem d_L_law_207 : decode b_L_law 207 = .ok (.iadd, 1) := by decide +kernel
theorem d_L_law_208 : decode b_L_law 208 = .ok (.iaload, 1) := by decide +kernel
theorem d_L_law_209 : decode b_L_law 209 = .ok (.aload_n 0, 1) := by decide +kernel
theorem d_L_law_210 : decode b_L_law 210 = .ok (.iload 4, 2) := by decide +kernel
theorem d_L_law_212 : decode b_L_law 212 = .ok (.iconst 3, 1) := by decide +kernel
theorem d_L_law_213 : decode b_L_law 213 = .ok (.iadd, 1) := by decide +kernel
theorem d_L_law_214 : decode b_L_law 214 = .ok (.iaload, 1) := by decide +kernel
theorem d_L_law_215 : decode b_L_law 215 = .ok (.invokestatic 54, 3) := by decide +kernel
theorem d_L_law_218 : decode b_L_law 218 = .ok (.istore 5, 2) := by decide +kernel
theorem d_L_law_220 : decode b_L_law 220 = .ok (.aload_n 2, 1) := by decide +kernel
theorem d_L_law_221 : decode b_L_law 221 = .ok (.aload_n 0, 1) := by decide +kernel
theorem d_L_law_222 : decode b_L_law 222 = .ok (.iload 4, 2) := by decide +kernel
theorem d_L_law_224 : decode b_L_law 224 = .ok (.iconst 1, 1) := by decide +kernel
theorem d_L_law_225 : decode b_L_law 225 = .ok (.iadd, 1) := by decide +kernel
theorem d_L_law_226 : decode b_L_law 226 = .ok (.iaload, 1) := by decide +kernel
theorem d_L_law_227 : decode b_L_law 227 = .ok (.aload_n 0, 1) := by decide +kernel
theorem d_L_law_228 : decode b_L_law 228 = .ok (.iload 4, 2) := by decide +kernel
theorem d_L_law_230 : decode b_L_law 230 = .ok (.iconst 2, 1) := by decide +kernel
theorem d_L_law_231 : decode b_L_law 231 = .ok (.iadd, 1) := by decide +kernel
theorem d_L_law_232 : decode b_L_law 232 = .ok (.iaload, 1) := by decide +kernel
theorem d_L_law_233 : decode b_L_law 233 = .ok (.aload_n 0, 1) := by decide +kernel
theorem d_L_law_234 : decode b_L_law 234 = .ok (.iload 4, 2) := by decide +kernel
theorem d_L_law_236 : decode b_L_law 236 = .ok (.iconst 3, 1) := by decide +kernel
theorem d_L_law_237 : decode b_L_law 237 = .ok (.iadd, 1) := by decide +kernel
theorem d_L_law_238 : decode b_L_law 238 = .ok (.iaload, 1) := by decide +kernel
theorem d_L_law_239 : decode b_L_law 239 = .ok (.invokevirtual 57, 3) := by decide +kernel
theorem d_L_law_242 : decode b_L_law 242 = .ok (.aload_n 2, 1) := by decide +kernel
theorem d_L_law_243 : decode b_L_law 243 = .ok (.invokevirtual 51, 3) := by decide +kernel
theorem d_L_law_246 : decode b_L_law 246 = .ok (.iload 5, 2) := by decide +kernel
theorem d_L_law_248 : decode b_L_law 248 = .ok (.if_icmp .eq 5, 3) := by decide +kernel
theorem d_L_law_251 : decode b_L_law 251 = .ok (.iconst 0, 1) := by decide +kernel
theorem d_L_law_252 : decode b_L_law 252 = .ok (.ireturn, 1) := by decide +kernel
theorem d_L_law_253 : decode b_L_law 253 = .ok (.goto 553, 3) := by decide +kernel
theorem d_L_law_256 : decode b_L_law 256 = .ok (.aload_n 1, 1) := by decide +kernel
theorem d_L_law_257 : decode b_L_law 257 = .ok (.aload_n 3, 1) := by decide +kernel
theorem d_L_law_258 : decode b_L_law 258 = .ok (.invokestatic 58, 3) := by decide +kernel
theorem d_L_law_261 : decode b_L_law 261 = .ok (.istore 5, 2) := by decide +kernel
theorem d_L_law_263 : decode b_L_law 263 = .ok (.aload_n 2, 1) := by decide +kernel
theorem d_L_law_264 : decode b_L_law 264 = .ok (.invokevirtual 61, 3) := by decide +kernel
theorem d_L_law_267 : decode b_L_law 267 = .ok (.istore 6, 2) := by decide +kernel
theorem d_L_law_269 : decode b_L_law 269 = .ok (.aload_n 2, 1) := by decide +kernel
theorem d_L_law_270 : decode b_L_law 270 = .ok (.invokevirtual 51, 3) := by decide +kernel
theorem d_L_law_273 : decode b_L_law 273 = .ok (.iload 5, 2) := by decide +kernel
theorem d_L_law_275 : decode b_L_law 275 = .ok (.if_icmp .eq 5, 3) := by decide +kernel
theorem d_L_law_278 : decode b_L_law 278 = .ok (.iconst 0, 1) := by decide +kernel
theorem d_L_law_279 : decode b_L_law 279 = .ok (.ireturn, 1) := by decide +kernel
theorem d_L_law_280 : decode b_L_law 280 = .ok (.iload 5, 2) := by decide +kernel
theorem d_L_law_282 : decode b_L_law 282 = .ok (.ifCond .ne 15, 3) := by decide +kernel
theorem d_L_law_285 : decode b_L_law 285 = .ok (.aload_n 3, 1) := by decide +kernel
theorem d_L_law_286 : decode b_L_law 286 = .ok (.iconst 0, 1) := by decide +kernel
theorem d_L_law_287 : decode b_L_law 287 = .ok (.laload, 1) := by decide +kernel
theorem d_L_law_288 : decode b_L_law 288 = .ok (.iload 6, 2) := by decide +kernel
theorem d_L_law_290 : decode b_L_law 290 = .ok (.i2l, 1) := by decide +kernel
theorem d_L_law_291 : decode b_L_law 291 = .ok (.lcmp, 1) := by decide +kernel
theorem d_L_law_292 : decode b_L_law 292 = .ok (.ifCond .eq 5, 3) := by decide +kernel
theorem d_L_law_295 : decode b_L_law 295 = .ok (.iconst 0, 1) := by decide +kernel
theorem d_L_law_296 : decode b_L_law 296 = .ok (.ireturn, 1) := by decide +kernel
theorem d_L_law_297 : decode b_L_law 297 = .ok (.goto 509, 3) := by decide +kernel
theorem d_L_law_300 : decode b_L_law 300 = .ok (.aload_n 1, 1) := by decide +kernel
theorem d_L_law_301 : decode b_L_law 301 = .ok (.aload_n 0, 1) := by decide +kernel
theorem d_L_law_302 : decode b_L_law 302 = .ok (.iload 4, 2) := by decide +kernel
theorem d_L_law_304 : decode b_L_law 304 = .ok (.iconst 1, 1) := by decide +kernel
theorem d_L_law_305 : decode b_L_law 305 = .ok (.iadd, 1) := by decide +kernel
theorem d_L_law_306 : decode b_L_law 306 = .ok (.iaload, 1) := by decide +kernel
theorem d_L_law_307 : decode b_L_law 307 = .ok (.aload_n 3, 1) := by decide +kernel
theorem d_L_law_308 : decode b_L_law 308 = .ok (.invokestatic 62, 3) := by decide +kernel
theorem d_L_law_311 : decode b_L_law 311 = .ok (.istore 5, 2) := by decide +kernel
theorem d_L_law_313 : decode b_L_law 313 = .ok (.aload_n 2, 1) := by decide +kernel
theorem d_L_law_314 : decode b_L_law 314 = .ok (.aload_n 0, 1) := by decide +kernel
theorem d_L_law_315 : decode b_L_law 315 = .ok (.iload 4, 2) := by decide +kernel
theorem d_L_law_317 : decode b_L_law 317 = .ok (.iconst 1, 1) := by decide +kernel
theorem d_L_law_318 : decode b_L_law 318 = .ok (.iadd, 1) := by decide +kernel
theorem d_L_law_319 : decode b_L_law 319 = .ok (.iaload, 1) := by decide +kernel
theorem d_L_law_320 : decode b_L_law 320 = .ok (.invokevirtual 65, 3) := by decide +kernel
theorem d_L_law_323 : decode b_L_law 323 = .ok (.istore 6, 2) := by decide +kernel
theorem d_L_law_325 : decode b_L_law 325 = .ok (.aload_n 2, 1) := by decide +kernel
theorem d_L_law_326 : decode b_L_law 326 = .ok (.invokevirtual 51, 3) := by decide +kernel
theorem d_L_law_329 : decode b_L_law 329 = .ok (.iload 5, 2) := by decide +kernel
theorem d_L_law_331 : decode b_L_law 331 = .ok (.if_icmp .eq 5, 3) := by decide +kernel
theorem d_L_law_334 : decode b_L_law 334 = .ok (.iconst 0, 1) := by decide +kernel
theorem d_L_law_335 : decode b_L_law 335 = .ok (.ireturn, 1) := by decide +kernel
theorem d_L_law_336 : decode b_L_law 336 = .ok (.iload 5, 2) := by decide +kernel
theorem d_L_law_338 : decode b_L_law 338 = .ok (.ifCond .ne 15, 3) := by decide +kernel
theorem d_L_law_341 : decode b_L_law 341 = .ok (.aload_n 3, 1) := by decide +kernel
theorem d_L_law_342 : decode b_L_law 342 = .ok (.iconst 0, 1) := by decide +kernel
theorem d_L_law_343 : decode b_L_law 343 = .ok (.laload, 1) := by decide +kernel
theorem d_L_law_344 : decode b_L_law 344 = .ok (.iload 6, 2) := by decide +kernel
theorem d_L_law_346 : decode b_L_law 346 = .ok (.i2l, 1) := by decide +kernel
theorem d_L_law_347 : decode b_L_law 347 = .ok (.lcmp, 1) := by decide +kernel
theorem d_L_law_348 : decode b_L_law 348 = .ok (.ifCond .eq 5, 3) := by decide +kernel
theorem d_L_law_351 : decode b_L_law 351 = .ok (.iconst 0, 1) := by decide +kernel
theorem d_L_law_352 : decode b_L_law 352 = .ok (.ireturn, 1) := by decide +kernel
theorem d_L_law_353 : decode b_L_law 353 = .ok (.goto 453, 3) := by decide +kernel
theorem d_L_law_356 : decode b_L_law 356 = .ok (.aload_n 1, 1) := by decide +kernel
theorem d_L_law_357 : decode b_L_law 357 = .ok (.aload_n 0, 1) := by decide +kernel
theorem d_L_law_358 : decode b_L_law 358 = .ok (.iload 4, 2) := by decide +kernel
theorem d_L_law_360 : decode b_L_law 360 = .ok (.iconst 1, 1) := by decide +kernel
theorem d_L_law_361 : decode b_L_law 361 = .ok (.iadd, 1) := by decide +kernel
theorem d_L_law_362 : decode b_L_law 362 = .ok (.iaload, 1) := by decide +kernel
theorem d_L_law_363 : decode b_L_law 363 = .ok (.aload_n 3, 1) := by decide +kernel
