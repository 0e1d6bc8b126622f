/-! THE CLAIM OUT OF ONE WALK OF THE LAW'S BODY. Your part is whole_start (and what it stands on); all else here is the same for every law, but numbers. -/
def R_law : String := "StateWearLaw"
def lw_P (b : Addr) (xs : List Int32) (args : Array Value) (s : State) : Prop := args = #[.ref b] ∧ s.IntsAt b xs ∧ xs.length ≤ 3072 ∧ (Jvm.Cond.and given_1 narrow_1).before args s = true
def lw_Q (_ : Array Value) (s : State) (o : Outcome) (t : State) : Prop := o = .returned (some (.int 1)) ∧ Framed s o t [] 600000 7302250
def lw_Z (below : List Frame) (a : Array Value) (s : State) : State → Prop := fun t => ∃ o, t.status = .running ∧ Ended t below o ∧ lw_Q a s o t
/-- the law's own end, with 1 on the stack, nothing written that was there before, its room as the claim has it -/
theorem lw_ret {p : Program} {l : Launch} {e : Env} {s : State} {m : MethodId} {below : List Frame} {meth : Method} {c : Code} {b : Nat} (hx : p.tables.exec = Jvm.exec) (hb : c.code = code) (hr : meth.sig.returnType = ret) (hlocks : meth.locks = false) {pc : Nat} {H : Heap} {ls : Array Slot} (hdg : decode code pc = .ok (.ireturn, 1)) : W p l e room_1 s m #[Value.ref b] below meth c H [] 600000 7302250 (lw_Z below #[Value.ref b] s) (F0 m pc ls [.int 1]) := by
  intro T hT X
  obtain ⟨fs, hret, hrun, hended, hW, hframe⟩ := X.leave (v := some (.int 1)) (hlocks := hlocks) (fun h => by rw [hr] at h; cases h)
  have hmeth' : T.vm.method? m = some meth := X.method'
  refine ⟨T.setFrames fs, ?_, .returned (some (.int 1)), hrun, hended, rfl, ⟨_, rfl⟩, hW, hframe⟩
  jvm_step X.here [X.here.top, hx, hb, hdg, hmeth', hr, ret, narrow_b1]
  (try refine ⟨rfl, ?_⟩); (try refine ⟨rfl, ?_⟩)
  first | (intro acts; rw [hret _ acts rfl rfl rfl]) | rw [hret _ _ rfl rfl rfl]
  exact Steps.refl _
/-- what holds at the law's entry: the machine, the code, the tables' words (any of lw_tbl by 'hts w (by decide +kernel)'), the script of L ints xs at the cell b, what the Statement gives of the start (any of its parts by flat_of_before) -/
def lw_At (p : Program) (s : State) (m : MethodId) (meth : Method) (c : Code) (b L : Nat) (xs : Nat → Int32) : Prop :=
  p.tables.exec = Jvm.exec ∧ c.code = code ∧ meth.sig.returnType = ret ∧ c.maxLocals = 4 ∧ s.vm.findClass R_law = some m.cls ∧ (∀ w ∈ lw_tbl, w.before #[Value.ref b] s = true) ∧ va_X b L xs s s.heap ∧ b < s.heap.size ∧ meth.locks = false ∧ (Jvm.Cond.and given_1 narrow_1).before #[Value.ref b] s = true
theorem dL_0 : decode code 0 = .ok (.new 7, 3) := by decide +kernel
theorem dL_3 : decode code 3 = .ok (.dup, 1) := by decide +kernel
theorem dL_4 : decode code 4 = .ok (.invokespecial 9, 3) := by decide +kernel
theorem dL_7 : decode code 7 = .ok (.astore_n 1, 1) := by decide +kernel
theorem dL_8 : decode code 8 = .ok (.new 10, 3) := by decide +kernel
theorem dL_11 : decode code 11 = .ok (.dup, 1) := by decide +kernel
theorem dL_12 : decode code 12 = .ok (.invokespecial 12, 3) := by decide +kernel
theorem dL_15 : decode code 15 = .ok (.astore_n 2, 1) := by decide +kernel
theorem dL_16 : decode code 16 = .ok (.iconst 0, 1) := by decide +kernel
theorem dL_17 : decode code 17 = .ok (.istore_n 3, 1) := by decide +kernel
theorem dL_18 : decode code 18 = .ok (.iload_n 3, 1) := by decide +kernel
theorem dL_19 : decode code 19 = .ok (.aload_n 0, 1) := by decide +kernel
theorem dL_20 : decode code 20 = .ok (.arraylength, 1) := by decide +kernel
theorem dL_21 : decode code 21 = .ok (.bipush 6, 2) := by decide +kernel
theorem dL_23 : decode code 23 = .ok (.isub, 1) := by decide +kernel
theorem dL_24 : decode code 24 = .ok (.if_icmp .gt 954, 3) := by decide +kernel
theorem dL_27 : decode code 27 = .ok (.aload_n 0, 1) := by decide +kernel
theorem dL_28 : decode code 28 = .ok (.iload_n 3, 1) := by decide +kernel
theorem dL_29 : decode code 29 = .ok (.iaload, 1) := by decide +kernel
theorem dL_30 : decode code 30 = .ok (.bipush 31, 2) := by decide +kernel
theorem dL_32 : decode code 32 = .ok (.iand, 1) := by decide +kernel
theorem dL_33 : decode code 33 = .ok (.tableswitch 939 0 22 #[107, 140, 173, 236, 279, 312, 381, 414, 427, 440, 493, 516, 559, 582, 595, 628, 671, 724, 793, 816, 879, 902, 925], 107) := by decide +kernel
theorem dL_140 : decode code 140 = .ok (.aload_n 1, 1) := by decide +kernel
theorem dL_141 : decode code 141 = .ok (.aload_n 0, 1) := by decide +kernel
theorem dL_142 : decode code 142 = .ok (.iload_n 3, 1) := by decide +kernel
theorem dL_143 : decode code 143 = .ok (.iconst 1, 1) := by decide +kernel
theorem dL_144 : decode code 144 = .ok (.iadd, 1) := by decide +kernel
theorem dL_145 : decode code 145 = .ok (.iaload, 1) := by decide +kernel
theorem dL_146 : decode code 146 = .ok (.aload_n 0, 1) := by decide +kernel
theorem dL_147 : decode code 147 = .ok (.iload_n 3, 1) := by decide +kernel
theorem dL_148 : decode code 148 = .ok (.iconst 2, 1) := by decide +kernel
theorem dL_149 : decode code 149 = .ok (.iadd, 1) := by decide +kernel
theorem dL_150 : decode code 150 = .ok (.iaload, 1) := by decide +kernel
theorem dL_151 : decode code 151 = .ok (.invokevirtual 13, 3) := by decide +kernel
theorem dL_154 : decode code 154 = .ok (.aload_n 2, 1) := by decide +kernel
theorem dL_155 : decode code 155 = .ok (.aload_n 0, 1) := by decide +kernel
theorem dL_156 : decode code 156 = .ok (.iload_n 3, 1) := by decide +kernel
theorem dL_157 : decode code 157 = .ok (.iconst 1, 1) := by decide +kernel
theorem dL_158 : decode code 158 = .ok (.iadd, 1) := by decide +kernel
theorem dL_159 : decode code 159 = .ok (.iaload, 1) := by decide +kernel
theorem dL_160 : decode code 160 = .ok (.aload_n 0, 1) := by decide +kernel
theorem dL_161 : decode code 161 = .ok (.iload_n 3, 1) := by decide +kernel
theorem dL_162 : decode code 162 = .ok (.iconst 2, 1) := by decide +kernel
theorem dL_163 : decode code 163 = .ok (.iadd, 1) := by decide +kernel
theorem dL_164 : decode code 164 = .ok (.iaload, 1) := by decide +kernel
theorem dL_165 : decode code 165 = .ok (.invokevirtual 17, 3) := by decide +kernel
theorem dL_168 : decode code 168 = .ok (.if_icmp .eq 804, 3) := by decide +kernel
theorem dL_171 : decode code 171 = .ok (.iconst 0, 1) := by decide +kernel
theorem dL_172 : decode code 172 = .ok (.ireturn, 1) := by decide +kernel
theorem dL_173 : decode code 173 = .ok (.aload_n 1, 1) := by decide +kernel
theorem dL_174 : decode code 174 = .ok (.aload_n 0, 1) := by decide +kernel
theorem dL_175 : decode code 175 = .ok (.iload_n 3, 1) := by decide +kernel
theorem dL_176 : decode code 176 = .ok (.iconst 1, 1) := by decide +kernel
theorem dL_177 : decode code 177 = .ok (.iadd, 1) := by decide +kernel
theorem dL_178 : decode code 178 = .ok (.iaload, 1) := by decide +kernel
theorem dL_179 : decode code 179 = .ok (.aload_n 0, 1) := by decide +kernel
theorem dL_180 : decode code 180 = .ok (.iload_n 3, 1) := by decide +kernel
theorem dL_181 : decode code 181 = .ok (.iconst 2, 1) := by decide +kernel
theorem dL_182 : decode code 182 = .ok (.iadd, 1) := by decide +kernel
theorem dL_183 : decode code 183 = .ok (.iaload, 1) := by decide +kernel
theorem dL_184 : decode code 184 = .ok (.invokevirtual 18, 3) := by decide +kernel
theorem dL_187 : decode code 187 = .ok (.aload_n 2, 1) := by decide +kernel
theorem dL_188 : decode code 188 = .ok (.aload_n 0, 1) := by decide +kernel
theorem dL_189 : decode code 189 = .ok (.iload_n 3, 1) := by decide +kernel
theorem dL_190 : decode code 190 = .ok (.iconst 1, 1) := by decide +kernel
theorem dL_191 : decode code 191 = .ok (.iadd, 1) := by decide +kernel
theorem dL_192 : decode code 192 = .ok (.iaload, 1) := by decide +kernel
theorem dL_193 : decode code 193 = .ok (.aload_n 0, 1) := by decide +kernel
theorem dL_194 : decode code 194 = .ok (.iload_n 3, 1) := by decide +kernel
theorem dL_195 : decode code 195 = .ok (.iconst 2, 1) := by decide +kernel
theorem dL_196 : decode code 196 = .ok (.iadd, 1) := by decide +kernel
theorem dL_197 : decode code 197 = .ok (.iaload, 1) := by decide +kernel
theorem dL_198 : decode code 198 = .ok (.invokevirtual 21, 3) := by decide +kernel
theorem dL_201 : decode code 201 = .ok (.if_icmp .eq 771, 3) := by decide +kernel
theorem dL_204 : decode code 204 = .ok (.iconst 0, 1) := by decide +kernel
theorem dL_205 : decode code 205 = .ok (.ireturn, 1) := by decide +kernel
theorem dL_206 : decode code 206 = .ok (.aload_n 1, 1) := by decide +kernel
theorem dL_207 : decode code 207 = .ok (.aload_n 0, 1) := by decide +kernel
theorem dL_208 : decode code 208 = .ok (.iload_n 3, 1) := by decide +kernel
theorem dL_209 : decode code 209 = .ok (.iconst 1, 1) := by decide +kernel
theorem dL_210 : decode code 210 = .ok (.iadd, 1) := by decide +kernel
theorem dL_211 : decode code 211 = .ok (.iaload, 1) := by decide +kernel
theorem dL_212 : decode code 212 = .ok (.aload_n 0, 1) := by decide +kernel
theorem dL_213 : decode code 213 = .ok (.iload_n 3, 1) := by decide +kernel
theorem dL_214 : decode code 214 = .ok (.iconst 2, 1) := by decide +kernel
theorem dL_215 : decode code 215 = .ok (.iadd, 1) := by decide +kernel
theorem dL_216 : decode code 216 = .ok (.iaload, 1) := by decide +kernel
theorem dL_217 : decode code 217 = .ok (.aload_n 0, 1) := by decide +kernel
theorem dL_218 : decode code 218 = .ok (.iload_n 3, 1) := by decide +kernel
theorem dL_219 : decode code 219 = .ok (.iconst 3, 1) := by decide +kernel
theorem dL_220 : decode code 220 = .ok (.iadd, 1) := by decide +kernel
theorem dL_221 : decode code 221 = .ok (.iaload, 1) := by decide +kernel
theorem dL_222 : decode code 222 = .ok (.aload_n 0, 1) := by decide +kernel
theorem dL_223 : decode code 223 = .ok (.iload_n 3, 1) := by decide +kernel
theorem dL_224 : decode code 224 = .ok (.iconst 4, 1) := by decide +kernel
theorem dL_225 : decode code 225 = .ok (.iadd, 1) := by decide +kernel
theorem dL_226 : decode code 226 = .ok (.iaload, 1) := by decide +kernel
theorem dL_227 : decode code 227 = .ok (.aload_n 0, 1) := by decide +kernel
theorem dL_228 : decode code 228 = .ok (.iload_n 3, 1) := by decide +kernel
theorem dL_229 : decode code 229 = .ok (.iconst 5, 1) := by decide +kernel
theorem dL_230 : decode code 230 = .ok (.iadd, 1) := by decide +kernel
theorem dL_231 : decode code 231 = .ok (.iaload, 1) := by decide +kernel
theorem dL_232 : decode code 232 = .ok (.invokevirtual 22, 3) := by decide +kernel
theorem dL_235 : decode code 235 = .ok (.aload_n 2, 1) := by decide +kernel
theorem dL_236 : decode code 236 = .ok (.aload_n 0, 1) := by decide +kernel
theorem dL_237 : decode code 237 = .ok (.iload_n 3, 1) := by decide +kernel
theorem dL_238 : decode code 238 = .ok (.iconst 1, 1) := by decide +kernel
theorem dL_239 : decode code 239 = .ok (.iadd, 1) := by decide +kernel
theorem dL_240 : decode code 240 = .ok (.iaload, 1) := by decide +kernel
theorem dL_241 : decode code 241 = .ok (.aload_n 0, 1) := by decide +kernel
theorem dL_242 : decode code 242 = .ok (.iload_n 3, 1) := by decide +kernel
theorem dL_243 : decode code 243 = .ok (.iconst 2, 1) := by decide +kernel
theorem dL_244 : decode code 244 = .ok (.iadd, 1) := by decide +kernel
theorem dL_245 : decode code 245 = .ok (.iaload, 1) := by decide +kernel
theorem dL_246 : decode code 246 = .ok (.aload_n 0, 1) := by decide +kernel
theorem dL_247 : decode code 247 = .ok (.iload_n 3, 1) := by decide +kernel
theorem dL_248 : decode code 248 = .ok (.iconst 3, 1) := by decide +kernel
theorem dL_249 : decode code 249 = .ok (.iadd, 1) := by decide +kernel
theorem dL_250 : decode code 250 = .ok (.iaload, 1) := by decide +kernel
theorem dL_251 : decode code 251 = .ok (.aload_n 0, 1) := by decide +kernel
theorem dL_252 : decode code 252 = .ok (.iload_n 3, 1) := by decide +kernel
theorem dL_253 : decode code 253 = .ok (.iconst 4, 1) := by decide +kernel
theorem dL_254 : decode code 254 = .ok (.iadd, 1) := by decide +kernel
theorem dL_255 : decode code 255 = .ok (.iaload, 1) := by decide +kernel
theorem dL_256 : decode code 256 = .ok (.aload_n 0, 1) := by decide +kernel
theorem dL_257 : decode code 257 = .ok (.iload_n 3, 1) := by decide +kernel
theorem dL_258 : decode code 258 = .ok (.iconst 5, 1) := by decide +kernel
theorem dL_259 : decode code 259 = .ok (.iadd, 1) := by decide +kernel
theorem dL_260 : decode code 260 = .ok (.iaload, 1) := by decide +kernel
theorem dL_261 : decode code 261 = .ok (.invokevirtual 26, 3) := by decide +kernel
theorem dL_264 : decode code 264 = .ok (.if_icmp .eq 708, 3) := by decide +kernel
theorem dL_267 : decode code 267 = .ok (.iconst 0, 1) := by decide +kernel
theorem dL_268 : decode code 268 = .ok (.ireturn, 1) := by decide +kernel
theorem dL_269 : decode code 269 = .ok (.aload_n 1, 1) := by decide +kernel
theorem dL_270 : decode code 270 = .ok (.aload_n 0, 1) := by decide +kernel
theorem dL_271 : decode code 271 = .ok (.iload_n 3, 1) := by decide +kernel
theorem dL_272 : decode code 272 = .ok (.iconst 1, 1) := by decide +kernel
theorem dL_273 : decode code 273 = .ok (.iadd, 1) := by decide +kernel
theorem dL_274 : decode code 274 = .ok (.iaload, 1) := by decide +kernel
theorem dL_275 : decode code 275 = .ok (.aload_n 0, 1) := by decide +kernel
theorem dL_276 : decode code 276 = .ok (.iload_n 3, 1) := by decide +kernel
theorem dL_277 : decode code 277 = .ok (.iconst 2, 1) := by decide +kernel
theorem dL_278 : decode code 278 = .ok (.iadd, 1) := by decide +kernel
theorem dL_279 : decode code 279 = .ok (.iaload, 1) := by decide +kernel
theorem dL_280 : decode code 280 = .ok (.aload_n 0, 1) := by decide +kernel
theorem dL_281 : decode code 281 = .ok (.iload_n 3, 1) := by decide +kernel
theorem dL_282 : decode code 282 = .ok (.iconst 3, 1) := by decide +kernel
theorem dL_283 : decode code 283 = .ok (.iadd, 1) := by decide +kernel
theorem dL_284 : decode code 284 = .ok (.iaload, 1) := by decide +kernel
theorem dL_285 : decode code 285 = .ok (.invokevirtual 27, 3) := by decide +kernel
theorem dL_288 : decode code 288 = .ok (.aload_n 2, 1) := by decide +kernel
theorem dL_289 : decode code 289 = .ok (.aload_n 0, 1) := by decide +kernel
theorem dL_290 : decode code 290 = .ok (.iload_n 3, 1) := by decide +kernel
theorem dL_291 : decode code 291 = .ok (.iconst 1, 1) := by decide +kernel
theorem dL_292 : decode code 292 = .ok (.iadd, 1) := by decide +kernel
theorem dL_293 : decode code 293 = .ok (.iaload, 1) := by decide +kernel
theorem dL_294 : decode code 294 = .ok (.aload_n 0, 1) := by decide +kernel
theorem dL_295 : decode code 295 = .ok (.iload_n 3, 1) := by decide +kernel
theorem dL_296 : decode code 296 = .ok (.iconst 2, 1) := by decide +kernel
theorem dL_297 : decode code 297 = .ok (.iadd, 1) := by decide +kernel
theorem dL_298 : decode code 298 = .ok (.iaload, 1) := by decide +kernel
theorem dL_299 : decode code 299 = .ok (.aload_n 0, 1) := by decide +kernel
theorem dL_300 : decode code 300 = .ok (.iload_n 3, 1) := by decide +kernel
theorem dL_301 : decode code 301 = .ok (.iconst 3, 1) := by decide +kernel
theorem dL_302 : decode code 302 = .ok (.iadd, 1) := by decide +kernel
theorem dL_303 : decode code 303 = .ok (.iaload, 1) := by decide +kernel
theorem dL_304 : decode code 304 = .ok (.invokevirtual 31, 3) := by decide +kernel
theorem dL_307 : decode code 307 = .ok (.if_icmp .eq 665, 3) := by decide +kernel
theorem dL_310 : decode code 310 = .ok (.iconst 0, 1) := by decide +kernel
theorem dL_311 : decode code 311 = .ok (.ireturn, 1) := by decide +kernel
theorem dL_312 : decode code 312 = .ok (.aload_n 1, 1) := by decide +kernel
theorem dL_313 : decode code 313 = .ok (.aload_n 0, 1) := by decide +kernel
theorem dL_314 : decode code 314 = .ok (.iload_n 3, 1) := by decide +kernel
theorem dL_315 : decode code 315 = .ok (.iconst 1, 1) := by decide +kernel
theorem dL_316 : decode code 316 = .ok (.iadd, 1) := by decide +kernel
theorem dL_317 : decode code 317 = .ok (.iaload, 1) := by decide +kernel
theorem dL_318 : decode code 318 = .ok (.aload_n 0, 1) := by decide +kernel
theorem dL_319 : decode code 319 = .ok (.iload_n 3, 1) := by decide +kernel
theorem dL_320 : decode code 320 = .ok (.iconst 2, 1) := by decide +kernel
theorem dL_321 : decode code 321 = .ok (.iadd, 1) := by decide +kernel
theorem dL_322 : decode code 322 = .ok (.iaload, 1) := by decide +kernel
theorem dL_323 : decode code 323 = .ok (.invokevirtual 32, 3) := by decide +kernel
theorem dL_326 : decode code 326 = .ok (.aload_n 2, 1) := by decide +kernel
theorem dL_327 : decode code 327 = .ok (.aload_n 0, 1) := by decide +kernel
theorem dL_328 : decode code 328 = .ok (.iload_n 3, 1) := by decide +kernel
theorem dL_329 : decode code 329 = .ok (.iconst 1, 1) := by decide +kernel
theorem dL_330 : decode code 330 = .ok (.iadd, 1) := by decide +kernel
theorem dL_331 : decode code 331 = .ok (.iaload, 1) := by decide +kernel
theorem dL_332 : decode code 332 = .ok (.aload_n 0, 1) := by decide +kernel
theorem dL_333 : decode code 333 = .ok (.iload_n 3, 1) := by decide +kernel
theorem dL_334 : decode code 334 = .ok (.iconst 2, 1) := by decide +kernel
theorem dL_335 : decode code 335 = .ok (.iadd, 1) := by decide +kernel
theorem dL_336 : decode code 336 = .ok (.iaload, 1) := by decide +kernel
theorem dL_337 : decode code 337 = .ok (.invokevirtual 35, 3) := by decide +kernel
theorem dL_340 : decode code 340 = .ok (.if_icmp .eq 632, 3) := by decide +kernel
theorem dL_343 : decode code 343 = .ok (.iconst 0, 1) := by decide +kernel
theorem dL_344 : decode code 344 = .ok (.ireturn, 1) := by decide +kernel
theorem dL_345 : decode code 345 = .ok (.aload_n 1, 1) := by decide +kernel
theorem dL_346 : decode code 346 = .ok (.aload_n 0, 1) := by decide +kernel
theorem dL_347 : decode code 347 = .ok (.iload_n 3, 1) := by decide +kernel
theorem dL_348 : decode code 348 = .ok (.iconst 1, 1) := by decide +kernel
theorem dL_349 : decode code 349 = .ok (.iadd, 1) := by decide +kernel
theorem dL_350 : decode code 350 = .ok (.iaload, 1) := by decide +kernel
theorem dL_351 : decode code 351 = .ok (.aload_n 0, 1) := by decide +kernel
theorem dL_352 : decode code 352 = .ok (.iload_n 3, 1) := by decide +kernel
theorem dL_353 : decode code 353 = .ok (.iconst 2, 1) := by decide +kernel
theorem dL_354 : decode code 354 = .ok (.iadd, 1) := by decide +kernel
theorem dL_355 : decode code 355 = .ok (.iaload, 1) := by decide +kernel
theorem dL_356 : decode code 356 = .ok (.aload_n 0, 1) := by decide +kernel
theorem dL_357 : decode code 357 = .ok (.iload_n 3, 1) := by decide +kernel
theorem dL_358 : decode code 358 = .ok (.iconst 3, 1) := by decide +kernel
theorem dL_359 : decode code 359 = .ok (.iadd, 1) := by decide +kernel
theorem dL_360 : decode code 360 = .ok (.iaload, 1) := by decide +kernel
theorem dL_361 : decode code 361 = .ok (.aload_n 0, 1) := by decide +kernel
theorem dL_362 : decode code 362 = .ok (.iload_n 3, 1) := by decide +kernel
theorem dL_363 : decode code 363 = .ok (.iconst 4, 1) := by decide +kernel
theorem dL_364 : decode code 364 = .ok (.iadd, 1) := by decide +kernel
theorem dL_365 : decode code 365 = .ok (.iaload, 1) := by decide +kernel
theorem dL_366 : decode code 366 = .ok (.ifCond .eq 7, 3) := by decide +kernel
theorem dL_369 : decode code 369 = .ok (.iconst 1, 1) := by decide +kernel
theorem dL_370 : decode code 370 = .ok (.goto 4, 3) := by decide +kernel
theorem dL_373 : decode code 373 = .ok (.iconst 0, 1) := by decide +kernel
theorem dL_374 : decode code 374 = .ok (.invokevirtual 36, 3) := by decide +kernel
theorem dL_377 : decode code 377 = .ok (.aload_n 2, 1) := by decide +kernel
theorem dL_378 : decode code 378 = .ok (.aload_n 0, 1) := by decide +kernel
theorem dL_379 : decode code 379 = .ok (.iload_n 3, 1) := by decide +kernel
theorem dL_380 : decode code 380 = .ok (.iconst 1, 1) := by decide +kernel
theorem dL_381 : decode code 381 = .ok (.iadd, 1) := by decide +kernel
theorem dL_382 : decode code 382 = .ok (.iaload, 1) := by decide +kernel
theorem dL_383 : decode code 383 = .ok (.aload_n 0, 1) := by decide +kernel
theorem dL_384 : decode code 384 = .ok (.iload_n 3, 1) := by decide +kernel
theorem dL_385 : decode code 385 = .ok (.iconst 2, 1) := by decide +kernel
theorem dL_386 : decode code 386 = .ok (.iadd, 1) := by decide +kernel
theorem dL_387 : decode code 387 = .ok (.iaload, 1) := by decide +kernel
theorem dL_388 : decode code 388 = .ok (.aload_n 0, 1) := by decide +kernel
theorem dL_389 : decode code 389 = .ok (.iload_n 3, 1) := by decide +kernel
theorem dL_390 : decode code 390 = .ok (.iconst 3, 1) := by decide +kernel
theorem dL_391 : decode code 391 = .ok (.iadd, 1) := by decide +kernel
theorem dL_392 : decode code 392 = .ok (.iaload, 1) := by decide +kernel
theorem dL_393 : decode code 393 = .ok (.aload_n 0, 1) := by decide +kernel
theorem dL_394 : decode code 394 = .ok (.iload_n 3, 1) := by decide +kernel
theorem dL_395 : decode code 395 = .ok (.iconst 4, 1) := by decide +kernel
theorem dL_396 : decode code 396 = .ok (.iadd, 1) := by decide +kernel
theorem dL_397 : decode code 397 = .ok (.iaload, 1) := by decide +kernel
theorem dL_398 : decode code 398 = .ok (.ifCond .eq 7, 3) := by decide +kernel
theorem dL_401 : decode code 401 = .ok (.iconst 1, 1) := by decide +kernel
theorem dL_402 : decode code 402 = .ok (.goto 4, 3) := by decide +kernel
theorem dL_405 : decode code 405 = .ok (.iconst 0, 1) := by decide +kernel
theorem dL_406 : decode code 406 = .ok (.invokevirtual 40, 3) := by decide +kernel
theorem dL_409 : decode code 409 = .ok (.if_icmp .eq 563, 3) := by decide +kernel
theorem dL_412 : decode code 412 = .ok (.iconst 0, 1) := by decide +kernel
theorem dL_413 : decode code 413 = .ok (.ireturn, 1) := by decide +kernel
theorem dL_414 : decode code 414 = .ok (.aload_n 1, 1) := by decide +kernel
theorem dL_415 : decode code 415 = .ok (.aload_n 0, 1) := by decide +kernel
theorem dL_416 : decode code 416 = .ok (.iload_n 3, 1) := by decide +kernel
theorem dL_417 : decode code 417 = .ok (.iconst 1, 1) := by decide +kernel
theorem dL_418 : decode code 418 = .ok (.iadd, 1) := by decide +kernel
theorem dL_419 : decode code 419 = .ok (.iaload, 1) := by decide +kernel
theorem dL_420 : decode code 420 = .ok (.aload_n 0, 1) := by decide +kernel
theorem dL_421 : decode code 421 = .ok (.iload_n 3, 1) := by decide +kernel
theorem dL_422 : decode code 422 = .ok (.iconst 2, 1) := by decide +kernel
theorem dL_423 : decode code 423 = .ok (.iadd, 1) := by decide +kernel
theorem dL_424 : decode code 424 = .ok (.iaload, 1) := by decide +kernel
theorem dL_425 : decode code 425 = .ok (.invokevirtual 41, 3) := by decide +kernel
theorem dL_428 : decode code 428 = .ok (.aload_n 2, 1) := by decide +kernel
theorem dL_429 : decode code 429 = .ok (.aload_n 0, 1) := by decide +kernel
theorem dL_430 : decode code 430 = .ok (.iload_n 3, 1) := by decide +kernel
theorem dL_431 : decode code 431 = .ok (.iconst 1, 1) := by decide +kernel
theorem dL_432 : decode code 432 = .ok (.iadd, 1) := by decide +kernel
theorem dL_433 : decode code 433 = .ok (.iaload, 1) := by decide +kernel
theorem dL_434 : decode code 434 = .ok (.aload_n 0, 1) := by decide +kernel
theorem dL_435 : decode code 435 = .ok (.iload_n 3, 1) := by decide +kernel
theorem dL_436 : decode code 436 = .ok (.iconst 2, 1) := by decide +kernel
theorem dL_437 : decode code 437 = .ok (.iadd, 1) := by decide +kernel
theorem dL_438 : decode code 438 = .ok (.iaload, 1) := by decide +kernel
theorem dL_439 : decode code 439 = .ok (.invokevirtual 44, 3) := by decide +kernel
theorem dL_442 : decode code 442 = .ok (.if_icmp .eq 530, 3) := by decide +kernel
theorem dL_445 : decode code 445 = .ok (.iconst 0, 1) := by decide +kernel
theorem dL_446 : decode code 446 = .ok (.ireturn, 1) := by decide +kernel
theorem dL_447 : decode code 447 = .ok (.aload_n 1, 1) := by decide +kernel
theorem dL_448 : decode code 448 = .ok (.invokevirtual 45, 3) := by decide +kernel
theorem dL_451 : decode code 451 = .ok (.aload_n 2, 1) := by decide +kernel
theorem dL_452 : decode code 452 = .ok (.invokevirtual 49, 3) := by decide +kernel
theorem dL_455 : decode code 455 = .ok (.if_icmp .eq 517, 3) := by decide +kernel
theorem dL_458 : decode code 458 = .ok (.iconst 0, 1) := by decide +kernel
theorem dL_459 : decode code 459 = .ok (.ireturn, 1) := by decide +kernel
theorem dL_460 : decode code 460 = .ok (.aload_n 1, 1) := by decide +kernel
theorem dL_461 : decode code 461 = .ok (.invokevirtual 50, 3) := by decide +kernel
theorem dL_464 : decode code 464 = .ok (.aload_n 2, 1) := by decide +kernel
theorem dL_465 : decode code 465 = .ok (.invokevirtual 53, 3) := by decide +kernel
theorem dL_468 : decode code 468 = .ok (.if_icmp .eq 504, 3) := by decide +kernel
theorem dL_471 : decode code 471 = .ok (.iconst 0, 1) := by decide +kernel
theorem dL_472 : decode code 472 = .ok (.ireturn, 1) := by decide +kernel
theorem dL_473 : decode code 473 = .ok (.aload_n 1, 1) := by decide +kernel
theorem dL_474 : decode code 474 = .ok (.aload_n 0, 1) := by decide +kernel
theorem dL_475 : decode code 475 = .ok (.iload_n 3, 1) := by decide +kernel
theorem dL_476 : decode code 476 = .ok (.iconst 1, 1) := by decide +kernel
theorem dL_477 : decode code 477 = .ok (.iadd, 1) := by decide +kernel
theorem dL_478 : decode code 478 = .ok (.iaload, 1) := by decide +kernel
theorem dL_479 : decode code 479 = .ok (.aload_n 0, 1) := by decide +kernel
theorem dL_480 : decode code 480 = .ok (.iload_n 3, 1) := by decide +kernel
theorem dL_481 : decode code 481 = .ok (.iconst 2, 1) := by decide +kernel
theorem dL_482 : decode code 482 = .ok (.iadd, 1) := by decide +kernel
theorem dL_483 : decode code 483 = .ok (.iaload, 1) := by decide +kernel
theorem dL_484 : decode code 484 = .ok (.aload_n 0, 1) := by decide +kernel
theorem dL_485 : decode code 485 = .ok (.iload_n 3, 1) := by decide +kernel
theorem dL_486 : decode code 486 = .ok (.iconst 3, 1) := by decide +kernel
theorem dL_487 : decode code 487 = .ok (.iadd, 1) := by decide +kernel
theorem dL_488 : decode code 488 = .ok (.iaload, 1) := by decide +kernel
theorem dL_489 : decode code 489 = .ok (.aload_n 0, 1) := by decide +kernel
theorem dL_490 : decode code 490 = .ok (.iload_n 3, 1) := by decide +kernel
theorem dL_491 : decode code 491 = .ok (.iconst 4, 1) := by decide +kernel
theorem dL_492 : decode code 492 = .ok (.iadd, 1) := by decide +kernel
theorem dL_493 : decode code 493 = .ok (.iaload, 1) := by decide +kernel
theorem dL_494 : decode code 494 = .ok (.invokevirtual 54, 3) := by decide +kernel
theorem dL_497 : decode code 497 = .ok (.aload_n 2, 1) := by decide +kernel
theorem dL_498 : decode code 498 = .ok (.aload_n 0, 1) := by decide +kernel
theorem dL_499 : decode code 499 = .ok (.iload_n 3, 1) := by decide +kernel
theorem dL_500 : decode code 500 = .ok (.iconst 1, 1) := by decide +kernel
theorem dL_501 : decode code 501 = .ok (.iadd, 1) := by decide +kernel
theorem dL_502 : decode code 502 = .ok (.iaload, 1) := by decide +kernel
theorem dL_503 : decode code 503 = .ok (.aload_n 0, 1) := by decide +kernel
theorem dL_504 : decode code 504 = .ok (.iload_n 3, 1) := by decide +kernel
theorem dL_505 : decode code 505 = .ok (.iconst 2, 1) := by decide +kernel
theorem dL_506 : decode code 506 = .ok (.iadd, 1) := by decide +kernel
theorem dL_507 : decode code 507 = .ok (.iaload, 1) := by decide +kernel
theorem dL_508 : decode code 508 = .ok (.aload_n 0, 1) := by decide +kernel
theorem dL_509 : decode code 509 = .ok (.iload_n 3, 1) := by decide +kernel
theorem dL_510 : decode code 510 = .ok (.iconst 3, 1) := by decide +kernel
theorem dL_511 : decode code 511 = .ok (.iadd, 1) := by decide +kernel
theorem dL_512 : decode code 512 = .ok (.iaload, 1) := by decide +kernel
theorem dL_513 : decode code 513 = .ok (.aload_n 0, 1) := by decide +kernel
theorem dL_514 : decode code 514 = .ok (.iload_n 3, 1) := by decide +kernel
theorem dL_515 : decode code 515 = .ok (.iconst 4, 1) := by decide +kernel
theorem dL_516 : decode code 516 = .ok (.iadd, 1) := by decide +kernel
theorem dL_517 : decode code 517 = .ok (.iaload, 1) := by decide +kernel
theorem dL_518 : decode code 518 = .ok (.invokevirtual 58, 3) := by decide +kernel
theorem dL_521 : decode code 521 = .ok (.if_icmp .eq 451, 3) := by decide +kernel
theorem dL_524 : decode code 524 = .ok (.iconst 0, 1) := by decide +kernel
theorem dL_525 : decode code 525 = .ok (.ireturn, 1) := by decide +kernel
theorem dL_526 : decode code 526 = .ok (.aload_n 1, 1) := by decide +kernel
theorem dL_527 : decode code 527 = .ok (.aload_n 0, 1) := by decide +kernel
theorem dL_528 : decode code 528 = .ok (.iload_n 3, 1) := by decide +kernel
theorem dL_529 : decode code 529 = .ok (.iconst 1, 1) := by decide +kernel
theorem dL_530 : decode code 530 = .ok (.iadd, 1) := by decide +kernel
theorem dL_531 : decode code 531 = .ok (.iaload, 1) := by decide +kernel
theorem dL_532 : decode code 532 = .ok (.invokevirtual 59, 3) := by decide +kernel
theorem dL_535 : decode code 535 = .ok (.aload_n 2, 1) := by decide +kernel
theorem dL_536 : decode code 536 = .ok (.aload_n 0, 1) := by decide +kernel
theorem dL_537 : decode code 537 = .ok (.iload_n 3, 1) := by decide +kernel
theorem dL_538 : decode code 538 = .ok (.iconst 1, 1) := by decide +kernel
theorem dL_539 : decode code 539 = .ok (.iadd, 1) := by decide +kernel
theorem dL_540 : decode code 540 = .ok (.iaload, 1) := by decide +kernel
theorem dL_541 : decode code 541 = .ok (.invokevirtual 63, 3) := by decide +kernel
theorem dL_544 : decode code 544 = .ok (.if_icmp .eq 428, 3) := by decide +kernel
theorem dL_547 : decode code 547 = .ok (.iconst 0, 1) := by decide +kernel
theorem dL_548 : decode code 548 = .ok (.ireturn, 1) := by decide +kernel
theorem dL_549 : decode code 549 = .ok (.aload_n 1, 1) := by decide +kernel
theorem dL_550 : decode code 550 = .ok (.aload_n 0, 1) := by decide +kernel
theorem dL_551 : decode code 551 = .ok (.iload_n 3, 1) := by decide +kernel
theorem dL_552 : decode code 552 = .ok (.iconst 1, 1) := by decide +kernel
theorem dL_553 : decode code 553 = .ok (.iadd, 1) := by decide +kernel
theorem dL_554 : decode code 554 = .ok (.iaload, 1) := by decide +kernel
theorem dL_555 : decode code 555 = .ok (.aload_n 0, 1) := by decide +kernel
theorem dL_556 : decode code 556 = .ok (.iload_n 3, 1) := by decide +kernel
theorem dL_557 : decode code 557 = .ok (.iconst 2, 1) := by decide +kernel
theorem dL_558 : decode code 558 = .ok (.iadd, 1) := by decide +kernel
theorem dL_559 : decode code 559 = .ok (.iaload, 1) := by decide +kernel
theorem dL_560 : decode code 560 = .ok (.aload_n 0, 1) := by decide +kernel
theorem dL_561 : decode code 561 = .ok (.iload_n 3, 1) := by decide +kernel
theorem dL_562 : decode code 562 = .ok (.iconst 3, 1) := by decide +kernel
theorem dL_563 : decode code 563 = .ok (.iadd, 1) := by decide +kernel
theorem dL_564 : decode code 564 = .ok (.iaload, 1) := by decide +kernel
theorem dL_565 : decode code 565 = .ok (.invokevirtual 64, 3) := by decide +kernel
theorem dL_568 : decode code 568 = .ok (.aload_n 2, 1) := by decide +kernel
theorem dL_569 : decode code 569 = .ok (.aload_n 0, 1) := by decide +kernel
theorem dL_570 : decode code 570 = .ok (.iload_n 3, 1) := by decide +kernel
theorem dL_571 : decode code 571 = .ok (.iconst 1, 1) := by decide +kernel
theorem dL_572 : decode code 572 = .ok (.iadd, 1) := by decide +kernel
theorem dL_573 : decode code 573 = .ok (.iaload, 1) := by decide +kernel
theorem dL_574 : decode code 574 = .ok (.aload_n 0, 1) := by decide +kernel
theorem dL_575 : decode code 575 = .ok (.iload_n 3, 1) := by decide +kernel
theorem dL_576 : decode code 576 = .ok (.iconst 2, 1) := by decide +kernel
theorem dL_577 : decode code 577 = .ok (.iadd, 1) := by decide +kernel
theorem dL_578 : decode code 578 = .ok (.iaload, 1) := by decide +kernel
theorem dL_579 : decode code 579 = .ok (.aload_n 0, 1) := by decide +kernel
theorem dL_580 : decode code 580 = .ok (.iload_n 3, 1) := by decide +kernel
theorem dL_581 : decode code 581 = .ok (.iconst 3, 1) := by decide +kernel
theorem dL_582 : decode code 582 = .ok (.iadd, 1) := by decide +kernel
theorem dL_583 : decode code 583 = .ok (.iaload, 1) := by decide +kernel
theorem dL_584 : decode code 584 = .ok (.invokevirtual 67, 3) := by decide +kernel
theorem dL_587 : decode code 587 = .ok (.if_icmp .eq 385, 3) := by decide +kernel
theorem dL_590 : decode code 590 = .ok (.iconst 0, 1) := by decide +kernel
theorem dL_591 : decode code 591 = .ok (.ireturn, 1) := by decide +kernel
theorem dL_592 : decode code 592 = .ok (.aload_n 1, 1) := by decide +kernel
theorem dL_593 : decode code 593 = .ok (.aload_n 0, 1) := by decide +kernel
theorem dL_594 : decode code 594 = .ok (.iload_n 3, 1) := by decide +kernel
theorem dL_595 : decode code 595 = .ok (.iconst 1, 1) := by decide +kernel
theorem dL_596 : decode code 596 = .ok (.iadd, 1) := by decide +kernel
theorem dL_597 : decode code 597 = .ok (.iaload, 1) := by decide +kernel
theorem dL_598 : decode code 598 = .ok (.invokevirtual 68, 3) := by decide +kernel
theorem dL_601 : decode code 601 = .ok (.aload_n 2, 1) := by decide +kernel
theorem dL_602 : decode code 602 = .ok (.aload_n 0, 1) := by decide +kernel
theorem dL_603 : decode code 603 = .ok (.iload_n 3, 1) := by decide +kernel
theorem dL_604 : decode code 604 = .ok (.iconst 1, 1) := by decide +kernel
theorem dL_605 : decode code 605 = .ok (.iadd, 1) := by decide +kernel
theorem dL_606 : decode code 606 = .ok (.iaload, 1) := by decide +kernel
theorem dL_607 : decode code 607 = .ok (.invokevirtual 71, 3) := by decide +kernel
theorem dL_610 : decode code 610 = .ok (.if_icmp .eq 362, 3) := by decide +kernel
theorem dL_613 : decode code 613 = .ok (.iconst 0, 1) := by decide +kernel
theorem dL_614 : decode code 614 = .ok (.ireturn, 1) := by decide +kernel
theorem dL_615 : decode code 615 = .ok (.aload_n 1, 1) := by decide +kernel
theorem dL_616 : decode code 616 = .ok (.invokevirtual 72, 3) := by decide +kernel
theorem dL_619 : decode code 619 = .ok (.aload_n 2, 1) := by decide +kernel
theorem dL_620 : decode code 620 = .ok (.invokevirtual 75, 3) := by decide +kernel
theorem dL_623 : decode code 623 = .ok (.if_icmp .eq 349, 3) := by decide +kernel
theorem dL_626 : decode code 626 = .ok (.iconst 0, 1) := by decide +kernel
theorem dL_627 : decode code 627 = .ok (.ireturn, 1) := by decide +kernel
theorem dL_628 : decode code 628 = .ok (.aload_n 1, 1) := by decide +kernel
theorem dL_629 : decode code 629 = .ok (.aload_n 0, 1) := by decide +kernel
theorem dL_630 : decode code 630 = .ok (.iload_n 3, 1) := by decide +kernel
theorem dL_631 : decode code 631 = .ok (.iconst 1, 1) := by decide +kernel
theorem dL_632 : decode code 632 = .ok (.iadd, 1) := by decide +kernel
theorem dL_633 : decode code 633 = .ok (.iaload, 1) := by decide +kernel
theorem dL_634 : decode code 634 = .ok (.aload_n 0, 1) := by decide +kernel
theorem dL_635 : decode code 635 = .ok (.iload_n 3, 1) := by decide +kernel
theorem dL_636 : decode code 636 = .ok (.iconst 2, 1) := by decide +kernel
theorem dL_637 : decode code 637 = .ok (.iadd, 1) := by decide +kernel
theorem dL_638 : decode code 638 = .ok (.iaload, 1) := by decide +kernel
theorem dL_639 : decode code 639 = .ok (.invokevirtual 76, 3) := by decide +kernel
theorem dL_642 : decode code 642 = .ok (.aload_n 2, 1) := by decide +kernel
theorem dL_643 : decode code 643 = .ok (.aload_n 0, 1) := by decide +kernel
theorem dL_644 : decode code 644 = .ok (.iload_n 3, 1) := by decide +kernel
theorem dL_645 : decode code 645 = .ok (.iconst 1, 1) := by decide +kernel
theorem dL_646 : decode code 646 = .ok (.iadd, 1) := by decide +kernel
theorem dL_647 : decode code 647 = .ok (.iaload, 1) := by decide +kernel
theorem dL_648 : decode code 648 = .ok (.aload_n 0, 1) := by decide +kernel
theorem dL_649 : decode code 649 = .ok (.iload_n 3, 1) := by decide +kernel
theorem dL_650 : decode code 650 = .ok (.iconst 2, 1) := by decide +kernel
theorem dL_651 : decode code 651 = .ok (.iadd, 1) := by decide +kernel
theorem dL_652 : decode code 652 = .ok (.iaload, 1) := by decide +kernel
theorem dL_653 : decode code 653 = .ok (.invokevirtual 79, 3) := by decide +kernel
theorem dL_656 : decode code 656 = .ok (.if_icmp .eq 316, 3) := by decide +kernel
theorem dL_659 : decode code 659 = .ok (.iconst 0, 1) := by decide +kernel
theorem dL_660 : decode code 660 = .ok (.ireturn, 1) := by decide +kernel
theorem dL_661 : decode code 661 = .ok (.aload_n 1, 1) := by decide +kernel
theorem dL_662 : decode code 662 = .ok (.aload_n 0, 1) := by decide +kernel
theorem dL_663 : decode code 663 = .ok (.iload_n 3, 1) := by decide +kernel
theorem dL_664 : decode code 664 = .ok (.iconst 1, 1) := by decide +kernel
theorem dL_665 : decode code 665 = .ok (.iadd, 1) := by decide +kernel
theorem dL_666 : decode code 666 = .ok (.iaload, 1) := by decide +kernel
theorem dL_667 : decode code 667 = .ok (.aload_n 0, 1) := by decide +kernel
theorem dL_668 : decode code 668 = .ok (.iload_n 3, 1) := by decide +kernel
theorem dL_669 : decode code 669 = .ok (.iconst 2, 1) := by decide +kernel
theorem dL_670 : decode code 670 = .ok (.iadd, 1) := by decide +kernel
theorem dL_671 : decode code 671 = .ok (.iaload, 1) := by decide +kernel
theorem dL_672 : decode code 672 = .ok (.aload_n 0, 1) := by decide +kernel
theorem dL_673 : decode code 673 = .ok (.iload_n 3, 1) := by decide +kernel
theorem dL_674 : decode code 674 = .ok (.iconst 3, 1) := by decide +kernel
theorem dL_675 : decode code 675 = .ok (.iadd, 1) := by decide +kernel
theorem dL_676 : decode code 676 = .ok (.iaload, 1) := by decide +kernel
theorem dL_677 : decode code 677 = .ok (.invokevirtual 80, 3) := by decide +kernel
theorem dL_680 : decode code 680 = .ok (.aload_n 2, 1) := by decide +kernel
theorem dL_681 : decode code 681 = .ok (.aload_n 0, 1) := by decide +kernel
theorem dL_682 : decode code 682 = .ok (.iload_n 3, 1) := by decide +kernel
theorem dL_683 : decode code 683 = .ok (.iconst 1, 1) := by decide +kernel
theorem dL_684 : decode code 684 = .ok (.iadd, 1) := by decide +kernel
theorem dL_685 : decode code 685 = .ok (.iaload, 1) := by decide +kernel
theorem dL_686 : decode code 686 = .ok (.aload_n 0, 1) := by decide +kernel
theorem dL_687 : decode code 687 = .ok (.iload_n 3, 1) := by decide +kernel
theorem dL_688 : decode code 688 = .ok (.iconst 2, 1) := by decide +kernel
theorem dL_689 : decode code 689 = .ok (.iadd, 1) := by decide +kernel
theorem dL_690 : decode code 690 = .ok (.iaload, 1) := by decide +kernel
theorem dL_691 : decode code 691 = .ok (.aload_n 0, 1) := by decide +kernel
theorem dL_692 : decode code 692 = .ok (.iload_n 3, 1) := by decide +kernel
theorem dL_693 : decode code 693 = .ok (.iconst 3, 1) := by decide +kernel
theorem dL_694 : decode code 694 = .ok (.iadd, 1) := by decide +kernel
theorem dL_695 : decode code 695 = .ok (.iaload, 1) := by decide +kernel
theorem dL_696 : decode code 696 = .ok (.invokevirtual 83, 3) := by decide +kernel
theorem dL_699 : decode code 699 = .ok (.if_icmp .eq 273, 3) := by decide +kernel
theorem dL_702 : decode code 702 = .ok (.iconst 0, 1) := by decide +kernel
theorem dL_703 : decode code 703 = .ok (.ireturn, 1) := by decide +kernel
theorem dL_704 : decode code 704 = .ok (.aload_n 1, 1) := by decide +kernel
theorem dL_705 : decode code 705 = .ok (.aload_n 0, 1) := by decide +kernel
theorem dL_706 : decode code 706 = .ok (.iload_n 3, 1) := by decide +kernel
theorem dL_707 : decode code 707 = .ok (.iconst 1, 1) := by decide +kernel
theorem dL_708 : decode code 708 = .ok (.iadd, 1) := by decide +kernel
theorem dL_709 : decode code 709 = .ok (.iaload, 1) := by decide +kernel
theorem dL_710 : decode code 710 = .ok (.aload_n 0, 1) := by decide +kernel
theorem dL_711 : decode code 711 = .ok (.iload_n 3, 1) := by decide +kernel
theorem dL_712 : decode code 712 = .ok (.iconst 2, 1) := by decide +kernel
theorem dL_713 : decode code 713 = .ok (.iadd, 1) := by decide +kernel
theorem dL_714 : decode code 714 = .ok (.iaload, 1) := by decide +kernel
theorem dL_715 : decode code 715 = .ok (.aload_n 0, 1) := by decide +kernel
theorem dL_716 : decode code 716 = .ok (.iload_n 3, 1) := by decide +kernel
theorem dL_717 : decode code 717 = .ok (.iconst 3, 1) := by decide +kernel
theorem dL_718 : decode code 718 = .ok (.iadd, 1) := by decide +kernel
theorem dL_719 : decode code 719 = .ok (.iaload, 1) := by decide +kernel
theorem dL_720 : decode code 720 = .ok (.aload_n 0, 1) := by decide +kernel
theorem dL_721 : decode code 721 = .ok (.iload_n 3, 1) := by decide +kernel
theorem dL_722 : decode code 722 = .ok (.iconst 4, 1) := by decide +kernel
theorem dL_723 : decode code 723 = .ok (.iadd, 1) := by decide +kernel
theorem dL_724 : decode code 724 = .ok (.iaload, 1) := by decide +kernel
theorem dL_725 : decode code 725 = .ok (.invokevirtual 84, 3) := by decide +kernel
theorem dL_728 : decode code 728 = .ok (.aload_n 2, 1) := by decide +kernel
theorem dL_729 : decode code 729 = .ok (.aload_n 0, 1) := by decide +kernel
theorem dL_730 : decode code 730 = .ok (.iload_n 3, 1) := by decide +kernel
theorem dL_731 : decode code 731 = .ok (.iconst 1, 1) := by decide +kernel
theorem dL_732 : decode code 732 = .ok (.iadd, 1) := by decide +kernel
theorem dL_733 : decode code 733 = .ok (.iaload, 1) := by decide +kernel
theorem dL_734 : decode code 734 = .ok (.aload_n 0, 1) := by decide +kernel
theorem dL_735 : decode code 735 = .ok (.iload_n 3, 1) := by decide +kernel
theorem dL_736 : decode code 736 = .ok (.iconst 2, 1) := by decide +kernel
theorem dL_737 : decode code 737 = .ok (.iadd, 1) := by decide +kernel
theorem dL_738 : decode code 738 = .ok (.iaload, 1) := by decide +kernel
theorem dL_739 : decode code 739 = .ok (.aload_n 0, 1) := by decide +kernel
theorem dL_740 : decode code 740 = .ok (.iload_n 3, 1) := by decide +kernel
theorem dL_741 : decode code 741 = .ok (.iconst 3, 1) := by decide +kernel
theorem dL_742 : decode code 742 = .ok (.iadd, 1) := by decide +kernel
theorem dL_743 : decode code 743 = .ok (.iaload, 1) := by decide +kernel
theorem dL_744 : decode code 744 = .ok (.aload_n 0, 1) := by decide +kernel
theorem dL_745 : decode code 745 = .ok (.iload_n 3, 1) := by decide +kernel
theorem dL_746 : decode code 746 = .ok (.iconst 4, 1) := by decide +kernel
theorem dL_747 : decode code 747 = .ok (.iadd, 1) := by decide +kernel
theorem dL_748 : decode code 748 = .ok (.iaload, 1) := by decide +kernel
theorem dL_749 : decode code 749 = .ok (.invokevirtual 87, 3) := by decide +kernel
theorem dL_752 : decode code 752 = .ok (.if_icmp .eq 220, 3) := by decide +kernel
theorem dL_755 : decode code 755 = .ok (.iconst 0, 1) := by decide +kernel
theorem dL_756 : decode code 756 = .ok (.ireturn, 1) := by decide +kernel
theorem dL_757 : decode code 757 = .ok (.aload_n 1, 1) := by decide +kernel
theorem dL_758 : decode code 758 = .ok (.aload_n 0, 1) := by decide +kernel
theorem dL_759 : decode code 759 = .ok (.iload_n 3, 1) := by decide +kernel
theorem dL_760 : decode code 760 = .ok (.iconst 1, 1) := by decide +kernel
theorem dL_761 : decode code 761 = .ok (.iadd, 1) := by decide +kernel
theorem dL_762 : decode code 762 = .ok (.iaload, 1) := by decide +kernel
theorem dL_763 : decode code 763 = .ok (.aload_n 0, 1) := by decide +kernel
theorem dL_764 : decode code 764 = .ok (.iload_n 3, 1) := by decide +kernel
theorem dL_765 : decode code 765 = .ok (.iconst 2, 1) := by decide +kernel
theorem dL_766 : decode code 766 = .ok (.iadd, 1) := by decide +kernel
theorem dL_767 : decode code 767 = .ok (.iaload, 1) := by decide +kernel
theorem dL_768 : decode code 768 = .ok (.ifCond .eq 7, 3) := by decide +kernel
theorem dL_771 : decode code 771 = .ok (.iconst 1, 1) := by decide +kernel
theorem dL_772 : decode code 772 = .ok (.goto 4, 3) := by decide +kernel
theorem dL_775 : decode code 775 = .ok (.iconst 0, 1) := by decide +kernel
theorem dL_776 : decode code 776 = .ok (.aload_n 0, 1) := by decide +kernel
theorem dL_777 : decode code 777 = .ok (.iload_n 3, 1) := by decide +kernel
theorem dL_778 : decode code 778 = .ok (.iconst 3, 1) := by decide +kernel
theorem dL_779 : decode code 779 = .ok (.iadd, 1) := by decide +kernel
theorem dL_780 : decode code 780 = .ok (.iaload, 1) := by decide +kernel
theorem dL_781 : decode code 781 = .ok (.aload_n 0, 1) := by decide +kernel
theorem dL_782 : decode code 782 = .ok (.iload_n 3, 1) := by decide +kernel
theorem dL_783 : decode code 783 = .ok (.iconst 4, 1) := by decide +kernel
theorem dL_784 : decode code 784 = .ok (.iadd, 1) := by decide +kernel
theorem dL_785 : decode code 785 = .ok (.iaload, 1) := by decide +kernel
theorem dL_786 : decode code 786 = .ok (.invokevirtual 88, 3) := by decide +kernel
theorem dL_789 : decode code 789 = .ok (.aload_n 2, 1) := by decide +kernel
theorem dL_790 : decode code 790 = .ok (.aload_n 0, 1) := by decide +kernel
theorem dL_791 : decode code 791 = .ok (.iload_n 3, 1) := by decide +kernel
theorem dL_792 : decode code 792 = .ok (.iconst 1, 1) := by decide +kernel
theorem dL_793 : decode code 793 = .ok (.iadd, 1) := by decide +kernel
theorem dL_794 : decode code 794 = .ok (.iaload, 1) := by decide +kernel
theorem dL_795 : decode code 795 = .ok (.aload_n 0, 1) := by decide +kernel
theorem dL_796 : decode code 796 = .ok (.iload_n 3, 1) := by decide +kernel
theorem dL_797 : decode code 797 = .ok (.iconst 2, 1) := by decide +kernel
theorem dL_798 : decode code 798 = .ok (.iadd, 1) := by decide +kernel
theorem dL_799 : decode code 799 = .ok (.iaload, 1) := by decide +kernel
theorem dL_800 : decode code 800 = .ok (.ifCond .eq 7, 3) := by decide +kernel
theorem dL_803 : decode code 803 = .ok (.iconst 1, 1) := by decide +kernel
theorem dL_804 : decode code 804 = .ok (.goto 4, 3) := by decide +kernel
theorem dL_807 : decode code 807 = .ok (.iconst 0, 1) := by decide +kernel
theorem dL_808 : decode code 808 = .ok (.aload_n 0, 1) := by decide +kernel
theorem dL_809 : decode code 809 = .ok (.iload_n 3, 1) := by decide +kernel
theorem dL_810 : decode code 810 = .ok (.iconst 3, 1) := by decide +kernel
theorem dL_811 : decode code 811 = .ok (.iadd, 1) := by decide +kernel
theorem dL_812 : decode code 812 = .ok (.iaload, 1) := by decide +kernel
theorem dL_813 : decode code 813 = .ok (.aload_n 0, 1) := by decide +kernel
theorem dL_814 : decode code 814 = .ok (.iload_n 3, 1) := by decide +kernel
theorem dL_815 : decode code 815 = .ok (.iconst 4, 1) := by decide +kernel
theorem dL_816 : decode code 816 = .ok (.iadd, 1) := by decide +kernel
theorem dL_817 : decode code 817 = .ok (.iaload, 1) := by decide +kernel
theorem dL_818 : decode code 818 = .ok (.invokevirtual 92, 3) := by decide +kernel
theorem dL_821 : decode code 821 = .ok (.if_icmp .eq 151, 3) := by decide +kernel
theorem dL_824 : decode code 824 = .ok (.iconst 0, 1) := by decide +kernel
theorem dL_825 : decode code 825 = .ok (.ireturn, 1) := by decide +kernel
theorem dL_826 : decode code 826 = .ok (.aload_n 1, 1) := by decide +kernel
theorem dL_827 : decode code 827 = .ok (.aload_n 0, 1) := by decide +kernel
theorem dL_828 : decode code 828 = .ok (.iload_n 3, 1) := by decide +kernel
theorem dL_829 : decode code 829 = .ok (.iconst 1, 1) := by decide +kernel
theorem dL_830 : decode code 830 = .ok (.iadd, 1) := by decide +kernel
theorem dL_831 : decode code 831 = .ok (.iaload, 1) := by decide +kernel
theorem dL_832 : decode code 832 = .ok (.invokevirtual 93, 3) := by decide +kernel
theorem dL_835 : decode code 835 = .ok (.aload_n 2, 1) := by decide +kernel
theorem dL_836 : decode code 836 = .ok (.aload_n 0, 1) := by decide +kernel
theorem dL_837 : decode code 837 = .ok (.iload_n 3, 1) := by decide +kernel
theorem dL_838 : decode code 838 = .ok (.iconst 1, 1) := by decide +kernel
theorem dL_839 : decode code 839 = .ok (.iadd, 1) := by decide +kernel
theorem dL_840 : decode code 840 = .ok (.iaload, 1) := by decide +kernel
theorem dL_841 : decode code 841 = .ok (.invokevirtual 96, 3) := by decide +kernel
theorem dL_844 : decode code 844 = .ok (.if_icmp .eq 128, 3) := by decide +kernel
theorem dL_847 : decode code 847 = .ok (.iconst 0, 1) := by decide +kernel
theorem dL_848 : decode code 848 = .ok (.ireturn, 1) := by decide +kernel
theorem dL_849 : decode code 849 = .ok (.aload_n 1, 1) := by decide +kernel
theorem dL_850 : decode code 850 = .ok (.aload_n 0, 1) := by decide +kernel
theorem dL_851 : decode code 851 = .ok (.iload_n 3, 1) := by decide +kernel
theorem dL_852 : decode code 852 = .ok (.iconst 1, 1) := by decide +kernel
theorem dL_853 : decode code 853 = .ok (.iadd, 1) := by decide +kernel
theorem dL_854 : decode code 854 = .ok (.iaload, 1) := by decide +kernel
theorem dL_855 : decode code 855 = .ok (.i2l, 1) := by decide +kernel
theorem dL_856 : decode code 856 = .ok (.bipush 32, 2) := by decide +kernel
theorem dL_858 : decode code 858 = .ok (.lshl, 1) := by decide +kernel
theorem dL_859 : decode code 859 = .ok (.aload_n 0, 1) := by decide +kernel
theorem dL_860 : decode code 860 = .ok (.iload_n 3, 1) := by decide +kernel
theorem dL_861 : decode code 861 = .ok (.iconst 2, 1) := by decide +kernel
theorem dL_862 : decode code 862 = .ok (.iadd, 1) := by decide +kernel
theorem dL_863 : decode code 863 = .ok (.iaload, 1) := by decide +kernel
theorem dL_864 : decode code 864 = .ok (.i2l, 1) := by decide +kernel
theorem dL_865 : decode code 865 = .ok (.ldc2_w 97, 3) := by decide +kernel
theorem dL_868 : decode code 868 = .ok (.land, 1) := by decide +kernel
theorem dL_869 : decode code 869 = .ok (.lor, 1) := by decide +kernel
theorem dL_870 : decode code 870 = .ok (.aload_n 0, 1) := by decide +kernel
theorem dL_871 : decode code 871 = .ok (.iload_n 3, 1) := by decide +kernel
theorem dL_872 : decode code 872 = .ok (.iconst 3, 1) := by decide +kernel
theorem dL_873 : decode code 873 = .ok (.iadd, 1) := by decide +kernel
theorem dL_874 : decode code 874 = .ok (.iaload, 1) := by decide +kernel
theorem dL_875 : decode code 875 = .ok (.invokevirtual 99, 3) := by decide +kernel
theorem dL_878 : decode code 878 = .ok (.aload_n 2, 1) := by decide +kernel
theorem dL_879 : decode code 879 = .ok (.aload_n 0, 1) := by decide +kernel
theorem dL_880 : decode code 880 = .ok (.iload_n 3, 1) := by decide +kernel
theorem dL_881 : decode code 881 = .ok (.iconst 1, 1) := by decide +kernel
theorem dL_882 : decode code 882 = .ok (.iadd, 1) := by decide +kernel
theorem dL_883 : decode code 883 = .ok (.iaload, 1) := by decide +kernel
theorem dL_884 : decode code 884 = .ok (.i2l, 1) := by decide +kernel
theorem dL_885 : decode code 885 = .ok (.bipush 32, 2) := by decide +kernel
theorem dL_887 : decode code 887 = .ok (.lshl, 1) := by decide +kernel
theorem dL_888 : decode code 888 = .ok (.aload_n 0, 1) := by decide +kernel
theorem dL_889 : decode code 889 = .ok (.iload_n 3, 1) := by decide +kernel
theorem dL_890 : decode code 890 = .ok (.iconst 2, 1) := by decide +kernel
theorem dL_891 : decode code 891 = .ok (.iadd, 1) := by decide +kernel
theorem dL_892 : decode code 892 = .ok (.iaload, 1) := by decide +kernel
theorem dL_893 : decode code 893 = .ok (.i2l, 1) := by decide +kernel
theorem dL_894 : decode code 894 = .ok (.ldc2_w 97, 3) := by decide +kernel
theorem dL_897 : decode code 897 = .ok (.land, 1) := by decide +kernel
theorem dL_898 : decode code 898 = .ok (.lor, 1) := by decide +kernel
theorem dL_899 : decode code 899 = .ok (.aload_n 0, 1) := by decide +kernel
theorem dL_900 : decode code 900 = .ok (.iload_n 3, 1) := by decide +kernel
theorem dL_901 : decode code 901 = .ok (.iconst 3, 1) := by decide +kernel
theorem dL_902 : decode code 902 = .ok (.iadd, 1) := by decide +kernel
theorem dL_903 : decode code 903 = .ok (.iaload, 1) := by decide +kernel
theorem dL_904 : decode code 904 = .ok (.invokevirtual 103, 3) := by decide +kernel
theorem dL_907 : decode code 907 = .ok (.if_icmp .eq 65, 3) := by decide +kernel
theorem dL_910 : decode code 910 = .ok (.iconst 0, 1) := by decide +kernel
theorem dL_911 : decode code 911 = .ok (.ireturn, 1) := by decide +kernel
theorem dL_912 : decode code 912 = .ok (.aload_n 1, 1) := by decide +kernel
theorem dL_913 : decode code 913 = .ok (.aload_n 0, 1) := by decide +kernel
theorem dL_914 : decode code 914 = .ok (.iload_n 3, 1) := by decide +kernel
theorem dL_915 : decode code 915 = .ok (.iconst 1, 1) := by decide +kernel
theorem dL_916 : decode code 916 = .ok (.iadd, 1) := by decide +kernel
theorem dL_917 : decode code 917 = .ok (.iaload, 1) := by decide +kernel
theorem dL_918 : decode code 918 = .ok (.invokevirtual 104, 3) := by decide +kernel
theorem dL_921 : decode code 921 = .ok (.aload_n 2, 1) := by decide +kernel
theorem dL_922 : decode code 922 = .ok (.aload_n 0, 1) := by decide +kernel
theorem dL_923 : decode code 923 = .ok (.iload_n 3, 1) := by decide +kernel
theorem dL_924 : decode code 924 = .ok (.iconst 1, 1) := by decide +kernel
theorem dL_925 : decode code 925 = .ok (.iadd, 1) := by decide +kernel
theorem dL_926 : decode code 926 = .ok (.iaload, 1) := by decide +kernel
theorem dL_927 : decode code 927 = .ok (.invokevirtual 107, 3) := by decide +kernel
theorem dL_930 : decode code 930 = .ok (.if_icmp .eq 42, 3) := by decide +kernel
theorem dL_933 : decode code 933 = .ok (.iconst 0, 1) := by decide +kernel
theorem dL_934 : decode code 934 = .ok (.ireturn, 1) := by decide +kernel
theorem dL_935 : decode code 935 = .ok (.aload_n 1, 1) := by decide +kernel
theorem dL_936 : decode code 936 = .ok (.aload_n 0, 1) := by decide +kernel
theorem dL_937 : decode code 937 = .ok (.iload_n 3, 1) := by decide +kernel
theorem dL_938 : decode code 938 = .ok (.iconst 1, 1) := by decide +kernel
theorem dL_939 : decode code 939 = .ok (.iadd, 1) := by decide +kernel
theorem dL_940 : decode code 940 = .ok (.iaload, 1) := by decide +kernel
theorem dL_941 : decode code 941 = .ok (.invokevirtual 108, 3) := by decide +kernel
theorem dL_944 : decode code 944 = .ok (.aload_n 2, 1) := by decide +kernel
theorem dL_945 : decode code 945 = .ok (.aload_n 0, 1) := by decide +kernel
theorem dL_946 : decode code 946 = .ok (.iload_n 3, 1) := by decide +kernel
theorem dL_947 : decode code 947 = .ok (.iconst 1, 1) := by decide +kernel
theorem dL_948 : decode code 948 = .ok (.iadd, 1) := by decide +kernel
theorem dL_949 : decode code 949 = .ok (.iaload, 1) := by decide +kernel
theorem dL_950 : decode code 950 = .ok (.invokevirtual 111, 3) := by decide +kernel
theorem dL_953 : decode code 953 = .ok (.if_icmp .eq 19, 3) := by decide +kernel
theorem dL_956 : decode code 956 = .ok (.iconst 0, 1) := by decide +kernel
theorem dL_957 : decode code 957 = .ok (.ireturn, 1) := by decide +kernel
theorem dL_958 : decode code 958 = .ok (.aload_n 1, 1) := by decide +kernel
theorem dL_959 : decode code 959 = .ok (.invokevirtual 112, 3) := by decide +kernel
theorem dL_962 : decode code 962 = .ok (.aload_n 2, 1) := by decide +kernel
theorem dL_963 : decode code 963 = .ok (.invokevirtual 116, 3) := by decide +kernel
theorem dL_966 : decode code 966 = .ok (.lcmp, 1) := by decide +kernel
theorem dL_967 : decode code 967 = .ok (.ifCond .eq 5, 3) := by decide +kernel
theorem dL_970 : decode code 970 = .ok (.iconst 0, 1) := by decide +kernel
theorem dL_971 : decode code 971 = .ok (.ireturn, 1) := by decide +kernel
theorem dL_972 : decode code 972 = .ok (.iinc 3 6, 3) := by decide +kernel
theorem dL_975 : decode code 975 = .ok (.goto (-957), 3) := by decide +kernel
theorem dL_978 : decode code 978 = .ok (.iconst 1, 1) := by decide +kernel
theorem dL_979 : decode code 979 = .ok (.ireturn, 1) := by decide +kernel
