/-! THE CLAIM OUT OF ONE WALK OF THE LAW'S BODY. Your part is whole_start (and what it stands on); all else here is the same for every law, but numbers. -/
def R_law : String := "RationalSessionLaw"
def lw_P (b : Addr) (xs : List Int32) (args : Array Value) (s : State) : Prop := args = #[.ref b] ∧ s.IntsAt b xs ∧ xs.length ≤ 2048 ∧ (Jvm.Cond.and given_1 narrow_1).before args s = true
def lw_Q (_ : Array Value) (s : State) (o : Outcome) (t : State) : Prop := o = .returned (some (.int 1)) ∧ Framed s o t [] 600000 7302250
def lw_Z (below : List Frame) (a : Array Value) (s : State) : State → Prop := fun t => ∃ o, t.status = .running ∧ Ended t below o ∧ lw_Q a s o t
/-- the law's own end, with 1 on the stack, nothing written that was there before, its room as the claim has it -/
theorem lw_ret {p : Program} {l : Launch} {e : Env} {s : State} {m : MethodId} {below : List Frame} {meth : Method} {c : Code} {b : Nat} (hx : p.tables.exec = Jvm.exec) (hb : c.code = code) (hr : meth.sig.returnType = ret) (hlocks : meth.locks = false) {pc : Nat} {H : Heap} {ls : Array Slot} (hdg : decode code pc = .ok (.ireturn, 1)) : W p l e room_1 s m #[Value.ref b] below meth c H [] 600000 7302250 (lw_Z below #[Value.ref b] s) (F0 m pc ls [.int 1]) := by
  intro T hT X
  obtain ⟨fs, hret, hrun, hended, hW, hframe⟩ := X.leave (v := some (.int 1)) (hlocks := hlocks) (fun h => by rw [hr] at h; cases h)
  have hmeth' : T.vm.method? m = some meth := X.method'
  refine ⟨T.setFrames fs, ?_, .returned (some (.int 1)), hrun, hended, rfl, ⟨_, rfl⟩, hW, hframe⟩
  jvm_step X.here [X.here.top, hx, hb, hdg, hmeth', hr, ret, narrow_b1]
  (try refine ⟨rfl, ?_⟩); (try refine ⟨rfl, ?_⟩)
  first | (intro acts; rw [hret _ acts rfl rfl rfl]) | rw [hret _ _ rfl rfl rfl]
  exact Steps.refl _
/-- what holds at the law's entry: the machine, the code, the tables' words (any of lw_tbl by 'hts w (by decide +kernel)'), the script of L ints xs at the cell b, what the Statement gives of the start (any of its parts by flat_of_before) -/
def lw_At (p : Program) (s : State) (m : MethodId) (meth : Method) (c : Code) (b L : Nat) (xs : Nat → Int32) : Prop :=
  p.tables.exec = Jvm.exec ∧ c.code = code ∧ meth.sig.returnType = ret ∧ c.maxLocals = 4 ∧ s.vm.findClass R_law = some m.cls ∧ (∀ w ∈ lw_tbl, w.before #[Value.ref b] s = true) ∧ va_X b L xs s s.heap ∧ b < s.heap.size ∧ meth.locks = false ∧ (Jvm.Cond.and given_1 narrow_1).before #[Value.ref b] s = true
theorem d_Lw_law_0 : decode code 0 = .ok (.new 7, 3) := by decide +kernel
theorem d_Lw_law_3 : decode code 3 = .ok (.dup, 1) := by decide +kernel
theorem d_Lw_law_4 : decode code 4 = .ok (.invokespecial 9, 3) := by decide +kernel
theorem d_Lw_law_7 : decode code 7 = .ok (.astore_n 1, 1) := by decide +kernel
theorem d_Lw_law_8 : decode code 8 = .ok (.new 10, 3) := by decide +kernel
theorem d_Lw_law_11 : decode code 11 = .ok (.dup, 1) := by decide +kernel
theorem d_Lw_law_12 : decode code 12 = .ok (.invokespecial 12, 3) := by decide +kernel
theorem d_Lw_law_15 : decode code 15 = .ok (.astore_n 2, 1) := by decide +kernel
theorem d_Lw_law_16 : decode code 16 = .ok (.iconst 0, 1) := by decide +kernel
theorem d_Lw_law_17 : decode code 17 = .ok (.istore_n 3, 1) := by decide +kernel
theorem d_Lw_law_18 : decode code 18 = .ok (.iload_n 3, 1) := by decide +kernel
theorem d_Lw_law_19 : decode code 19 = .ok (.aload_n 0, 1) := by decide +kernel
theorem d_Lw_law_20 : decode code 20 = .ok (.arraylength, 1) := by decide +kernel
theorem d_Lw_law_21 : decode code 21 = .ok (.iconst 4, 1) := by decide +kernel
theorem d_Lw_law_22 : decode code 22 = .ok (.isub, 1) := by decide +kernel
theorem d_Lw_law_23 : decode code 23 = .ok (.if_icmp .gt 486, 3) := by decide +kernel
theorem d_Lw_law_26 : decode code 26 = .ok (.aload_n 0, 1) := by decide +kernel
theorem d_Lw_law_27 : decode code 27 = .ok (.iload_n 3, 1) := by decide +kernel
theorem d_Lw_law_28 : decode code 28 = .ok (.iaload, 1) := by decide +kernel
theorem d_Lw_law_29 : decode code 29 = .ok (.bipush 15, 2) := by decide +kernel
theorem d_Lw_law_31 : decode code 31 = .ok (.iand, 1) := by decide +kernel
theorem d_Lw_law_32 : decode code 32 = .ok (.tableswitch 471 0 14 #[76, 99, 152, 165, 178, 191, 240, 299, 322, 335, 348, 371, 404, 437, 460], 76) := by decide +kernel
theorem d_Lw_law_108 : decode code 108 = .ok (.aload_n 1, 1) := by decide +kernel
theorem d_Lw_law_109 : decode code 109 = .ok (.aload_n 0, 1) := by decide +kernel
theorem d_Lw_law_110 : decode code 110 = .ok (.iload_n 3, 1) := by decide +kernel
theorem d_Lw_law_111 : decode code 111 = .ok (.iconst 1, 1) := by decide +kernel
theorem d_Lw_law_112 : decode code 112 = .ok (.iadd, 1) := by decide +kernel
theorem d_Lw_law_113 : decode code 113 = .ok (.iaload, 1) := by decide +kernel
theorem d_Lw_law_114 : decode code 114 = .ok (.invokevirtual 13, 3) := by decide +kernel
theorem d_Lw_law_117 : decode code 117 = .ok (.aload_n 2, 1) := by decide +kernel
theorem d_Lw_law_118 : decode code 118 = .ok (.aload_n 0, 1) := by decide +kernel
theorem d_Lw_law_119 : decode code 119 = .ok (.iload_n 3, 1) := by decide +kernel
theorem d_Lw_law_120 : decode code 120 = .ok (.iconst 1, 1) := by decide +kernel
theorem d_Lw_law_121 : decode code 121 = .ok (.iadd, 1) := by decide +kernel
theorem d_Lw_law_122 : decode code 122 = .ok (.iaload, 1) := by decide +kernel
theorem d_Lw_law_123 : decode code 123 = .ok (.invokevirtual 17, 3) := by decide +kernel
theorem d_Lw_law_126 : decode code 126 = .ok (.if_icmp .eq 377, 3) := by decide +kernel
theorem d_Lw_law_129 : decode code 129 = .ok (.iconst 0, 1) := by decide +kernel
theorem d_Lw_law_130 : decode code 130 = .ok (.ireturn, 1) := by decide +kernel
theorem d_Lw_law_131 : decode code 131 = .ok (.aload_n 1, 1) := by decide +kernel
theorem d_Lw_law_132 : decode code 132 = .ok (.aload_n 0, 1) := by decide +kernel
theorem d_Lw_law_133 : decode code 133 = .ok (.iload_n 3, 1) := by decide +kernel
theorem d_Lw_law_134 : decode code 134 = .ok (.iconst 1, 1) := by decide +kernel
theorem d_Lw_law_135 : decode code 135 = .ok (.iadd, 1) := by decide +kernel
theorem d_Lw_law_136 : decode code 136 = .ok (.iaload, 1) := by decide +kernel
theorem d_Lw_law_137 : decode code 137 = .ok (.i2l, 1) := by decide +kernel
theorem d_Lw_law_138 : decode code 138 = .ok (.bipush 32, 2) := by decide +kernel
theorem d_Lw_law_140 : decode code 140 = .ok (.lshl, 1) := by decide +kernel
theorem d_Lw_law_141 : decode code 141 = .ok (.aload_n 0, 1) := by decide +kernel
theorem d_Lw_law_142 : decode code 142 = .ok (.iload_n 3, 1) := by decide +kernel
theorem d_Lw_law_143 : decode code 143 = .ok (.iconst 2, 1) := by decide +kernel
theorem d_Lw_law_144 : decode code 144 = .ok (.iadd, 1) := by decide +kernel
theorem d_Lw_law_145 : decode code 145 = .ok (.iaload, 1) := by decide +kernel
theorem d_Lw_law_146 : decode code 146 = .ok (.i2l, 1) := by decide +kernel
theorem d_Lw_law_147 : decode code 147 = .ok (.ldc2_w 18, 3) := by decide +kernel
theorem d_Lw_law_150 : decode code 150 = .ok (.land, 1) := by decide +kernel
theorem d_Lw_law_151 : decode code 151 = .ok (.lor, 1) := by decide +kernel
theorem d_Lw_law_152 : decode code 152 = .ok (.invokevirtual 20, 3) := by decide +kernel
theorem d_Lw_law_155 : decode code 155 = .ok (.aload_n 2, 1) := by decide +kernel
theorem d_Lw_law_156 : decode code 156 = .ok (.aload_n 0, 1) := by decide +kernel
theorem d_Lw_law_157 : decode code 157 = .ok (.iload_n 3, 1) := by decide +kernel
theorem d_Lw_law_158 : decode code 158 = .ok (.iconst 1, 1) := by decide +kernel
theorem d_Lw_law_159 : decode code 159 = .ok (.iadd, 1) := by decide +kernel
theorem d_Lw_law_160 : decode code 160 = .ok (.iaload, 1) := by decide +kernel
theorem d_Lw_law_161 : decode code 161 = .ok (.i2l, 1) := by decide +kernel
theorem d_Lw_law_162 : decode code 162 = .ok (.bipush 32, 2) := by decide +kernel
theorem d_Lw_law_164 : decode code 164 = .ok (.lshl, 1) := by decide +kernel
theorem d_Lw_law_165 : decode code 165 = .ok (.aload_n 0, 1) := by decide +kernel
theorem d_Lw_law_166 : decode code 166 = .ok (.iload_n 3, 1) := by decide +kernel
theorem d_Lw_law_167 : decode code 167 = .ok (.iconst 2, 1) := by decide +kernel
theorem d_Lw_law_168 : decode code 168 = .ok (.iadd, 1) := by decide +kernel
theorem d_Lw_law_169 : decode code 169 = .ok (.iaload, 1) := by decide +kernel
theorem d_Lw_law_170 : decode code 170 = .ok (.i2l, 1) := by decide +kernel
theorem d_Lw_law_171 : decode code 171 = .ok (.ldc2_w 18, 3) := by decide +kernel
theorem d_Lw_law_174 : decode code 174 = .ok (.land, 1) := by decide +kernel
theorem d_Lw_law_175 : decode code 175 = .ok (.lor, 1) := by decide +kernel
theorem d_Lw_law_176 : decode code 176 = .ok (.invokevirtual 24, 3) := by decide +kernel
theorem d_Lw_law_179 : decode code 179 = .ok (.if_icmp .eq 324, 3) := by decide +kernel
theorem d_Lw_law_182 : decode code 182 = .ok (.iconst 0, 1) := by decide +kernel
theorem d_Lw_law_183 : decode code 183 = .ok (.ireturn, 1) := by decide +kernel
theorem d_Lw_law_184 : decode code 184 = .ok (.aload_n 1, 1) := by decide +kernel
theorem d_Lw_law_185 : decode code 185 = .ok (.invokevirtual 25, 3) := by decide +kernel
theorem d_Lw_law_188 : decode code 188 = .ok (.aload_n 2, 1) := by decide +kernel
theorem d_Lw_law_189 : decode code 189 = .ok (.invokevirtual 29, 3) := by decide +kernel
theorem d_Lw_law_192 : decode code 192 = .ok (.if_icmp .eq 311, 3) := by decide +kernel
theorem d_Lw_law_195 : decode code 195 = .ok (.iconst 0, 1) := by decide +kernel
theorem d_Lw_law_196 : decode code 196 = .ok (.ireturn, 1) := by decide +kernel
theorem d_Lw_law_197 : decode code 197 = .ok (.aload_n 1, 1) := by decide +kernel
theorem d_Lw_law_198 : decode code 198 = .ok (.invokevirtual 30, 3) := by decide +kernel
theorem d_Lw_law_201 : decode code 201 = .ok (.aload_n 2, 1) := by decide +kernel
theorem d_Lw_law_202 : decode code 202 = .ok (.invokevirtual 33, 3) := by decide +kernel
theorem d_Lw_law_205 : decode code 205 = .ok (.if_icmp .eq 298, 3) := by decide +kernel
theorem d_Lw_law_208 : decode code 208 = .ok (.iconst 0, 1) := by decide +kernel
theorem d_Lw_law_209 : decode code 209 = .ok (.ireturn, 1) := by decide +kernel
theorem d_Lw_law_210 : decode code 210 = .ok (.aload_n 1, 1) := by decide +kernel
theorem d_Lw_law_211 : decode code 211 = .ok (.invokevirtual 34, 3) := by decide +kernel
theorem d_Lw_law_214 : decode code 214 = .ok (.aload_n 2, 1) := by decide +kernel
theorem d_Lw_law_215 : decode code 215 = .ok (.invokevirtual 37, 3) := by decide +kernel
theorem d_Lw_law_218 : decode code 218 = .ok (.if_icmp .eq 285, 3) := by decide +kernel
theorem d_Lw_law_221 : decode code 221 = .ok (.iconst 0, 1) := by decide +kernel
theorem d_Lw_law_222 : decode code 222 = .ok (.ireturn, 1) := by decide +kernel
theorem d_Lw_law_223 : decode code 223 = .ok (.aload_n 1, 1) := by decide +kernel
theorem d_Lw_law_224 : decode code 224 = .ok (.aload_n 0, 1) := by decide +kernel
theorem d_Lw_law_225 : decode code 225 = .ok (.iload_n 3, 1) := by decide +kernel
theorem d_Lw_law_226 : decode code 226 = .ok (.iconst 1, 1) := by decide +kernel
theorem d_Lw_law_227 : decode code 227 = .ok (.iadd, 1) := by decide +kernel
theorem d_Lw_law_228 : decode code 228 = .ok (.iaload, 1) := by decide +kernel
theorem d_Lw_law_229 : decode code 229 = .ok (.aload_n 0, 1) := by decide +kernel
theorem d_Lw_law_230 : decode code 230 = .ok (.iload_n 3, 1) := by decide +kernel
theorem d_Lw_law_231 : decode code 231 = .ok (.iconst 2, 1) := by decide +kernel
theorem d_Lw_law_232 : decode code 232 = .ok (.iadd, 1) := by decide +kernel
theorem d_Lw_law_233 : decode code 233 = .ok (.iaload, 1) := by decide +kernel
theorem d_Lw_law_234 : decode code 234 = .ok (.ifCond .eq 7, 3) := by decide +kernel
theorem d_Lw_law_237 : decode code 237 = .ok (.iconst 1, 1) := by decide +kernel
theorem d_Lw_law_238 : decode code 238 = .ok (.goto 4, 3) := by decide +kernel
theorem d_Lw_law_241 : decode code 241 = .ok (.iconst 0, 1) := by decide +kernel
theorem d_Lw_law_242 : decode code 242 = .ok (.invokevirtual 38, 3) := by decide +kernel
theorem d_Lw_law_245 : decode code 245 = .ok (.aload_n 2, 1) := by decide +kernel
theorem d_Lw_law_246 : decode code 246 = .ok (.aload_n 0, 1) := by decide +kernel
theorem d_Lw_law_247 : decode code 247 = .ok (.iload_n 3, 1) := by decide +kernel
theorem d_Lw_law_248 : decode code 248 = .ok (.iconst 1, 1) := by decide +kernel
theorem d_Lw_law_249 : decode code 249 = .ok (.iadd, 1) := by decide +kernel
theorem d_Lw_law_250 : decode code 250 = .ok (.iaload, 1) := by decide +kernel
theorem d_Lw_law_251 : decode code 251 = .ok (.aload_n 0, 1) := by decide +kernel
theorem d_Lw_law_252 : decode code 252 = .ok (.iload_n 3, 1) := by decide +kernel
theorem d_Lw_law_253 : decode code 253 = .ok (.iconst 2, 1) := by decide +kernel
theorem d_Lw_law_254 : decode code 254 = .ok (.iadd, 1) := by decide +kernel
theorem d_Lw_law_255 : decode code 255 = .ok (.iaload, 1) := by decide +kernel
theorem d_Lw_law_256 : decode code 256 = .ok (.ifCond .eq 7, 3) := by decide +kernel
theorem d_Lw_law_259 : decode code 259 = .ok (.iconst 1, 1) := by decide +kernel
theorem d_Lw_law_260 : decode code 260 = .ok (.goto 4, 3) := by decide +kernel
theorem d_Lw_law_263 : decode code 263 = .ok (.iconst 0, 1) := by decide +kernel
theorem d_Lw_law_264 : decode code 264 = .ok (.invokevirtual 42, 3) := by decide +kernel
theorem d_Lw_law_267 : decode code 267 = .ok (.if_icmp .eq 236, 3) := by decide +kernel
theorem d_Lw_law_270 : decode code 270 = .ok (.iconst 0, 1) := by decide +kernel
theorem d_Lw_law_271 : decode code 271 = .ok (.ireturn, 1) := by decide +kernel
theorem d_Lw_law_272 : decode code 272 = .ok (.aload_n 1, 1) := by decide +kernel
theorem d_Lw_law_273 : decode code 273 = .ok (.aload_n 0, 1) := by decide +kernel
theorem d_Lw_law_274 : decode code 274 = .ok (.iload_n 3, 1) := by decide +kernel
theorem d_Lw_law_275 : decode code 275 = .ok (.iconst 1, 1) := by decide +kernel
theorem d_Lw_law_276 : decode code 276 = .ok (.iadd, 1) := by decide +kernel
theorem d_Lw_law_277 : decode code 277 = .ok (.iaload, 1) := by decide +kernel
theorem d_Lw_law_278 : decode code 278 = .ok (.aload_n 0, 1) := by decide +kernel
theorem d_Lw_law_279 : decode code 279 = .ok (.iload_n 3, 1) := by decide +kernel
theorem d_Lw_law_280 : decode code 280 = .ok (.iconst 2, 1) := by decide +kernel
theorem d_Lw_law_281 : decode code 281 = .ok (.iadd, 1) := by decide +kernel
theorem d_Lw_law_282 : decode code 282 = .ok (.iaload, 1) := by decide +kernel
theorem d_Lw_law_283 : decode code 283 = .ok (.ifCond .eq 7, 3) := by decide +kernel
theorem d_Lw_law_286 : decode code 286 = .ok (.iconst 1, 1) := by decide +kernel
theorem d_Lw_law_287 : decode code 287 = .ok (.goto 4, 3) := by decide +kernel
theorem d_Lw_law_290 : decode code 290 = .ok (.iconst 0, 1) := by decide +kernel
theorem d_Lw_law_291 : decode code 291 = .ok (.aload_n 0, 1) := by decide +kernel
theorem d_Lw_law_292 : decode code 292 = .ok (.iload_n 3, 1) := by decide +kernel
theorem d_Lw_law_293 : decode code 293 = .ok (.iconst 3, 1) := by decide +kernel
theorem d_Lw_law_294 : decode code 294 = .ok (.iadd, 1) := by decide +kernel
theorem d_Lw_law_295 : decode code 295 = .ok (.iaload, 1) := by decide +kernel
theorem d_Lw_law_296 : decode code 296 = .ok (.invokevirtual 43, 3) := by decide +kernel
theorem d_Lw_law_299 : decode code 299 = .ok (.aload_n 2, 1) := by decide +kernel
theorem d_Lw_law_300 : decode code 300 = .ok (.aload_n 0, 1) := by decide +kernel
theorem d_Lw_law_301 : decode code 301 = .ok (.iload_n 3, 1) := by decide +kernel
theorem d_Lw_law_302 : decode code 302 = .ok (.iconst 1, 1) := by decide +kernel
theorem d_Lw_law_303 : decode code 303 = .ok (.iadd, 1) := by decide +kernel
theorem d_Lw_law_304 : decode code 304 = .ok (.iaload, 1) := by decide +kernel
theorem d_Lw_law_305 : decode code 305 = .ok (.aload_n 0, 1) := by decide +kernel
theorem d_Lw_law_306 : decode code 306 = .ok (.iload_n 3, 1) := by decide +kernel
theorem d_Lw_law_307 : decode code 307 = .ok (.iconst 2, 1) := by decide +kernel
theorem d_Lw_law_308 : decode code 308 = .ok (.iadd, 1) := by decide +kernel
theorem d_Lw_law_309 : decode code 309 = .ok (.iaload, 1) := by decide +kernel
theorem d_Lw_law_310 : decode code 310 = .ok (.ifCond .eq 7, 3) := by decide +kernel
theorem d_Lw_law_313 : decode code 313 = .ok (.iconst 1, 1) := by decide +kernel
theorem d_Lw_law_314 : decode code 314 = .ok (.goto 4, 3) := by decide +kernel
theorem d_Lw_law_317 : decode code 317 = .ok (.iconst 0, 1) := by decide +kernel
theorem d_Lw_law_318 : decode code 318 = .ok (.aload_n 0, 1) := by decide +kernel
theorem d_Lw_law_319 : decode code 319 = .ok (.iload_n 3, 1) := by decide +kernel
theorem d_Lw_law_320 : decode code 320 = .ok (.iconst 3, 1) := by decide +kernel
theorem d_Lw_law_321 : decode code 321 = .ok (.iadd, 1) := by decide +kernel
theorem d_Lw_law_322 : decode code 322 = .ok (.iaload, 1) := by decide +kernel
theorem d_Lw_law_323 : decode code 323 = .ok (.invokevirtual 47, 3) := by decide +kernel
theorem d_Lw_law_326 : decode code 326 = .ok (.if_icmp .eq 177, 3) := by decide +kernel
theorem d_Lw_law_329 : decode code 329 = .ok (.iconst 0, 1) := by decide +kernel
theorem d_Lw_law_330 : decode code 330 = .ok (.ireturn, 1) := by decide +kernel
theorem d_Lw_law_331 : decode code 331 = .ok (.aload_n 1, 1) := by decide +kernel
theorem d_Lw_law_332 : decode code 332 = .ok (.aload_n 0, 1) := by decide +kernel
theorem d_Lw_law_333 : decode code 333 = .ok (.iload_n 3, 1) := by decide +kernel
theorem d_Lw_law_334 : decode code 334 = .ok (.iconst 1, 1) := by decide +kernel
theorem d_Lw_law_335 : decode code 335 = .ok (.iadd, 1) := by decide +kernel
theorem d_Lw_law_336 : decode code 336 = .ok (.iaload, 1) := by decide +kernel
theorem d_Lw_law_337 : decode code 337 = .ok (.invokevirtual 48, 3) := by decide +kernel
theorem d_Lw_law_340 : decode code 340 = .ok (.aload_n 2, 1) := by decide +kernel
theorem d_Lw_law_341 : decode code 341 = .ok (.aload_n 0, 1) := by decide +kernel
theorem d_Lw_law_342 : decode code 342 = .ok (.iload_n 3, 1) := by decide +kernel
theorem d_Lw_law_343 : decode code 343 = .ok (.iconst 1, 1) := by decide +kernel
theorem d_Lw_law_344 : decode code 344 = .ok (.iadd, 1) := by decide +kernel
theorem d_Lw_law_345 : decode code 345 = .ok (.iaload, 1) := by decide +kernel
theorem d_Lw_law_346 : decode code 346 = .ok (.invokevirtual 51, 3) := by decide +kernel
theorem d_Lw_law_349 : decode code 349 = .ok (.if_icmp .eq 154, 3) := by decide +kernel
theorem d_Lw_law_352 : decode code 352 = .ok (.iconst 0, 1) := by decide +kernel
theorem d_Lw_law_353 : decode code 353 = .ok (.ireturn, 1) := by decide +kernel
theorem d_Lw_law_354 : decode code 354 = .ok (.aload_n 1, 1) := by decide +kernel
theorem d_Lw_law_355 : decode code 355 = .ok (.invokevirtual 52, 3) := by decide +kernel
theorem d_Lw_law_358 : decode code 358 = .ok (.aload_n 2, 1) := by decide +kernel
theorem d_Lw_law_359 : decode code 359 = .ok (.invokevirtual 55, 3) := by decide +kernel
theorem d_Lw_law_362 : decode code 362 = .ok (.if_icmp .eq 141, 3) := by decide +kernel
theorem d_Lw_law_365 : decode code 365 = .ok (.iconst 0, 1) := by decide +kernel
theorem d_Lw_law_366 : decode code 366 = .ok (.ireturn, 1) := by decide +kernel
theorem d_Lw_law_367 : decode code 367 = .ok (.aload_n 1, 1) := by decide +kernel
theorem d_Lw_law_368 : decode code 368 = .ok (.invokevirtual 56, 3) := by decide +kernel
theorem d_Lw_law_371 : decode code 371 = .ok (.aload_n 2, 1) := by decide +kernel
theorem d_Lw_law_372 : decode code 372 = .ok (.invokevirtual 59, 3) := by decide +kernel
theorem d_Lw_law_375 : decode code 375 = .ok (.if_icmp .eq 128, 3) := by decide +kernel
theorem d_Lw_law_378 : decode code 378 = .ok (.iconst 0, 1) := by decide +kernel
theorem d_Lw_law_379 : decode code 379 = .ok (.ireturn, 1) := by decide +kernel
theorem d_Lw_law_380 : decode code 380 = .ok (.aload_n 1, 1) := by decide +kernel
theorem d_Lw_law_381 : decode code 381 = .ok (.aload_n 0, 1) := by decide +kernel
theorem d_Lw_law_382 : decode code 382 = .ok (.iload_n 3, 1) := by decide +kernel
theorem d_Lw_law_383 : decode code 383 = .ok (.iconst 1, 1) := by decide +kernel
theorem d_Lw_law_384 : decode code 384 = .ok (.iadd, 1) := by decide +kernel
theorem d_Lw_law_385 : decode code 385 = .ok (.iaload, 1) := by decide +kernel
theorem d_Lw_law_386 : decode code 386 = .ok (.invokevirtual 60, 3) := by decide +kernel
theorem d_Lw_law_389 : decode code 389 = .ok (.aload_n 2, 1) := by decide +kernel
theorem d_Lw_law_390 : decode code 390 = .ok (.aload_n 0, 1) := by decide +kernel
theorem d_Lw_law_391 : decode code 391 = .ok (.iload_n 3, 1) := by decide +kernel
theorem d_Lw_law_392 : decode code 392 = .ok (.iconst 1, 1) := by decide +kernel
theorem d_Lw_law_393 : decode code 393 = .ok (.iadd, 1) := by decide +kernel
theorem d_Lw_law_394 : decode code 394 = .ok (.iaload, 1) := by decide +kernel
theorem d_Lw_law_395 : decode code 395 = .ok (.invokevirtual 63, 3) := by decide +kernel
theorem d_Lw_law_398 : decode code 398 = .ok (.if_icmp .eq 105, 3) := by decide +kernel
theorem d_Lw_law_401 : decode code 401 = .ok (.iconst 0, 1) := by decide +kernel
theorem d_Lw_law_402 : decode code 402 = .ok (.ireturn, 1) := by decide +kernel
theorem d_Lw_law_403 : decode code 403 = .ok (.aload_n 1, 1) := by decide +kernel
theorem d_Lw_law_404 : decode code 404 = .ok (.aload_n 0, 1) := by decide +kernel
theorem d_Lw_law_405 : decode code 405 = .ok (.iload_n 3, 1) := by decide +kernel
theorem d_Lw_law_406 : decode code 406 = .ok (.iconst 1, 1) := by decide +kernel
theorem d_Lw_law_407 : decode code 407 = .ok (.iadd, 1) := by decide +kernel
theorem d_Lw_law_408 : decode code 408 = .ok (.iaload, 1) := by decide +kernel
theorem d_Lw_law_409 : decode code 409 = .ok (.aload_n 0, 1) := by decide +kernel
theorem d_Lw_law_410 : decode code 410 = .ok (.iload_n 3, 1) := by decide +kernel
theorem d_Lw_law_411 : decode code 411 = .ok (.iconst 2, 1) := by decide +kernel
theorem d_Lw_law_412 : decode code 412 = .ok (.iadd, 1) := by decide +kernel
theorem d_Lw_law_413 : decode code 413 = .ok (.iaload, 1) := by decide +kernel
theorem d_Lw_law_414 : decode code 414 = .ok (.invokevirtual 64, 3) := by decide +kernel
theorem d_Lw_law_417 : decode code 417 = .ok (.aload_n 2, 1) := by decide +kernel
theorem d_Lw_law_418 : decode code 418 = .ok (.aload_n 0, 1) := by decide +kernel
theorem d_Lw_law_419 : decode code 419 = .ok (.iload_n 3, 1) := by decide +kernel
theorem d_Lw_law_420 : decode code 420 = .ok (.iconst 1, 1) := by decide +kernel
theorem d_Lw_law_421 : decode code 421 = .ok (.iadd, 1) := by decide +kernel
theorem d_Lw_law_422 : decode code 422 = .ok (.iaload, 1) := by decide +kernel
theorem d_Lw_law_423 : decode code 423 = .ok (.aload_n 0, 1) := by decide +kernel
theorem d_Lw_law_424 : decode code 424 = .ok (.iload_n 3, 1) := by decide +kernel
theorem d_Lw_law_425 : decode code 425 = .ok (.iconst 2, 1) := by decide +kernel
theorem d_Lw_law_426 : decode code 426 = .ok (.iadd, 1) := by decide +kernel
theorem d_Lw_law_427 : decode code 427 = .ok (.iaload, 1) := by decide +kernel
theorem d_Lw_law_428 : decode code 428 = .ok (.invokevirtual 68, 3) := by decide +kernel
theorem d_Lw_law_431 : decode code 431 = .ok (.if_icmp .eq 72, 3) := by decide +kernel
theorem d_Lw_law_434 : decode code 434 = .ok (.iconst 0, 1) := by decide +kernel
theorem d_Lw_law_435 : decode code 435 = .ok (.ireturn, 1) := by decide +kernel
theorem d_Lw_law_436 : decode code 436 = .ok (.aload_n 1, 1) := by decide +kernel
theorem d_Lw_law_437 : decode code 437 = .ok (.aload_n 0, 1) := by decide +kernel
theorem d_Lw_law_438 : decode code 438 = .ok (.iload_n 3, 1) := by decide +kernel
theorem d_Lw_law_439 : decode code 439 = .ok (.iconst 1, 1) := by decide +kernel
theorem d_Lw_law_440 : decode code 440 = .ok (.iadd, 1) := by decide +kernel
theorem d_Lw_law_441 : decode code 441 = .ok (.iaload, 1) := by decide +kernel
theorem d_Lw_law_442 : decode code 442 = .ok (.aload_n 0, 1) := by decide +kernel
theorem d_Lw_law_443 : decode code 443 = .ok (.iload_n 3, 1) := by decide +kernel
theorem d_Lw_law_444 : decode code 444 = .ok (.iconst 2, 1) := by decide +kernel
theorem d_Lw_law_445 : decode code 445 = .ok (.iadd, 1) := by decide +kernel
theorem d_Lw_law_446 : decode code 446 = .ok (.iaload, 1) := by decide +kernel
theorem d_Lw_law_447 : decode code 447 = .ok (.invokevirtual 69, 3) := by decide +kernel
theorem d_Lw_law_450 : decode code 450 = .ok (.aload_n 2, 1) := by decide +kernel
theorem d_Lw_law_451 : decode code 451 = .ok (.aload_n 0, 1) := by decide +kernel
theorem d_Lw_law_452 : decode code 452 = .ok (.iload_n 3, 1) := by decide +kernel
theorem d_Lw_law_453 : decode code 453 = .ok (.iconst 1, 1) := by decide +kernel
theorem d_Lw_law_454 : decode code 454 = .ok (.iadd, 1) := by decide +kernel
theorem d_Lw_law_455 : decode code 455 = .ok (.iaload, 1) := by decide +kernel
theorem d_Lw_law_456 : decode code 456 = .ok (.aload_n 0, 1) := by decide +kernel
theorem d_Lw_law_457 : decode code 457 = .ok (.iload_n 3, 1) := by decide +kernel
theorem d_Lw_law_458 : decode code 458 = .ok (.iconst 2, 1) := by decide +kernel
theorem d_Lw_law_459 : decode code 459 = .ok (.iadd, 1) := by decide +kernel
theorem d_Lw_law_460 : decode code 460 = .ok (.iaload, 1) := by decide +kernel
theorem d_Lw_law_461 : decode code 461 = .ok (.invokevirtual 72, 3) := by decide +kernel
theorem d_Lw_law_464 : decode code 464 = .ok (.if_icmp .eq 39, 3) := by decide +kernel
theorem d_Lw_law_467 : decode code 467 = .ok (.iconst 0, 1) := by decide +kernel
theorem d_Lw_law_468 : decode code 468 = .ok (.ireturn, 1) := by decide +kernel
theorem d_Lw_law_469 : decode code 469 = .ok (.aload_n 1, 1) := by decide +kernel
theorem d_Lw_law_470 : decode code 470 = .ok (.aload_n 0, 1) := by decide +kernel
theorem d_Lw_law_471 : decode code 471 = .ok (.iload_n 3, 1) := by decide +kernel
theorem d_Lw_law_472 : decode code 472 = .ok (.iconst 1, 1) := by decide +kernel
theorem d_Lw_law_473 : decode code 473 = .ok (.iadd, 1) := by decide +kernel
theorem d_Lw_law_474 : decode code 474 = .ok (.iaload, 1) := by decide +kernel
theorem d_Lw_law_475 : decode code 475 = .ok (.invokevirtual 73, 3) := by decide +kernel
theorem d_Lw_law_478 : decode code 478 = .ok (.aload_n 2, 1) := by decide +kernel
theorem d_Lw_law_479 : decode code 479 = .ok (.aload_n 0, 1) := by decide +kernel
theorem d_Lw_law_480 : decode code 480 = .ok (.iload_n 3, 1) := by decide +kernel
theorem d_Lw_law_481 : decode code 481 = .ok (.iconst 1, 1) := by decide +kernel
theorem d_Lw_law_482 : decode code 482 = .ok (.iadd, 1) := by decide +kernel
theorem d_Lw_law_483 : decode code 483 = .ok (.iaload, 1) := by decide +kernel
theorem d_Lw_law_484 : decode code 484 = .ok (.invokevirtual 76, 3) := by decide +kernel
theorem d_Lw_law_487 : decode code 487 = .ok (.if_icmp .eq 16, 3) := by decide +kernel
theorem d_Lw_law_490 : decode code 490 = .ok (.iconst 0, 1) := by decide +kernel
theorem d_Lw_law_491 : decode code 491 = .ok (.ireturn, 1) := by decide +kernel
theorem d_Lw_law_492 : decode code 492 = .ok (.aload_n 1, 1) := by decide +kernel
theorem d_Lw_law_493 : decode code 493 = .ok (.invokevirtual 77, 3) := by decide +kernel
theorem d_Lw_law_496 : decode code 496 = .ok (.aload_n 2, 1) := by decide +kernel
theorem d_Lw_law_497 : decode code 497 = .ok (.invokevirtual 80, 3) := by decide +kernel
theorem d_Lw_law_500 : decode code 500 = .ok (.goto 3, 3) := by decide +kernel
theorem d_Lw_law_503 : decode code 503 = .ok (.iinc 3 4, 3) := by decide +kernel
theorem d_Lw_law_506 : decode code 506 = .ok (.goto (-488), 3) := by decide +kernel
theorem d_Lw_law_509 : decode code 509 = .ok (.iconst 1, 1) := by decide +kernel
theorem d_Lw_law_510 : decode code 510 = .ok (.ireturn, 1) := by decide +kernel
theorem and15 (x : Int32) : ∃ k, k < 16 ∧ x &&& 15 = nI k := by
  refine ⟨x.toBitVec.toNat % 16, Nat.mod_lt _ (by decide), ?_⟩
  rw [← Int32.toBitVec_inj]
  apply BitVec.eq_of_toNat_eq
  rw [Int32.toBitVec_and, BitVec.toNat_and]
  show x.toBitVec.toNat &&& (2 ^ 4 - 1) = (Int32.ofNat (x.toBitVec.toNat % 16)).toBitVec.toNat
  rw [Nat.and_two_pow_sub_one_eq_mod]
  have h : x.toBitVec.toNat % 16 < 16 := Nat.mod_lt _ (by decide)
  show _ = (BitVec.ofNat 32 (x.toBitVec.toNat % 16)).toNat
  rw [BitVec.toNat_ofNat]
  exact (Nat.mod_eq_of_lt (by omega)).symm
theorem law_lt {n i : Nat} (hn : n ≤ 2048) (hi : i ≤ 4096) : nI n - 4 < nI i ↔ n < i + 4 := by
  have h := nI_subi (a := n) (b := 4) (by omega) (by omega)
  rw [Int32.lt_iff_toInt_lt, show nI n - 4 = nI n - nI 4 from rfl, h, nI_toInt (by omega)]
  omega
section ZS
variable {X : zX} {E : zE} {nL : Nat} {Q : State → Prop} {kc ks sz : Nat} {M : zM} {pc : Nat} {L : List (Nat × Value)} {rest : List Value} {cc : ByteArray} {own : String} {ret : Option FieldType} {rm : Room}
theorem z_scd (C : zC X E cc own nL ret rm) {b n : Nat} {xs : Nat → Int32} (hX : va_X b n xs X.2.2.2.2.1 X.2.2.2.2.1.heap) (hbl : b < X.2.2.2.2.1.heap.size) (hbA : ¬ E.2.2.1 b) {i : Int32} (j : Nat) (hi : i = nI j) (hj : j < n) (hn : n < 2 ^ 31) (hdg : decode cc pc = .ok (.iaload, 1)) (kk : Z X E nL Q kc ks sz M (pc + 1) L (.int (xs j) :: rest)) : Z X E nL Q kc ks sz M pc L (.int i :: .ref b :: rest) := fun H locs ls h1 h2 h3 h4 => by
  subst hi
  refine va_sld C.1 C.2.1 hX hbl hbA h3 (nI_in hj hn) hdg ?_
  rw [nI_clamp (by omega)]
  exact kk H locs ls h1 h2 h3 h4
theorem z_scl (C : zC X E cc own nL ret rm) {b n : Nat} {xs : Nat → Int32} (hX : va_X b n xs X.2.2.2.2.1 X.2.2.2.2.1.heap) (hbl : b < X.2.2.2.2.1.heap.size) (hbA : ¬ E.2.2.1 b) (hdg : decode cc pc = .ok (.arraylength, 1)) (kk : Z X E nL Q kc ks sz M (pc + 1) L (.int (nI n) :: rest)) : Z X E nL Q kc ks sz M pc L (.ref b :: rest) := fun H locs ls h1 h2 h3 h4 => va_slen C.1 C.2.1 hX hbl hbA h3 hdg (kk H locs ls h1 h2 h3 h4)
end ZS
theorem mst_o {E : zE} {M M' : zM} {m lo hi : Nat} {s : St} (H : mst E M m s) (ho : zoutR M M' lo hi) (hne : m + 15 ≤ lo ∨ hi ≤ m) : mst E M' m s := by
  obtain ⟨cs, fs, ss, nb, sc, bad⟩ := s
  obtain ⟨a1, a2, a3, a4, a5, a6, a7, a8, a9, b1, b2, b3, b4, b5, b6, b7, b8, b9, c1, c2, c3, c4, h1, h2⟩ := H
  exact ⟨a1, a2, a3, a4, a5, a6, a7, a8, a9, b1, b2, b3, b4, b5, b6, b7, b8, b9, c1, c2, c3, c4, mw_R ho h1 hne, h2⟩
theorem mst_c {E : zE} {M : zM} {m : Nat} {s : St} (H : mst E M m s) : ∃ vs : List Value, M m = some (.inr (10, vs)) := by
  obtain ⟨cs, fs, ss, nb, sc, bad⟩ := s
  obtain ⟨a1, a2, a3, a4, a5, a6, a7, a8, a9, b1, b2, b3, b4, b5, b6, b7, b8, b9, c1, c2, c3, c4, h1, h2⟩ := H
  exact ⟨_, h1.1⟩
theorem mst_k {E : zE} {M : zM} {m : Nat} {cs : List Nat} {fs : List (PS × PS)} {ss : List Nat} {nb : Nat → Nat} {sc : Nat} {bad : Int32} (H : mst E M m (cs, fs, ss, nb, sc, bad)) : cs.length ≤ 32 ∧ ∀ f ∈ fs, okF f := by
  obtain ⟨a1, a2, a3, a4, a5, a6, a7, a8, a9, b1, b2, b3, b4, b5, b6, b7, b8, b9, c1, c2, c3, c4, h1, h2⟩ := H
  exact ⟨h2.2.1, h2.2.2.2.2.2.2.2.2.2.2.2.2.1⟩
theorem zse_c {E : zE} {M : zM} {B : Nat} {s : St} (H : zse E M B s) : ∃ vs : List Value, M B = some (.inr (0, vs)) := by
  obtain ⟨cs, fs, ss, nb, sc, bad⟩ := s
  exact ⟨_, H.1⟩
