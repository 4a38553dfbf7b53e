/-- the streams that the claim lets the run draw from -/
abbrev lw_cs : List Choice := [Jvm.Choice.named "NaN.bits"]
theorem lw_bits : nanBits ∈ lw_cs := by first | decide | exact List.mem_cons_self | simp [lw_cs, nanBits]
/-! THE CLAIM OUT OF ONE WALK OF THE LAW'S BODY. Your part is whole_start (and what it stands on); all else here is the same for every law, but numbers. -/
def R_law : String := "HedgeCommitteeLaw"
def lw_P (b : Addr) (xs : List Int32) (args : Array Value) (s : State) : Prop := args = #[.ref b] ∧ s.IntsAt b xs ∧ xs.length ≤ 2048 ∧ (Jvm.Cond.and given_1 narrow_1).before args s = true
/-- what a walk over the start with the record d0 says of its end, said of the start itself -/
theorem lw_closed {s t : State} {o : Outcome} {d0 : Drawn} {L : List Loc} {k n : Nat} (hd0 : s.drawn.sameBut d0 lw_cs) (hv : ∃ v, o = .returned v) (hW : (s.setDrawn d0).WarmedH t.vm) (hs : (s.setDrawn d0).sameButNew ({ t with vm := s.vm } : State) L k n) : State.butDraws s t lw_cs (fun t1 => Framed s o t1 L k n) := by
  have h2 : t.drawn = d0 := congrArg State.drawn hs.1
  refine ⟨⟨hv, hW, State.sameButNew.setDrawn hs s.drawn⟩, ?_, by decide⟩
  rw [h2]
  exact hd0
def lw_Q (_ : Array Value) (s : State) (o : Outcome) (t : State) : Prop := o = .returned (some (.int 1)) ∧ State.butDraws s t lw_cs (fun t1 => Framed s o t1 [] 603072 7198826)
def lw_Z (below : List Frame) (a : Array Value) (s : State) : State → Prop := fun t => ∃ o, t.status = .running ∧ Ended t below o ∧ lw_Q a s o t
/-- the law's own end, with 1 on the stack, nothing written that was there before, its room as the claim has it; d0: the record of draws at this point (at the entry s.drawn: begin with 'refine W.base ?_' and 'have hd0 := Drawn.sameBut.refl s.drawn lw_cs') -/
theorem lw_ret {p : Program} {l : Launch} {e : Env} {s : State} {m : MethodId} {below : List Frame} {meth : Method} {c : Code} {b : Nat} {d0 : Drawn} (hd0 : s.drawn.sameBut d0 lw_cs) (hx : p.tables.exec = Jvm.exec) (hb : c.code = code) (hr : meth.sig.returnType = ret) (hlocks : meth.locks = false) {pc : Nat} {H : Heap} {ls : Array Slot} (hdg : decode code pc = .ok (.ireturn, 1)) : W p l e room_1 (s.setDrawn d0) m #[Value.ref b] below meth c H [] 603072 7198826 (lw_Z below #[Value.ref b] s) (F0 m pc ls [.int 1]) := by
  intro T hT X
  obtain ⟨fs, hret, hrun, hended, hW, hframe⟩ := X.leave (v := some (.int 1)) (hlocks := hlocks) (fun h => by rw [hr] at h; cases h)
  have hmeth' : T.vm.method? m = some meth := X.method'
  refine ⟨T.setFrames fs, ?_, .returned (some (.int 1)), hrun, hended, rfl, lw_closed hd0 ⟨_, rfl⟩ hW hframe⟩
  jvm_step X.here [X.here.top, hx, hb, hdg, hmeth', hr, ret, narrow_b1]
  (try refine ⟨rfl, ?_⟩); (try refine ⟨rfl, ?_⟩)
  first | (intro acts; rw [hret _ acts rfl rfl rfl]) | rw [hret _ _ rfl rfl rfl]
  exact Steps.refl _
/-- what holds at the law's entry: the machine, the code, the tables' words (any of lw_tbl by 'hts w (by decide +kernel)'), the script of L ints xs at the cell b, what the Statement gives of the start (any of its parts by flat_of_before) -/
def lw_At (p : Program) (s : State) (m : MethodId) (meth : Method) (c : Code) (b L : Nat) (xs : Nat → Int32) : Prop :=
  p.tables.exec = Jvm.exec ∧ c.code = code ∧ meth.sig.returnType = ret ∧ c.maxLocals = 9 ∧ s.vm.findClass R_law = some m.cls ∧ (∀ w ∈ lw_tbl, w.before #[Value.ref b] s = true) ∧ va_X b L xs s s.heap ∧ b < s.heap.size ∧ meth.locks = false ∧ (Jvm.Cond.and given_1 narrow_1).before #[Value.ref b] s = true
theorem dA_0 : decode code 0 = .ok (.new 8, 3) ∧ decode code 3 = .ok (.dup, 1) ∧ decode code 4 = .ok (.invokespecial 139, 3) ∧ decode code 7 = .ok (.astore_n 1, 1) ∧ decode code 8 = .ok (.new 140, 3) ∧ decode code 11 = .ok (.dup, 1) ∧ decode code 12 = .ok (.invokespecial 142, 3) ∧ decode code 15 = .ok (.astore_n 2, 1) := by decide +kernel
theorem dL_law_0 : decode code 0 = .ok (.new 8, 3) := dA_0.1
theorem dL_law_3 : decode code 3 = .ok (.dup, 1) := dA_0.2.1
theorem dL_law_4 : decode code 4 = .ok (.invokespecial 139, 3) := dA_0.2.2.1
theorem dL_law_7 : decode code 7 = .ok (.astore_n 1, 1) := dA_0.2.2.2.1
theorem dL_law_8 : decode code 8 = .ok (.new 140, 3) := dA_0.2.2.2.2.1
theorem dL_law_11 : decode code 11 = .ok (.dup, 1) := dA_0.2.2.2.2.2.1
theorem dL_law_12 : decode code 12 = .ok (.invokespecial 142, 3) := dA_0.2.2.2.2.2.2.1
theorem dL_law_15 : decode code 15 = .ok (.astore_n 2, 1) := dA_0.2.2.2.2.2.2.2
theorem dA_1 : decode code 16 = .ok (.iconst 1, 1) ∧ decode code 17 = .ok (.newarray .long, 2) ∧ decode code 19 = .ok (.astore_n 3, 1) ∧ decode code 20 = .ok (.iconst 1, 1) ∧ decode code 21 = .ok (.newarray .double, 2) ∧ decode code 23 = .ok (.astore 4, 2) ∧ decode code 25 = .ok (.iconst 0, 1) ∧ decode code 26 = .ok (.istore 5, 2) := by decide +kernel
theorem dL_law_16 : decode code 16 = .ok (.iconst 1, 1) := dA_1.1
theorem dL_law_17 : decode code 17 = .ok (.newarray .long, 2) := dA_1.2.1
theorem dL_law_19 : decode code 19 = .ok (.astore_n 3, 1) := dA_1.2.2.1
theorem dL_law_20 : decode code 20 = .ok (.iconst 1, 1) := dA_1.2.2.2.1
theorem dL_law_21 : decode code 21 = .ok (.newarray .double, 2) := dA_1.2.2.2.2.1
theorem dL_law_23 : decode code 23 = .ok (.astore 4, 2) := dA_1.2.2.2.2.2.1
theorem dL_law_25 : decode code 25 = .ok (.iconst 0, 1) := dA_1.2.2.2.2.2.2.1
theorem dL_law_26 : decode code 26 = .ok (.istore 5, 2) := dA_1.2.2.2.2.2.2.2
theorem dA_2 : decode code 28 = .ok (.iload 5, 2) ∧ decode code 30 = .ok (.aload_n 0, 1) ∧ decode code 31 = .ok (.arraylength, 1) ∧ decode code 32 = .ok (.iconst 4, 1) ∧ decode code 33 = .ok (.isub, 1) ∧ decode code 34 = .ok (.if_icmp .gt 1423, 3) ∧ decode code 37 = .ok (.aload_n 0, 1) ∧ decode code 38 = .ok (.iload 5, 2) := by decide +kernel
theorem dL_law_28 : decode code 28 = .ok (.iload 5, 2) := dA_2.1
theorem dL_law_30 : decode code 30 = .ok (.aload_n 0, 1) := dA_2.2.1
theorem dL_law_31 : decode code 31 = .ok (.arraylength, 1) := dA_2.2.2.1
theorem dL_law_32 : decode code 32 = .ok (.iconst 4, 1) := dA_2.2.2.2.1
theorem dL_law_33 : decode code 33 = .ok (.isub, 1) := dA_2.2.2.2.2.1
theorem dL_law_34 : decode code 34 = .ok (.if_icmp .gt 1423, 3) := dA_2.2.2.2.2.2.1
theorem dL_law_37 : decode code 37 = .ok (.aload_n 0, 1) := dA_2.2.2.2.2.2.2.1
theorem dL_law_38 : decode code 38 = .ok (.iload 5, 2) := dA_2.2.2.2.2.2.2.2
theorem dA_3 : decode code 40 = .ok (.iaload, 1) ∧ decode code 41 = .ok (.bipush 63, 2) ∧ decode code 43 = .ok (.iand, 1) ∧ decode code 44 = .ok (.tableswitch 1407 0 47 #[208, 260, 300, 352, 392, 420, 448, 461, 474, 502, 530, 558, 586, 626, 639, 667, 695, 723, 751, 779, 807, 835, 863, 891, 931, 971, 1011, 1039, 1067, 1080, 1093, 1106, 1119, 1147, 1160, 1173, 1186, 1203, 1220, 1233, 1263, 1279, 1295, 1311, 1339, 1367, 1383, 1394], 208) ∧ decode code 252 = .ok (.aload_n 1, 1) ∧ decode code 253 = .ok (.aload_n 0, 1) ∧ decode code 254 = .ok (.iload 5, 2) ∧ decode code 256 = .ok (.iconst 1, 1) := by decide +kernel
theorem dL_law_40 : decode code 40 = .ok (.iaload, 1) := dA_3.1
theorem dL_law_41 : decode code 41 = .ok (.bipush 63, 2) := dA_3.2.1
theorem dL_law_43 : decode code 43 = .ok (.iand, 1) := dA_3.2.2.1
theorem dL_law_44 : decode code 44 = .ok (.tableswitch 1407 0 47 #[208, 260, 300, 352, 392, 420, 448, 461, 474, 502, 530, 558, 586, 626, 639, 667, 695, 723, 751, 779, 807, 835, 863, 891, 931, 971, 1011, 1039, 1067, 1080, 1093, 1106, 1119, 1147, 1160, 1173, 1186, 1203, 1220, 1233, 1263, 1279, 1295, 1311, 1339, 1367, 1383, 1394], 208) := dA_3.2.2.2.1
theorem dL_law_252 : decode code 252 = .ok (.aload_n 1, 1) := dA_3.2.2.2.2.1
theorem dL_law_253 : decode code 253 = .ok (.aload_n 0, 1) := dA_3.2.2.2.2.2.1
theorem dL_law_254 : decode code 254 = .ok (.iload 5, 2) := dA_3.2.2.2.2.2.2.1
theorem dL_law_256 : decode code 256 = .ok (.iconst 1, 1) := dA_3.2.2.2.2.2.2.2
theorem dA_4 : decode code 257 = .ok (.iadd, 1) ∧ decode code 258 = .ok (.iaload, 1) ∧ decode code 259 = .ok (.aload_n 0, 1) ∧ decode code 260 = .ok (.iload 5, 2) ∧ decode code 262 = .ok (.iconst 2, 1) ∧ decode code 263 = .ok (.iadd, 1) ∧ decode code 264 = .ok (.iaload, 1) ∧ decode code 265 = .ok (.aload_n 0, 1) := by decide +kernel
theorem dL_law_257 : decode code 257 = .ok (.iadd, 1) := dA_4.1
theorem dL_law_258 : decode code 258 = .ok (.iaload, 1) := dA_4.2.1
theorem dL_law_259 : decode code 259 = .ok (.aload_n 0, 1) := dA_4.2.2.1
theorem dL_law_260 : decode code 260 = .ok (.iload 5, 2) := dA_4.2.2.2.1
theorem dL_law_262 : decode code 262 = .ok (.iconst 2, 1) := dA_4.2.2.2.2.1
theorem dL_law_263 : decode code 263 = .ok (.iadd, 1) := dA_4.2.2.2.2.2.1
theorem dL_law_264 : decode code 264 = .ok (.iaload, 1) := dA_4.2.2.2.2.2.2.1
theorem dL_law_265 : decode code 265 = .ok (.aload_n 0, 1) := dA_4.2.2.2.2.2.2.2
theorem dA_5 : decode code 266 = .ok (.iload 5, 2) ∧ decode code 268 = .ok (.iconst 3, 1) ∧ decode code 269 = .ok (.iadd, 1) ∧ decode code 270 = .ok (.iaload, 1) ∧ decode code 271 = .ok (.aload_n 3, 1) ∧ decode code 272 = .ok (.invokestatic 143, 3) ∧ decode code 275 = .ok (.istore 6, 2) ∧ decode code 277 = .ok (.aload_n 2, 1) := by decide +kernel
theorem dL_law_266 : decode code 266 = .ok (.iload 5, 2) := dA_5.1
theorem dL_law_268 : decode code 268 = .ok (.iconst 3, 1) := dA_5.2.1
theorem dL_law_269 : decode code 269 = .ok (.iadd, 1) := dA_5.2.2.1
theorem dL_law_270 : decode code 270 = .ok (.iaload, 1) := dA_5.2.2.2.1
theorem dL_law_271 : decode code 271 = .ok (.aload_n 3, 1) := dA_5.2.2.2.2.1
theorem dL_law_272 : decode code 272 = .ok (.invokestatic 143, 3) := dA_5.2.2.2.2.2.1
theorem dL_law_275 : decode code 275 = .ok (.istore 6, 2) := dA_5.2.2.2.2.2.2.1
theorem dL_law_277 : decode code 277 = .ok (.aload_n 2, 1) := dA_5.2.2.2.2.2.2.2
theorem dA_6 : decode code 278 = .ok (.aload_n 0, 1) ∧ decode code 279 = .ok (.iload 5, 2) ∧ decode code 281 = .ok (.iconst 1, 1) ∧ decode code 282 = .ok (.iadd, 1) ∧ decode code 283 = .ok (.iaload, 1) ∧ decode code 284 = .ok (.aload_n 0, 1) ∧ decode code 285 = .ok (.iload 5, 2) ∧ decode code 287 = .ok (.iconst 2, 1) := by decide +kernel
theorem dL_law_278 : decode code 278 = .ok (.aload_n 0, 1) := dA_6.1
theorem dL_law_279 : decode code 279 = .ok (.iload 5, 2) := dA_6.2.1
theorem dL_law_281 : decode code 281 = .ok (.iconst 1, 1) := dA_6.2.2.1
theorem dL_law_282 : decode code 282 = .ok (.iadd, 1) := dA_6.2.2.2.1
theorem dL_law_283 : decode code 283 = .ok (.iaload, 1) := dA_6.2.2.2.2.1
theorem dL_law_284 : decode code 284 = .ok (.aload_n 0, 1) := dA_6.2.2.2.2.2.1
theorem dL_law_285 : decode code 285 = .ok (.iload 5, 2) := dA_6.2.2.2.2.2.2.1
theorem dL_law_287 : decode code 287 = .ok (.iconst 2, 1) := dA_6.2.2.2.2.2.2.2
theorem dA_7 : decode code 288 = .ok (.iadd, 1) ∧ decode code 289 = .ok (.iaload, 1) ∧ decode code 290 = .ok (.aload_n 0, 1) ∧ decode code 291 = .ok (.iload 5, 2) ∧ decode code 293 = .ok (.iconst 3, 1) ∧ decode code 294 = .ok (.iadd, 1) ∧ decode code 295 = .ok (.iaload, 1) ∧ decode code 296 = .ok (.invokevirtual 148, 3) := by decide +kernel
theorem dL_law_288 : decode code 288 = .ok (.iadd, 1) := dA_7.1
theorem dL_law_289 : decode code 289 = .ok (.iaload, 1) := dA_7.2.1
theorem dL_law_290 : decode code 290 = .ok (.aload_n 0, 1) := dA_7.2.2.1
theorem dL_law_291 : decode code 291 = .ok (.iload 5, 2) := dA_7.2.2.2.1
theorem dL_law_293 : decode code 293 = .ok (.iconst 3, 1) := dA_7.2.2.2.2.1
theorem dL_law_294 : decode code 294 = .ok (.iadd, 1) := dA_7.2.2.2.2.2.1
theorem dL_law_295 : decode code 295 = .ok (.iaload, 1) := dA_7.2.2.2.2.2.2.1
theorem dL_law_296 : decode code 296 = .ok (.invokevirtual 148, 3) := dA_7.2.2.2.2.2.2.2
theorem dA_8 : decode code 299 = .ok (.istore 7, 2) ∧ decode code 301 = .ok (.goto 1150, 3) ∧ decode code 304 = .ok (.aload_n 1, 1) ∧ decode code 305 = .ok (.aload_n 0, 1) ∧ decode code 306 = .ok (.iload 5, 2) ∧ decode code 308 = .ok (.iconst 1, 1) ∧ decode code 309 = .ok (.iadd, 1) ∧ decode code 310 = .ok (.iaload, 1) := by decide +kernel
theorem dL_law_299 : decode code 299 = .ok (.istore 7, 2) := dA_8.1
theorem dL_law_301 : decode code 301 = .ok (.goto 1150, 3) := dA_8.2.1
theorem dL_law_304 : decode code 304 = .ok (.aload_n 1, 1) := dA_8.2.2.1
theorem dL_law_305 : decode code 305 = .ok (.aload_n 0, 1) := dA_8.2.2.2.1
theorem dL_law_306 : decode code 306 = .ok (.iload 5, 2) := dA_8.2.2.2.2.1
theorem dL_law_308 : decode code 308 = .ok (.iconst 1, 1) := dA_8.2.2.2.2.2.1
theorem dL_law_309 : decode code 309 = .ok (.iadd, 1) := dA_8.2.2.2.2.2.2.1
theorem dL_law_310 : decode code 310 = .ok (.iaload, 1) := dA_8.2.2.2.2.2.2.2
theorem dA_9 : decode code 311 = .ok (.aload_n 0, 1) ∧ decode code 312 = .ok (.iload 5, 2) ∧ decode code 314 = .ok (.iconst 2, 1) ∧ decode code 315 = .ok (.iadd, 1) ∧ decode code 316 = .ok (.iaload, 1) ∧ decode code 317 = .ok (.aload_n 3, 1) ∧ decode code 318 = .ok (.invokestatic 149, 3) ∧ decode code 321 = .ok (.istore 6, 2) := by decide +kernel
theorem dL_law_311 : decode code 311 = .ok (.aload_n 0, 1) := dA_9.1
theorem dL_law_312 : decode code 312 = .ok (.iload 5, 2) := dA_9.2.1
theorem dL_law_314 : decode code 314 = .ok (.iconst 2, 1) := dA_9.2.2.1
theorem dL_law_315 : decode code 315 = .ok (.iadd, 1) := dA_9.2.2.2.1
theorem dL_law_316 : decode code 316 = .ok (.iaload, 1) := dA_9.2.2.2.2.1
theorem dL_law_317 : decode code 317 = .ok (.aload_n 3, 1) := dA_9.2.2.2.2.2.1
theorem dL_law_318 : decode code 318 = .ok (.invokestatic 149, 3) := dA_9.2.2.2.2.2.2.1
theorem dL_law_321 : decode code 321 = .ok (.istore 6, 2) := dA_9.2.2.2.2.2.2.2
theorem dA_10 : decode code 323 = .ok (.aload_n 2, 1) ∧ decode code 324 = .ok (.aload_n 0, 1) ∧ decode code 325 = .ok (.iload 5, 2) ∧ decode code 327 = .ok (.iconst 1, 1) ∧ decode code 328 = .ok (.iadd, 1) ∧ decode code 329 = .ok (.iaload, 1) ∧ decode code 330 = .ok (.aload_n 0, 1) ∧ decode code 331 = .ok (.iload 5, 2) := by decide +kernel
theorem dL_law_323 : decode code 323 = .ok (.aload_n 2, 1) := dA_10.1
theorem dL_law_324 : decode code 324 = .ok (.aload_n 0, 1) := dA_10.2.1
theorem dL_law_325 : decode code 325 = .ok (.iload 5, 2) := dA_10.2.2.1
theorem dL_law_327 : decode code 327 = .ok (.iconst 1, 1) := dA_10.2.2.2.1
theorem dL_law_328 : decode code 328 = .ok (.iadd, 1) := dA_10.2.2.2.2.1
theorem dL_law_329 : decode code 329 = .ok (.iaload, 1) := dA_10.2.2.2.2.2.1
theorem dL_law_330 : decode code 330 = .ok (.aload_n 0, 1) := dA_10.2.2.2.2.2.2.1
theorem dL_law_331 : decode code 331 = .ok (.iload 5, 2) := dA_10.2.2.2.2.2.2.2
theorem dA_11 : decode code 333 = .ok (.iconst 2, 1) ∧ decode code 334 = .ok (.iadd, 1) ∧ decode code 335 = .ok (.iaload, 1) ∧ decode code 336 = .ok (.invokevirtual 152, 3) ∧ decode code 339 = .ok (.istore 7, 2) ∧ decode code 341 = .ok (.goto 1110, 3) ∧ decode code 344 = .ok (.aload_n 1, 1) ∧ decode code 345 = .ok (.aload_n 0, 1) := by decide +kernel
theorem dL_law_333 : decode code 333 = .ok (.iconst 2, 1) := dA_11.1
theorem dL_law_334 : decode code 334 = .ok (.iadd, 1) := dA_11.2.1
theorem dL_law_335 : decode code 335 = .ok (.iaload, 1) := dA_11.2.2.1
theorem dL_law_336 : decode code 336 = .ok (.invokevirtual 152, 3) := dA_11.2.2.2.1
theorem dL_law_339 : decode code 339 = .ok (.istore 7, 2) := dA_11.2.2.2.2.1
theorem dL_law_341 : decode code 341 = .ok (.goto 1110, 3) := dA_11.2.2.2.2.2.1
theorem dL_law_344 : decode code 344 = .ok (.aload_n 1, 1) := dA_11.2.2.2.2.2.2.1
theorem dL_law_345 : decode code 345 = .ok (.aload_n 0, 1) := dA_11.2.2.2.2.2.2.2
theorem dA_12 : decode code 346 = .ok (.iload 5, 2) ∧ decode code 348 = .ok (.iconst 1, 1) ∧ decode code 349 = .ok (.iadd, 1) ∧ decode code 350 = .ok (.iaload, 1) ∧ decode code 351 = .ok (.aload_n 0, 1) ∧ decode code 352 = .ok (.iload 5, 2) ∧ decode code 354 = .ok (.iconst 2, 1) ∧ decode code 355 = .ok (.iadd, 1) := by decide +kernel
theorem dL_law_346 : decode code 346 = .ok (.iload 5, 2) := dA_12.1
theorem dL_law_348 : decode code 348 = .ok (.iconst 1, 1) := dA_12.2.1
theorem dL_law_349 : decode code 349 = .ok (.iadd, 1) := dA_12.2.2.1
theorem dL_law_350 : decode code 350 = .ok (.iaload, 1) := dA_12.2.2.2.1
theorem dL_law_351 : decode code 351 = .ok (.aload_n 0, 1) := dA_12.2.2.2.2.1
theorem dL_law_352 : decode code 352 = .ok (.iload 5, 2) := dA_12.2.2.2.2.2.1
theorem dL_law_354 : decode code 354 = .ok (.iconst 2, 1) := dA_12.2.2.2.2.2.2.1
theorem dL_law_355 : decode code 355 = .ok (.iadd, 1) := dA_12.2.2.2.2.2.2.2
theorem dA_13 : decode code 356 = .ok (.iaload, 1) ∧ decode code 357 = .ok (.aload_n 0, 1) ∧ decode code 358 = .ok (.iload 5, 2) ∧ decode code 360 = .ok (.iconst 3, 1) ∧ decode code 361 = .ok (.iadd, 1) ∧ decode code 362 = .ok (.iaload, 1) ∧ decode code 363 = .ok (.aload_n 3, 1) ∧ decode code 364 = .ok (.invokestatic 153, 3) := by decide +kernel
theorem dL_law_356 : decode code 356 = .ok (.iaload, 1) := dA_13.1
theorem dL_law_357 : decode code 357 = .ok (.aload_n 0, 1) := dA_13.2.1
theorem dL_law_358 : decode code 358 = .ok (.iload 5, 2) := dA_13.2.2.1
theorem dL_law_360 : decode code 360 = .ok (.iconst 3, 1) := dA_13.2.2.2.1
theorem dL_law_361 : decode code 361 = .ok (.iadd, 1) := dA_13.2.2.2.2.1
theorem dL_law_362 : decode code 362 = .ok (.iaload, 1) := dA_13.2.2.2.2.2.1
theorem dL_law_363 : decode code 363 = .ok (.aload_n 3, 1) := dA_13.2.2.2.2.2.2.1
theorem dL_law_364 : decode code 364 = .ok (.invokestatic 153, 3) := dA_13.2.2.2.2.2.2.2
theorem dA_14 : decode code 367 = .ok (.istore 6, 2) ∧ decode code 369 = .ok (.aload_n 2, 1) ∧ decode code 370 = .ok (.aload_n 0, 1) ∧ decode code 371 = .ok (.iload 5, 2) ∧ decode code 373 = .ok (.iconst 1, 1) ∧ decode code 374 = .ok (.iadd, 1) ∧ decode code 375 = .ok (.iaload, 1) ∧ decode code 376 = .ok (.aload_n 0, 1) := by decide +kernel
theorem dL_law_367 : decode code 367 = .ok (.istore 6, 2) := dA_14.1
theorem dL_law_369 : decode code 369 = .ok (.aload_n 2, 1) := dA_14.2.1
theorem dL_law_370 : decode code 370 = .ok (.aload_n 0, 1) := dA_14.2.2.1
theorem dL_law_371 : decode code 371 = .ok (.iload 5, 2) := dA_14.2.2.2.1
theorem dL_law_373 : decode code 373 = .ok (.iconst 1, 1) := dA_14.2.2.2.2.1
theorem dL_law_374 : decode code 374 = .ok (.iadd, 1) := dA_14.2.2.2.2.2.1
theorem dL_law_375 : decode code 375 = .ok (.iaload, 1) := dA_14.2.2.2.2.2.2.1
theorem dL_law_376 : decode code 376 = .ok (.aload_n 0, 1) := dA_14.2.2.2.2.2.2.2
theorem dA_15 : decode code 377 = .ok (.iload 5, 2) ∧ decode code 379 = .ok (.iconst 2, 1) ∧ decode code 380 = .ok (.iadd, 1) ∧ decode code 381 = .ok (.iaload, 1) ∧ decode code 382 = .ok (.aload_n 0, 1) ∧ decode code 383 = .ok (.iload 5, 2) ∧ decode code 385 = .ok (.iconst 3, 1) ∧ decode code 386 = .ok (.iadd, 1) := by decide +kernel
theorem dL_law_377 : decode code 377 = .ok (.iload 5, 2) := dA_15.1
theorem dL_law_379 : decode code 379 = .ok (.iconst 2, 1) := dA_15.2.1
theorem dL_law_380 : decode code 380 = .ok (.iadd, 1) := dA_15.2.2.1
theorem dL_law_381 : decode code 381 = .ok (.iaload, 1) := dA_15.2.2.2.1
theorem dL_law_382 : decode code 382 = .ok (.aload_n 0, 1) := dA_15.2.2.2.2.1
theorem dL_law_383 : decode code 383 = .ok (.iload 5, 2) := dA_15.2.2.2.2.2.1
theorem dL_law_385 : decode code 385 = .ok (.iconst 3, 1) := dA_15.2.2.2.2.2.2.1
theorem dL_law_386 : decode code 386 = .ok (.iadd, 1) := dA_15.2.2.2.2.2.2.2
theorem dA_16 : decode code 387 = .ok (.iaload, 1) ∧ decode code 388 = .ok (.invokevirtual 155, 3) ∧ decode code 391 = .ok (.istore 7, 2) ∧ decode code 393 = .ok (.goto 1058, 3) ∧ decode code 396 = .ok (.aload_n 1, 1) ∧ decode code 397 = .ok (.aload_n 0, 1) ∧ decode code 398 = .ok (.iload 5, 2) ∧ decode code 400 = .ok (.iconst 1, 1) := by decide +kernel
theorem dL_law_387 : decode code 387 = .ok (.iaload, 1) := dA_16.1
theorem dL_law_388 : decode code 388 = .ok (.invokevirtual 155, 3) := dA_16.2.1
theorem dL_law_391 : decode code 391 = .ok (.istore 7, 2) := dA_16.2.2.1
theorem dL_law_393 : decode code 393 = .ok (.goto 1058, 3) := dA_16.2.2.2.1
theorem dL_law_396 : decode code 396 = .ok (.aload_n 1, 1) := dA_16.2.2.2.2.1
theorem dL_law_397 : decode code 397 = .ok (.aload_n 0, 1) := dA_16.2.2.2.2.2.1
theorem dL_law_398 : decode code 398 = .ok (.iload 5, 2) := dA_16.2.2.2.2.2.2.1
theorem dL_law_400 : decode code 400 = .ok (.iconst 1, 1) := dA_16.2.2.2.2.2.2.2
theorem dA_17 : decode code 401 = .ok (.iadd, 1) ∧ decode code 402 = .ok (.iaload, 1) ∧ decode code 403 = .ok (.aload_n 0, 1) ∧ decode code 404 = .ok (.iload 5, 2) ∧ decode code 406 = .ok (.iconst 2, 1) ∧ decode code 407 = .ok (.iadd, 1) ∧ decode code 408 = .ok (.iaload, 1) ∧ decode code 409 = .ok (.aload_n 3, 1) := by decide +kernel
theorem dL_law_401 : decode code 401 = .ok (.iadd, 1) := dA_17.1
theorem dL_law_402 : decode code 402 = .ok (.iaload, 1) := dA_17.2.1
theorem dL_law_403 : decode code 403 = .ok (.aload_n 0, 1) := dA_17.2.2.1
theorem dL_law_404 : decode code 404 = .ok (.iload 5, 2) := dA_17.2.2.2.1
theorem dL_law_406 : decode code 406 = .ok (.iconst 2, 1) := dA_17.2.2.2.2.1
theorem dL_law_407 : decode code 407 = .ok (.iadd, 1) := dA_17.2.2.2.2.2.1
theorem dL_law_408 : decode code 408 = .ok (.iaload, 1) := dA_17.2.2.2.2.2.2.1
theorem dL_law_409 : decode code 409 = .ok (.aload_n 3, 1) := dA_17.2.2.2.2.2.2.2
theorem dA_18 : decode code 410 = .ok (.invokestatic 156, 3) ∧ decode code 413 = .ok (.istore 6, 2) ∧ decode code 415 = .ok (.aload_n 2, 1) ∧ decode code 416 = .ok (.aload_n 0, 1) ∧ decode code 417 = .ok (.iload 5, 2) ∧ decode code 419 = .ok (.iconst 1, 1) ∧ decode code 420 = .ok (.iadd, 1) ∧ decode code 421 = .ok (.iaload, 1) := by decide +kernel
theorem dL_law_410 : decode code 410 = .ok (.invokestatic 156, 3) := dA_18.1
theorem dL_law_413 : decode code 413 = .ok (.istore 6, 2) := dA_18.2.1
theorem dL_law_415 : decode code 415 = .ok (.aload_n 2, 1) := dA_18.2.2.1
theorem dL_law_416 : decode code 416 = .ok (.aload_n 0, 1) := dA_18.2.2.2.1
theorem dL_law_417 : decode code 417 = .ok (.iload 5, 2) := dA_18.2.2.2.2.1
theorem dL_law_419 : decode code 419 = .ok (.iconst 1, 1) := dA_18.2.2.2.2.2.1
theorem dL_law_420 : decode code 420 = .ok (.iadd, 1) := dA_18.2.2.2.2.2.2.1
theorem dL_law_421 : decode code 421 = .ok (.iaload, 1) := dA_18.2.2.2.2.2.2.2
theorem dA_19 : decode code 422 = .ok (.aload_n 0, 1) ∧ decode code 423 = .ok (.iload 5, 2) ∧ decode code 425 = .ok (.iconst 2, 1) ∧ decode code 426 = .ok (.iadd, 1) ∧ decode code 427 = .ok (.iaload, 1) ∧ decode code 428 = .ok (.invokevirtual 158, 3) ∧ decode code 431 = .ok (.istore 7, 2) ∧ decode code 433 = .ok (.goto 1018, 3) := by decide +kernel
theorem dL_law_422 : decode code 422 = .ok (.aload_n 0, 1) := dA_19.1
theorem dL_law_423 : decode code 423 = .ok (.iload 5, 2) := dA_19.2.1
theorem dL_law_425 : decode code 425 = .ok (.iconst 2, 1) := dA_19.2.2.1
theorem dL_law_426 : decode code 426 = .ok (.iadd, 1) := dA_19.2.2.2.1
theorem dL_law_427 : decode code 427 = .ok (.iaload, 1) := dA_19.2.2.2.2.1
theorem dL_law_428 : decode code 428 = .ok (.invokevirtual 158, 3) := dA_19.2.2.2.2.2.1
theorem dL_law_431 : decode code 431 = .ok (.istore 7, 2) := dA_19.2.2.2.2.2.2.1
theorem dL_law_433 : decode code 433 = .ok (.goto 1018, 3) := dA_19.2.2.2.2.2.2.2
theorem dA_20 : decode code 436 = .ok (.aload_n 1, 1) ∧ decode code 437 = .ok (.aload_n 0, 1) ∧ decode code 438 = .ok (.iload 5, 2) ∧ decode code 440 = .ok (.iconst 1, 1) ∧ decode code 441 = .ok (.iadd, 1) ∧ decode code 442 = .ok (.iaload, 1) ∧ decode code 443 = .ok (.aload_n 3, 1) ∧ decode code 444 = .ok (.invokestatic 159, 3) := by decide +kernel
theorem dL_law_436 : decode code 436 = .ok (.aload_n 1, 1) := dA_20.1
theorem dL_law_437 : decode code 437 = .ok (.aload_n 0, 1) := dA_20.2.1
theorem dL_law_438 : decode code 438 = .ok (.iload 5, 2) := dA_20.2.2.1
theorem dL_law_440 : decode code 440 = .ok (.iconst 1, 1) := dA_20.2.2.2.1
theorem dL_law_441 : decode code 441 = .ok (.iadd, 1) := dA_20.2.2.2.2.1
theorem dL_law_442 : decode code 442 = .ok (.iaload, 1) := dA_20.2.2.2.2.2.1
theorem dL_law_443 : decode code 443 = .ok (.aload_n 3, 1) := dA_20.2.2.2.2.2.2.1
theorem dL_law_444 : decode code 444 = .ok (.invokestatic 159, 3) := dA_20.2.2.2.2.2.2.2
theorem dA_21 : decode code 447 = .ok (.istore 6, 2) ∧ decode code 449 = .ok (.aload_n 2, 1) ∧ decode code 450 = .ok (.aload_n 0, 1) ∧ decode code 451 = .ok (.iload 5, 2) ∧ decode code 453 = .ok (.iconst 1, 1) ∧ decode code 454 = .ok (.iadd, 1) ∧ decode code 455 = .ok (.iaload, 1) ∧ decode code 456 = .ok (.invokevirtual 162, 3) := by decide +kernel
theorem dL_law_447 : decode code 447 = .ok (.istore 6, 2) := dA_21.1
theorem dL_law_449 : decode code 449 = .ok (.aload_n 2, 1) := dA_21.2.1
theorem dL_law_450 : decode code 450 = .ok (.aload_n 0, 1) := dA_21.2.2.1
theorem dL_law_451 : decode code 451 = .ok (.iload 5, 2) := dA_21.2.2.2.1
theorem dL_law_453 : decode code 453 = .ok (.iconst 1, 1) := dA_21.2.2.2.2.1
theorem dL_law_454 : decode code 454 = .ok (.iadd, 1) := dA_21.2.2.2.2.2.1
theorem dL_law_455 : decode code 455 = .ok (.iaload, 1) := dA_21.2.2.2.2.2.2.1
theorem dL_law_456 : decode code 456 = .ok (.invokevirtual 162, 3) := dA_21.2.2.2.2.2.2.2
theorem dA_22 : decode code 459 = .ok (.istore 7, 2) ∧ decode code 461 = .ok (.goto 990, 3) ∧ decode code 464 = .ok (.aload_n 1, 1) ∧ decode code 465 = .ok (.aload_n 0, 1) ∧ decode code 466 = .ok (.iload 5, 2) ∧ decode code 468 = .ok (.iconst 1, 1) ∧ decode code 469 = .ok (.iadd, 1) ∧ decode code 470 = .ok (.iaload, 1) := by decide +kernel
theorem dL_law_459 : decode code 459 = .ok (.istore 7, 2) := dA_22.1
theorem dL_law_461 : decode code 461 = .ok (.goto 990, 3) := dA_22.2.1
theorem dL_law_464 : decode code 464 = .ok (.aload_n 1, 1) := dA_22.2.2.1
theorem dL_law_465 : decode code 465 = .ok (.aload_n 0, 1) := dA_22.2.2.2.1
theorem dL_law_466 : decode code 466 = .ok (.iload 5, 2) := dA_22.2.2.2.2.1
theorem dL_law_468 : decode code 468 = .ok (.iconst 1, 1) := dA_22.2.2.2.2.2.1
theorem dL_law_469 : decode code 469 = .ok (.iadd, 1) := dA_22.2.2.2.2.2.2.1
theorem dL_law_470 : decode code 470 = .ok (.iaload, 1) := dA_22.2.2.2.2.2.2.2
theorem dA_23 : decode code 471 = .ok (.aload_n 3, 1) ∧ decode code 472 = .ok (.invokestatic 163, 3) ∧ decode code 475 = .ok (.istore 6, 2) ∧ decode code 477 = .ok (.aload_n 2, 1) ∧ decode code 478 = .ok (.aload_n 0, 1) ∧ decode code 479 = .ok (.iload 5, 2) ∧ decode code 481 = .ok (.iconst 1, 1) ∧ decode code 482 = .ok (.iadd, 1) := by decide +kernel
theorem dL_law_471 : decode code 471 = .ok (.aload_n 3, 1) := dA_23.1
theorem dL_law_472 : decode code 472 = .ok (.invokestatic 163, 3) := dA_23.2.1
theorem dL_law_475 : decode code 475 = .ok (.istore 6, 2) := dA_23.2.2.1
theorem dL_law_477 : decode code 477 = .ok (.aload_n 2, 1) := dA_23.2.2.2.1
theorem dL_law_478 : decode code 478 = .ok (.aload_n 0, 1) := dA_23.2.2.2.2.1
theorem dL_law_479 : decode code 479 = .ok (.iload 5, 2) := dA_23.2.2.2.2.2.1
theorem dL_law_481 : decode code 481 = .ok (.iconst 1, 1) := dA_23.2.2.2.2.2.2.1
theorem dL_law_482 : decode code 482 = .ok (.iadd, 1) := dA_23.2.2.2.2.2.2.2
theorem dA_24 : decode code 483 = .ok (.iaload, 1) ∧ decode code 484 = .ok (.invokevirtual 165, 3) ∧ decode code 487 = .ok (.istore 7, 2) ∧ decode code 489 = .ok (.goto 962, 3) ∧ decode code 492 = .ok (.aload_n 1, 1) ∧ decode code 493 = .ok (.invokevirtual 166, 3) ∧ decode code 496 = .ok (.pop, 1) ∧ decode code 497 = .ok (.aload_n 2, 1) := by decide +kernel
theorem dL_law_483 : decode code 483 = .ok (.iaload, 1) := dA_24.1
theorem dL_law_484 : decode code 484 = .ok (.invokevirtual 165, 3) := dA_24.2.1
theorem dL_law_487 : decode code 487 = .ok (.istore 7, 2) := dA_24.2.2.1
theorem dL_law_489 : decode code 489 = .ok (.goto 962, 3) := dA_24.2.2.2.1
theorem dL_law_492 : decode code 492 = .ok (.aload_n 1, 1) := dA_24.2.2.2.2.1
theorem dL_law_493 : decode code 493 = .ok (.invokevirtual 166, 3) := dA_24.2.2.2.2.2.1
theorem dL_law_496 : decode code 496 = .ok (.pop, 1) := dA_24.2.2.2.2.2.2.1
theorem dL_law_497 : decode code 497 = .ok (.aload_n 2, 1) := dA_24.2.2.2.2.2.2.2
theorem dA_25 : decode code 498 = .ok (.invokevirtual 169, 3) ∧ decode code 501 = .ok (.pop, 1) ∧ decode code 502 = .ok (.goto 949, 3) ∧ decode code 505 = .ok (.aload_n 1, 1) ∧ decode code 506 = .ok (.invokevirtual 170, 3) ∧ decode code 509 = .ok (.aload_n 2, 1) ∧ decode code 510 = .ok (.invokevirtual 173, 3) ∧ decode code 513 = .ok (.if_icmp .eq 938, 3) := by decide +kernel
theorem dL_law_498 : decode code 498 = .ok (.invokevirtual 169, 3) := dA_25.1
theorem dL_law_501 : decode code 501 = .ok (.pop, 1) := dA_25.2.1
theorem dL_law_502 : decode code 502 = .ok (.goto 949, 3) := dA_25.2.2.1
theorem dL_law_505 : decode code 505 = .ok (.aload_n 1, 1) := dA_25.2.2.2.1
theorem dL_law_506 : decode code 506 = .ok (.invokevirtual 170, 3) := dA_25.2.2.2.2.1
theorem dL_law_509 : decode code 509 = .ok (.aload_n 2, 1) := dA_25.2.2.2.2.2.1
theorem dL_law_510 : decode code 510 = .ok (.invokevirtual 173, 3) := dA_25.2.2.2.2.2.2.1
theorem dL_law_513 : decode code 513 = .ok (.if_icmp .eq 938, 3) := dA_25.2.2.2.2.2.2.2
theorem dA_26 : decode code 518 = .ok (.aload_n 1, 1) ∧ decode code 519 = .ok (.aload_n 0, 1) ∧ decode code 520 = .ok (.iload 5, 2) ∧ decode code 522 = .ok (.iconst 1, 1) ∧ decode code 523 = .ok (.iadd, 1) ∧ decode code 524 = .ok (.iaload, 1) ∧ decode code 525 = .ok (.aload_n 3, 1) ∧ decode code 526 = .ok (.invokestatic 174, 3) := by decide +kernel
theorem dL_law_518 : decode code 518 = .ok (.aload_n 1, 1) := dA_26.1
theorem dL_law_519 : decode code 519 = .ok (.aload_n 0, 1) := dA_26.2.1
theorem dL_law_520 : decode code 520 = .ok (.iload 5, 2) := dA_26.2.2.1
theorem dL_law_522 : decode code 522 = .ok (.iconst 1, 1) := dA_26.2.2.2.1
theorem dL_law_523 : decode code 523 = .ok (.iadd, 1) := dA_26.2.2.2.2.1
theorem dL_law_524 : decode code 524 = .ok (.iaload, 1) := dA_26.2.2.2.2.2.1
theorem dL_law_525 : decode code 525 = .ok (.aload_n 3, 1) := dA_26.2.2.2.2.2.2.1
theorem dL_law_526 : decode code 526 = .ok (.invokestatic 174, 3) := dA_26.2.2.2.2.2.2.2
theorem dA_27 : decode code 529 = .ok (.istore 6, 2) ∧ decode code 531 = .ok (.aload_n 2, 1) ∧ decode code 532 = .ok (.aload_n 0, 1) ∧ decode code 533 = .ok (.iload 5, 2) ∧ decode code 535 = .ok (.iconst 1, 1) ∧ decode code 536 = .ok (.iadd, 1) ∧ decode code 537 = .ok (.iaload, 1) ∧ decode code 538 = .ok (.invokevirtual 176, 3) := by decide +kernel
theorem dL_law_529 : decode code 529 = .ok (.istore 6, 2) := dA_27.1
theorem dL_law_531 : decode code 531 = .ok (.aload_n 2, 1) := dA_27.2.1
theorem dL_law_532 : decode code 532 = .ok (.aload_n 0, 1) := dA_27.2.2.1
theorem dL_law_533 : decode code 533 = .ok (.iload 5, 2) := dA_27.2.2.2.1
theorem dL_law_535 : decode code 535 = .ok (.iconst 1, 1) := dA_27.2.2.2.2.1
theorem dL_law_536 : decode code 536 = .ok (.iadd, 1) := dA_27.2.2.2.2.2.1
theorem dL_law_537 : decode code 537 = .ok (.iaload, 1) := dA_27.2.2.2.2.2.2.1
theorem dL_law_538 : decode code 538 = .ok (.invokevirtual 176, 3) := dA_27.2.2.2.2.2.2.2
theorem dA_28 : decode code 541 = .ok (.istore 7, 2) ∧ decode code 543 = .ok (.goto 908, 3) ∧ decode code 546 = .ok (.aload_n 1, 1) ∧ decode code 547 = .ok (.aload_n 0, 1) ∧ decode code 548 = .ok (.iload 5, 2) ∧ decode code 550 = .ok (.iconst 1, 1) ∧ decode code 551 = .ok (.iadd, 1) ∧ decode code 552 = .ok (.iaload, 1) := by decide +kernel
theorem dL_law_541 : decode code 541 = .ok (.istore 7, 2) := dA_28.1
theorem dL_law_543 : decode code 543 = .ok (.goto 908, 3) := dA_28.2.1
theorem dL_law_546 : decode code 546 = .ok (.aload_n 1, 1) := dA_28.2.2.1
theorem dL_law_547 : decode code 547 = .ok (.aload_n 0, 1) := dA_28.2.2.2.1
theorem dL_law_548 : decode code 548 = .ok (.iload 5, 2) := dA_28.2.2.2.2.1
theorem dL_law_550 : decode code 550 = .ok (.iconst 1, 1) := dA_28.2.2.2.2.2.1
theorem dL_law_551 : decode code 551 = .ok (.iadd, 1) := dA_28.2.2.2.2.2.2.1
theorem dL_law_552 : decode code 552 = .ok (.iaload, 1) := dA_28.2.2.2.2.2.2.2
theorem dA_29 : decode code 553 = .ok (.aload_n 3, 1) ∧ decode code 554 = .ok (.invokestatic 177, 3) ∧ decode code 557 = .ok (.istore 6, 2) ∧ decode code 559 = .ok (.aload_n 2, 1) ∧ decode code 560 = .ok (.aload_n 0, 1) ∧ decode code 561 = .ok (.iload 5, 2) ∧ decode code 563 = .ok (.iconst 1, 1) ∧ decode code 564 = .ok (.iadd, 1) := by decide +kernel
theorem dL_law_553 : decode code 553 = .ok (.aload_n 3, 1) := dA_29.1
theorem dL_law_554 : decode code 554 = .ok (.invokestatic 177, 3) := dA_29.2.1
theorem dL_law_557 : decode code 557 = .ok (.istore 6, 2) := dA_29.2.2.1
theorem dL_law_559 : decode code 559 = .ok (.aload_n 2, 1) := dA_29.2.2.2.1
theorem dL_law_560 : decode code 560 = .ok (.aload_n 0, 1) := dA_29.2.2.2.2.1
theorem dL_law_561 : decode code 561 = .ok (.iload 5, 2) := dA_29.2.2.2.2.2.1
theorem dL_law_563 : decode code 563 = .ok (.iconst 1, 1) := dA_29.2.2.2.2.2.2.1
theorem dL_law_564 : decode code 564 = .ok (.iadd, 1) := dA_29.2.2.2.2.2.2.2
theorem dA_30 : decode code 565 = .ok (.iaload, 1) ∧ decode code 566 = .ok (.invokevirtual 179, 3) ∧ decode code 569 = .ok (.istore 7, 2) ∧ decode code 571 = .ok (.goto 880, 3) ∧ decode code 574 = .ok (.aload_n 1, 1) ∧ decode code 575 = .ok (.aload_n 0, 1) ∧ decode code 576 = .ok (.iload 5, 2) ∧ decode code 578 = .ok (.iconst 1, 1) := by decide +kernel
theorem dL_law_565 : decode code 565 = .ok (.iaload, 1) := dA_30.1
theorem dL_law_566 : decode code 566 = .ok (.invokevirtual 179, 3) := dA_30.2.1
theorem dL_law_569 : decode code 569 = .ok (.istore 7, 2) := dA_30.2.2.1
theorem dL_law_571 : decode code 571 = .ok (.goto 880, 3) := dA_30.2.2.2.1
theorem dL_law_574 : decode code 574 = .ok (.aload_n 1, 1) := dA_30.2.2.2.2.1
theorem dL_law_575 : decode code 575 = .ok (.aload_n 0, 1) := dA_30.2.2.2.2.2.1
theorem dL_law_576 : decode code 576 = .ok (.iload 5, 2) := dA_30.2.2.2.2.2.2.1
theorem dL_law_578 : decode code 578 = .ok (.iconst 1, 1) := dA_30.2.2.2.2.2.2.2
theorem dA_31 : decode code 579 = .ok (.iadd, 1) ∧ decode code 580 = .ok (.iaload, 1) ∧ decode code 581 = .ok (.aload_n 3, 1) ∧ decode code 582 = .ok (.invokestatic 180, 3) ∧ decode code 585 = .ok (.istore 6, 2) ∧ decode code 587 = .ok (.aload_n 2, 1) ∧ decode code 588 = .ok (.aload_n 0, 1) ∧ decode code 589 = .ok (.iload 5, 2) := by decide +kernel
theorem dL_law_579 : decode code 579 = .ok (.iadd, 1) := dA_31.1
theorem dL_law_580 : decode code 580 = .ok (.iaload, 1) := dA_31.2.1
theorem dL_law_581 : decode code 581 = .ok (.aload_n 3, 1) := dA_31.2.2.1
theorem dL_law_582 : decode code 582 = .ok (.invokestatic 180, 3) := dA_31.2.2.2.1
theorem dL_law_585 : decode code 585 = .ok (.istore 6, 2) := dA_31.2.2.2.2.1
theorem dL_law_587 : decode code 587 = .ok (.aload_n 2, 1) := dA_31.2.2.2.2.2.1
theorem dL_law_588 : decode code 588 = .ok (.aload_n 0, 1) := dA_31.2.2.2.2.2.2.1
theorem dL_law_589 : decode code 589 = .ok (.iload 5, 2) := dA_31.2.2.2.2.2.2.2
theorem dA_32 : decode code 591 = .ok (.iconst 1, 1) ∧ decode code 592 = .ok (.iadd, 1) ∧ decode code 593 = .ok (.iaload, 1) ∧ decode code 594 = .ok (.invokevirtual 182, 3) ∧ decode code 597 = .ok (.istore 7, 2) ∧ decode code 599 = .ok (.goto 852, 3) ∧ decode code 602 = .ok (.aload_n 1, 1) ∧ decode code 603 = .ok (.aload_n 0, 1) := by decide +kernel
theorem dL_law_591 : decode code 591 = .ok (.iconst 1, 1) := dA_32.1
theorem dL_law_592 : decode code 592 = .ok (.iadd, 1) := dA_32.2.1
theorem dL_law_593 : decode code 593 = .ok (.iaload, 1) := dA_32.2.2.1
theorem dL_law_594 : decode code 594 = .ok (.invokevirtual 182, 3) := dA_32.2.2.2.1
theorem dL_law_597 : decode code 597 = .ok (.istore 7, 2) := dA_32.2.2.2.2.1
theorem dL_law_599 : decode code 599 = .ok (.goto 852, 3) := dA_32.2.2.2.2.2.1
theorem dL_law_602 : decode code 602 = .ok (.aload_n 1, 1) := dA_32.2.2.2.2.2.2.1
theorem dL_law_603 : decode code 603 = .ok (.aload_n 0, 1) := dA_32.2.2.2.2.2.2.2
theorem dA_33 : decode code 604 = .ok (.iload 5, 2) ∧ decode code 606 = .ok (.iconst 1, 1) ∧ decode code 607 = .ok (.iadd, 1) ∧ decode code 608 = .ok (.iaload, 1) ∧ decode code 609 = .ok (.aload_n 3, 1) ∧ decode code 610 = .ok (.invokestatic 183, 3) ∧ decode code 613 = .ok (.istore 6, 2) ∧ decode code 615 = .ok (.aload_n 2, 1) := by decide +kernel
theorem dL_law_604 : decode code 604 = .ok (.iload 5, 2) := dA_33.1
theorem dL_law_606 : decode code 606 = .ok (.iconst 1, 1) := dA_33.2.1
theorem dL_law_607 : decode code 607 = .ok (.iadd, 1) := dA_33.2.2.1
theorem dL_law_608 : decode code 608 = .ok (.iaload, 1) := dA_33.2.2.2.1
theorem dL_law_609 : decode code 609 = .ok (.aload_n 3, 1) := dA_33.2.2.2.2.1
theorem dL_law_610 : decode code 610 = .ok (.invokestatic 183, 3) := dA_33.2.2.2.2.2.1
theorem dL_law_613 : decode code 613 = .ok (.istore 6, 2) := dA_33.2.2.2.2.2.2.1
theorem dL_law_615 : decode code 615 = .ok (.aload_n 2, 1) := dA_33.2.2.2.2.2.2.2
theorem dA_34 : decode code 616 = .ok (.aload_n 0, 1) ∧ decode code 617 = .ok (.iload 5, 2) ∧ decode code 619 = .ok (.iconst 1, 1) ∧ decode code 620 = .ok (.iadd, 1) ∧ decode code 621 = .ok (.iaload, 1) ∧ decode code 622 = .ok (.invokevirtual 185, 3) ∧ decode code 625 = .ok (.istore 7, 2) ∧ decode code 627 = .ok (.goto 824, 3) := by decide +kernel
theorem dL_law_616 : decode code 616 = .ok (.aload_n 0, 1) := dA_34.1
theorem dL_law_617 : decode code 617 = .ok (.iload 5, 2) := dA_34.2.1
theorem dL_law_619 : decode code 619 = .ok (.iconst 1, 1) := dA_34.2.2.1
theorem dL_law_620 : decode code 620 = .ok (.iadd, 1) := dA_34.2.2.2.1
theorem dL_law_621 : decode code 621 = .ok (.iaload, 1) := dA_34.2.2.2.2.1
theorem dL_law_622 : decode code 622 = .ok (.invokevirtual 185, 3) := dA_34.2.2.2.2.2.1
theorem dL_law_625 : decode code 625 = .ok (.istore 7, 2) := dA_34.2.2.2.2.2.2.1
theorem dL_law_627 : decode code 627 = .ok (.goto 824, 3) := dA_34.2.2.2.2.2.2.2
theorem dA_35 : decode code 630 = .ok (.aload_n 1, 1) ∧ decode code 631 = .ok (.aload_n 0, 1) ∧ decode code 632 = .ok (.iload 5, 2) ∧ decode code 634 = .ok (.iconst 1, 1) ∧ decode code 635 = .ok (.iadd, 1) ∧ decode code 636 = .ok (.iaload, 1) ∧ decode code 637 = .ok (.aload_n 0, 1) ∧ decode code 638 = .ok (.iload 5, 2) := by decide +kernel
theorem dL_law_630 : decode code 630 = .ok (.aload_n 1, 1) := dA_35.1
theorem dL_law_631 : decode code 631 = .ok (.aload_n 0, 1) := dA_35.2.1
theorem dL_law_632 : decode code 632 = .ok (.iload 5, 2) := dA_35.2.2.1
theorem dL_law_634 : decode code 634 = .ok (.iconst 1, 1) := dA_35.2.2.2.1
theorem dL_law_635 : decode code 635 = .ok (.iadd, 1) := dA_35.2.2.2.2.1
theorem dL_law_636 : decode code 636 = .ok (.iaload, 1) := dA_35.2.2.2.2.2.1
theorem dL_law_637 : decode code 637 = .ok (.aload_n 0, 1) := dA_35.2.2.2.2.2.2.1
theorem dL_law_638 : decode code 638 = .ok (.iload 5, 2) := dA_35.2.2.2.2.2.2.2
theorem dA_36 : decode code 640 = .ok (.iconst 2, 1) ∧ decode code 641 = .ok (.iadd, 1) ∧ decode code 642 = .ok (.iaload, 1) ∧ decode code 643 = .ok (.aload_n 3, 1) ∧ decode code 644 = .ok (.invokestatic 186, 3) ∧ decode code 647 = .ok (.istore 6, 2) ∧ decode code 649 = .ok (.aload_n 2, 1) ∧ decode code 650 = .ok (.aload_n 0, 1) := by decide +kernel
theorem dL_law_640 : decode code 640 = .ok (.iconst 2, 1) := dA_36.1
theorem dL_law_641 : decode code 641 = .ok (.iadd, 1) := dA_36.2.1
theorem dL_law_642 : decode code 642 = .ok (.iaload, 1) := dA_36.2.2.1
theorem dL_law_643 : decode code 643 = .ok (.aload_n 3, 1) := dA_36.2.2.2.1
theorem dL_law_644 : decode code 644 = .ok (.invokestatic 186, 3) := dA_36.2.2.2.2.1
theorem dL_law_647 : decode code 647 = .ok (.istore 6, 2) := dA_36.2.2.2.2.2.1
theorem dL_law_649 : decode code 649 = .ok (.aload_n 2, 1) := dA_36.2.2.2.2.2.2.1
theorem dL_law_650 : decode code 650 = .ok (.aload_n 0, 1) := dA_36.2.2.2.2.2.2.2
theorem dA_37 : decode code 651 = .ok (.iload 5, 2) ∧ decode code 653 = .ok (.iconst 1, 1) ∧ decode code 654 = .ok (.iadd, 1) ∧ decode code 655 = .ok (.iaload, 1) ∧ decode code 656 = .ok (.aload_n 0, 1) ∧ decode code 657 = .ok (.iload 5, 2) ∧ decode code 659 = .ok (.iconst 2, 1) ∧ decode code 660 = .ok (.iadd, 1) := by decide +kernel
theorem dL_law_651 : decode code 651 = .ok (.iload 5, 2) := dA_37.1
theorem dL_law_653 : decode code 653 = .ok (.iconst 1, 1) := dA_37.2.1
theorem dL_law_654 : decode code 654 = .ok (.iadd, 1) := dA_37.2.2.1
theorem dL_law_655 : decode code 655 = .ok (.iaload, 1) := dA_37.2.2.2.1
theorem dL_law_656 : decode code 656 = .ok (.aload_n 0, 1) := dA_37.2.2.2.2.1
theorem dL_law_657 : decode code 657 = .ok (.iload 5, 2) := dA_37.2.2.2.2.2.1
theorem dL_law_659 : decode code 659 = .ok (.iconst 2, 1) := dA_37.2.2.2.2.2.2.1
theorem dL_law_660 : decode code 660 = .ok (.iadd, 1) := dA_37.2.2.2.2.2.2.2
theorem dA_38 : decode code 661 = .ok (.iaload, 1) ∧ decode code 662 = .ok (.invokevirtual 188, 3) ∧ decode code 665 = .ok (.istore 7, 2) ∧ decode code 667 = .ok (.goto 784, 3) ∧ decode code 670 = .ok (.aload_n 1, 1) ∧ decode code 671 = .ok (.invokevirtual 189, 3) ∧ decode code 674 = .ok (.pop, 1) ∧ decode code 675 = .ok (.aload_n 2, 1) := by decide +kernel
theorem dL_law_661 : decode code 661 = .ok (.iaload, 1) := dA_38.1
theorem dL_law_662 : decode code 662 = .ok (.invokevirtual 188, 3) := dA_38.2.1
theorem dL_law_665 : decode code 665 = .ok (.istore 7, 2) := dA_38.2.2.1
theorem dL_law_667 : decode code 667 = .ok (.goto 784, 3) := dA_38.2.2.2.1
theorem dL_law_670 : decode code 670 = .ok (.aload_n 1, 1) := dA_38.2.2.2.2.1
theorem dL_law_671 : decode code 671 = .ok (.invokevirtual 189, 3) := dA_38.2.2.2.2.2.1
theorem dL_law_674 : decode code 674 = .ok (.pop, 1) := dA_38.2.2.2.2.2.2.1
theorem dL_law_675 : decode code 675 = .ok (.aload_n 2, 1) := dA_38.2.2.2.2.2.2.2
theorem dA_39 : decode code 676 = .ok (.invokevirtual 192, 3) ∧ decode code 679 = .ok (.pop, 1) ∧ decode code 680 = .ok (.goto 771, 3) ∧ decode code 683 = .ok (.aload_n 1, 1) ∧ decode code 684 = .ok (.aload_n 0, 1) ∧ decode code 685 = .ok (.iload 5, 2) ∧ decode code 687 = .ok (.iconst 1, 1) ∧ decode code 688 = .ok (.iadd, 1) := by decide +kernel
theorem dL_law_676 : decode code 676 = .ok (.invokevirtual 192, 3) := dA_39.1
theorem dL_law_679 : decode code 679 = .ok (.pop, 1) := dA_39.2.1
theorem dL_law_680 : decode code 680 = .ok (.goto 771, 3) := dA_39.2.2.1
theorem dL_law_683 : decode code 683 = .ok (.aload_n 1, 1) := dA_39.2.2.2.1
theorem dL_law_684 : decode code 684 = .ok (.aload_n 0, 1) := dA_39.2.2.2.2.1
theorem dL_law_685 : decode code 685 = .ok (.iload 5, 2) := dA_39.2.2.2.2.2.1
theorem dL_law_687 : decode code 687 = .ok (.iconst 1, 1) := dA_39.2.2.2.2.2.2.1
theorem dL_law_688 : decode code 688 = .ok (.iadd, 1) := dA_39.2.2.2.2.2.2.2
theorem dA_40 : decode code 689 = .ok (.iaload, 1) ∧ decode code 690 = .ok (.aload_n 3, 1) ∧ decode code 691 = .ok (.invokestatic 193, 3) ∧ decode code 694 = .ok (.istore 6, 2) ∧ decode code 696 = .ok (.aload_n 2, 1) ∧ decode code 697 = .ok (.aload_n 0, 1) ∧ decode code 698 = .ok (.iload 5, 2) ∧ decode code 700 = .ok (.iconst 1, 1) := by decide +kernel
theorem dL_law_689 : decode code 689 = .ok (.iaload, 1) := dA_40.1
theorem dL_law_690 : decode code 690 = .ok (.aload_n 3, 1) := dA_40.2.1
theorem dL_law_691 : decode code 691 = .ok (.invokestatic 193, 3) := dA_40.2.2.1
theorem dL_law_694 : decode code 694 = .ok (.istore 6, 2) := dA_40.2.2.2.1
theorem dL_law_696 : decode code 696 = .ok (.aload_n 2, 1) := dA_40.2.2.2.2.1
theorem dL_law_697 : decode code 697 = .ok (.aload_n 0, 1) := dA_40.2.2.2.2.2.1
theorem dL_law_698 : decode code 698 = .ok (.iload 5, 2) := dA_40.2.2.2.2.2.2.1
theorem dL_law_700 : decode code 700 = .ok (.iconst 1, 1) := dA_40.2.2.2.2.2.2.2
theorem dA_41 : decode code 701 = .ok (.iadd, 1) ∧ decode code 702 = .ok (.iaload, 1) ∧ decode code 703 = .ok (.invokevirtual 195, 3) ∧ decode code 706 = .ok (.istore 7, 2) ∧ decode code 708 = .ok (.goto 743, 3) ∧ decode code 711 = .ok (.aload_n 1, 1) ∧ decode code 712 = .ok (.aload_n 0, 1) ∧ decode code 713 = .ok (.iload 5, 2) := by decide +kernel
theorem dL_law_701 : decode code 701 = .ok (.iadd, 1) := dA_41.1
theorem dL_law_702 : decode code 702 = .ok (.iaload, 1) := dA_41.2.1
theorem dL_law_703 : decode code 703 = .ok (.invokevirtual 195, 3) := dA_41.2.2.1
theorem dL_law_706 : decode code 706 = .ok (.istore 7, 2) := dA_41.2.2.2.1
theorem dL_law_708 : decode code 708 = .ok (.goto 743, 3) := dA_41.2.2.2.2.1
theorem dL_law_711 : decode code 711 = .ok (.aload_n 1, 1) := dA_41.2.2.2.2.2.1
theorem dL_law_712 : decode code 712 = .ok (.aload_n 0, 1) := dA_41.2.2.2.2.2.2.1
theorem dL_law_713 : decode code 713 = .ok (.iload 5, 2) := dA_41.2.2.2.2.2.2.2
theorem dA_42 : decode code 715 = .ok (.iconst 1, 1) ∧ decode code 716 = .ok (.iadd, 1) ∧ decode code 717 = .ok (.iaload, 1) ∧ decode code 718 = .ok (.aload_n 3, 1) ∧ decode code 719 = .ok (.invokestatic 196, 3) ∧ decode code 722 = .ok (.istore 6, 2) ∧ decode code 724 = .ok (.aload_n 2, 1) ∧ decode code 725 = .ok (.aload_n 0, 1) := by decide +kernel
theorem dL_law_715 : decode code 715 = .ok (.iconst 1, 1) := dA_42.1
theorem dL_law_716 : decode code 716 = .ok (.iadd, 1) := dA_42.2.1
theorem dL_law_717 : decode code 717 = .ok (.iaload, 1) := dA_42.2.2.1
theorem dL_law_718 : decode code 718 = .ok (.aload_n 3, 1) := dA_42.2.2.2.1
theorem dL_law_719 : decode code 719 = .ok (.invokestatic 196, 3) := dA_42.2.2.2.2.1
theorem dL_law_722 : decode code 722 = .ok (.istore 6, 2) := dA_42.2.2.2.2.2.1
theorem dL_law_724 : decode code 724 = .ok (.aload_n 2, 1) := dA_42.2.2.2.2.2.2.1
theorem dL_law_725 : decode code 725 = .ok (.aload_n 0, 1) := dA_42.2.2.2.2.2.2.2
theorem dA_43 : decode code 726 = .ok (.iload 5, 2) ∧ decode code 728 = .ok (.iconst 1, 1) ∧ decode code 729 = .ok (.iadd, 1) ∧ decode code 730 = .ok (.iaload, 1) ∧ decode code 731 = .ok (.invokevirtual 198, 3) ∧ decode code 734 = .ok (.istore 7, 2) ∧ decode code 736 = .ok (.goto 715, 3) ∧ decode code 739 = .ok (.aload_n 1, 1) := by decide +kernel
theorem dL_law_726 : decode code 726 = .ok (.iload 5, 2) := dA_43.1
theorem dL_law_728 : decode code 728 = .ok (.iconst 1, 1) := dA_43.2.1
theorem dL_law_729 : decode code 729 = .ok (.iadd, 1) := dA_43.2.2.1
theorem dL_law_730 : decode code 730 = .ok (.iaload, 1) := dA_43.2.2.2.1
theorem dL_law_731 : decode code 731 = .ok (.invokevirtual 198, 3) := dA_43.2.2.2.2.1
theorem dL_law_734 : decode code 734 = .ok (.istore 7, 2) := dA_43.2.2.2.2.2.1
theorem dL_law_736 : decode code 736 = .ok (.goto 715, 3) := dA_43.2.2.2.2.2.2.1
theorem dL_law_739 : decode code 739 = .ok (.aload_n 1, 1) := dA_43.2.2.2.2.2.2.2
theorem dA_44 : decode code 740 = .ok (.aload_n 0, 1) ∧ decode code 741 = .ok (.iload 5, 2) ∧ decode code 743 = .ok (.iconst 1, 1) ∧ decode code 744 = .ok (.iadd, 1) ∧ decode code 745 = .ok (.iaload, 1) ∧ decode code 746 = .ok (.aload_n 3, 1) ∧ decode code 747 = .ok (.invokestatic 199, 3) ∧ decode code 750 = .ok (.istore 6, 2) := by decide +kernel
theorem dL_law_740 : decode code 740 = .ok (.aload_n 0, 1) := dA_44.1
theorem dL_law_741 : decode code 741 = .ok (.iload 5, 2) := dA_44.2.1
theorem dL_law_743 : decode code 743 = .ok (.iconst 1, 1) := dA_44.2.2.1
theorem dL_law_744 : decode code 744 = .ok (.iadd, 1) := dA_44.2.2.2.1
theorem dL_law_745 : decode code 745 = .ok (.iaload, 1) := dA_44.2.2.2.2.1
theorem dL_law_746 : decode code 746 = .ok (.aload_n 3, 1) := dA_44.2.2.2.2.2.1
theorem dL_law_747 : decode code 747 = .ok (.invokestatic 199, 3) := dA_44.2.2.2.2.2.2.1
theorem dL_law_750 : decode code 750 = .ok (.istore 6, 2) := dA_44.2.2.2.2.2.2.2
theorem dA_45 : decode code 752 = .ok (.aload_n 2, 1) ∧ decode code 753 = .ok (.aload_n 0, 1) ∧ decode code 754 = .ok (.iload 5, 2) ∧ decode code 756 = .ok (.iconst 1, 1) ∧ decode code 757 = .ok (.iadd, 1) ∧ decode code 758 = .ok (.iaload, 1) ∧ decode code 759 = .ok (.invokevirtual 201, 3) ∧ decode code 762 = .ok (.istore 7, 2) := by decide +kernel
theorem dL_law_752 : decode code 752 = .ok (.aload_n 2, 1) := dA_45.1
theorem dL_law_753 : decode code 753 = .ok (.aload_n 0, 1) := dA_45.2.1
theorem dL_law_754 : decode code 754 = .ok (.iload 5, 2) := dA_45.2.2.1
theorem dL_law_756 : decode code 756 = .ok (.iconst 1, 1) := dA_45.2.2.2.1
theorem dL_law_757 : decode code 757 = .ok (.iadd, 1) := dA_45.2.2.2.2.1
theorem dL_law_758 : decode code 758 = .ok (.iaload, 1) := dA_45.2.2.2.2.2.1
theorem dL_law_759 : decode code 759 = .ok (.invokevirtual 201, 3) := dA_45.2.2.2.2.2.2.1
theorem dL_law_762 : decode code 762 = .ok (.istore 7, 2) := dA_45.2.2.2.2.2.2.2
theorem dA_46 : decode code 764 = .ok (.goto 687, 3) ∧ decode code 767 = .ok (.aload_n 1, 1) ∧ decode code 768 = .ok (.aload_n 0, 1) ∧ decode code 769 = .ok (.iload 5, 2) ∧ decode code 771 = .ok (.iconst 1, 1) ∧ decode code 772 = .ok (.iadd, 1) ∧ decode code 773 = .ok (.iaload, 1) ∧ decode code 774 = .ok (.aload_n 3, 1) := by decide +kernel
theorem dL_law_764 : decode code 764 = .ok (.goto 687, 3) := dA_46.1
theorem dL_law_767 : decode code 767 = .ok (.aload_n 1, 1) := dA_46.2.1
theorem dL_law_768 : decode code 768 = .ok (.aload_n 0, 1) := dA_46.2.2.1
theorem dL_law_769 : decode code 769 = .ok (.iload 5, 2) := dA_46.2.2.2.1
theorem dL_law_771 : decode code 771 = .ok (.iconst 1, 1) := dA_46.2.2.2.2.1
theorem dL_law_772 : decode code 772 = .ok (.iadd, 1) := dA_46.2.2.2.2.2.1
theorem dL_law_773 : decode code 773 = .ok (.iaload, 1) := dA_46.2.2.2.2.2.2.1
theorem dL_law_774 : decode code 774 = .ok (.aload_n 3, 1) := dA_46.2.2.2.2.2.2.2
theorem dA_47 : decode code 775 = .ok (.invokestatic 202, 3) ∧ decode code 778 = .ok (.istore 6, 2) ∧ decode code 780 = .ok (.aload_n 2, 1) ∧ decode code 781 = .ok (.aload_n 0, 1) ∧ decode code 782 = .ok (.iload 5, 2) ∧ decode code 784 = .ok (.iconst 1, 1) ∧ decode code 785 = .ok (.iadd, 1) ∧ decode code 786 = .ok (.iaload, 1) := by decide +kernel
theorem dL_law_775 : decode code 775 = .ok (.invokestatic 202, 3) := dA_47.1
theorem dL_law_778 : decode code 778 = .ok (.istore 6, 2) := dA_47.2.1
theorem dL_law_780 : decode code 780 = .ok (.aload_n 2, 1) := dA_47.2.2.1
theorem dL_law_781 : decode code 781 = .ok (.aload_n 0, 1) := dA_47.2.2.2.1
theorem dL_law_782 : decode code 782 = .ok (.iload 5, 2) := dA_47.2.2.2.2.1
theorem dL_law_784 : decode code 784 = .ok (.iconst 1, 1) := dA_47.2.2.2.2.2.1
theorem dL_law_785 : decode code 785 = .ok (.iadd, 1) := dA_47.2.2.2.2.2.2.1
theorem dL_law_786 : decode code 786 = .ok (.iaload, 1) := dA_47.2.2.2.2.2.2.2
theorem dA_48 : decode code 787 = .ok (.invokevirtual 204, 3) ∧ decode code 790 = .ok (.istore 7, 2) ∧ decode code 792 = .ok (.goto 659, 3) ∧ decode code 795 = .ok (.aload_n 1, 1) ∧ decode code 796 = .ok (.aload_n 0, 1) ∧ decode code 797 = .ok (.iload 5, 2) ∧ decode code 799 = .ok (.iconst 1, 1) ∧ decode code 800 = .ok (.iadd, 1) := by decide +kernel
theorem dL_law_787 : decode code 787 = .ok (.invokevirtual 204, 3) := dA_48.1
theorem dL_law_790 : decode code 790 = .ok (.istore 7, 2) := dA_48.2.1
theorem dL_law_792 : decode code 792 = .ok (.goto 659, 3) := dA_48.2.2.1
theorem dL_law_795 : decode code 795 = .ok (.aload_n 1, 1) := dA_48.2.2.2.1
theorem dL_law_796 : decode code 796 = .ok (.aload_n 0, 1) := dA_48.2.2.2.2.1
theorem dL_law_797 : decode code 797 = .ok (.iload 5, 2) := dA_48.2.2.2.2.2.1
theorem dL_law_799 : decode code 799 = .ok (.iconst 1, 1) := dA_48.2.2.2.2.2.2.1
theorem dL_law_800 : decode code 800 = .ok (.iadd, 1) := dA_48.2.2.2.2.2.2.2
theorem dA_49 : decode code 801 = .ok (.iaload, 1) ∧ decode code 802 = .ok (.aload_n 3, 1) ∧ decode code 803 = .ok (.invokestatic 205, 3) ∧ decode code 806 = .ok (.istore 6, 2) ∧ decode code 808 = .ok (.aload_n 2, 1) ∧ decode code 809 = .ok (.aload_n 0, 1) ∧ decode code 810 = .ok (.iload 5, 2) ∧ decode code 812 = .ok (.iconst 1, 1) := by decide +kernel
theorem dL_law_801 : decode code 801 = .ok (.iaload, 1) := dA_49.1
theorem dL_law_802 : decode code 802 = .ok (.aload_n 3, 1) := dA_49.2.1
theorem dL_law_803 : decode code 803 = .ok (.invokestatic 205, 3) := dA_49.2.2.1
theorem dL_law_806 : decode code 806 = .ok (.istore 6, 2) := dA_49.2.2.2.1
theorem dL_law_808 : decode code 808 = .ok (.aload_n 2, 1) := dA_49.2.2.2.2.1
theorem dL_law_809 : decode code 809 = .ok (.aload_n 0, 1) := dA_49.2.2.2.2.2.1
theorem dL_law_810 : decode code 810 = .ok (.iload 5, 2) := dA_49.2.2.2.2.2.2.1
theorem dL_law_812 : decode code 812 = .ok (.iconst 1, 1) := dA_49.2.2.2.2.2.2.2
theorem dA_50 : decode code 813 = .ok (.iadd, 1) ∧ decode code 814 = .ok (.iaload, 1) ∧ decode code 815 = .ok (.invokevirtual 207, 3) ∧ decode code 818 = .ok (.istore 7, 2) ∧ decode code 820 = .ok (.goto 631, 3) ∧ decode code 823 = .ok (.aload_n 1, 1) ∧ decode code 824 = .ok (.aload_n 0, 1) ∧ decode code 825 = .ok (.iload 5, 2) := by decide +kernel
theorem dL_law_813 : decode code 813 = .ok (.iadd, 1) := dA_50.1
theorem dL_law_814 : decode code 814 = .ok (.iaload, 1) := dA_50.2.1
theorem dL_law_815 : decode code 815 = .ok (.invokevirtual 207, 3) := dA_50.2.2.1
theorem dL_law_818 : decode code 818 = .ok (.istore 7, 2) := dA_50.2.2.2.1
theorem dL_law_820 : decode code 820 = .ok (.goto 631, 3) := dA_50.2.2.2.2.1
theorem dL_law_823 : decode code 823 = .ok (.aload_n 1, 1) := dA_50.2.2.2.2.2.1
theorem dL_law_824 : decode code 824 = .ok (.aload_n 0, 1) := dA_50.2.2.2.2.2.2.1
theorem dL_law_825 : decode code 825 = .ok (.iload 5, 2) := dA_50.2.2.2.2.2.2.2
theorem dA_51 : decode code 827 = .ok (.iconst 1, 1) ∧ decode code 828 = .ok (.iadd, 1) ∧ decode code 829 = .ok (.iaload, 1) ∧ decode code 830 = .ok (.aload_n 3, 1) ∧ decode code 831 = .ok (.invokestatic 208, 3) ∧ decode code 834 = .ok (.istore 6, 2) ∧ decode code 836 = .ok (.aload_n 2, 1) ∧ decode code 837 = .ok (.aload_n 0, 1) := by decide +kernel
theorem dL_law_827 : decode code 827 = .ok (.iconst 1, 1) := dA_51.1
theorem dL_law_828 : decode code 828 = .ok (.iadd, 1) := dA_51.2.1
theorem dL_law_829 : decode code 829 = .ok (.iaload, 1) := dA_51.2.2.1
theorem dL_law_830 : decode code 830 = .ok (.aload_n 3, 1) := dA_51.2.2.2.1
theorem dL_law_831 : decode code 831 = .ok (.invokestatic 208, 3) := dA_51.2.2.2.2.1
theorem dL_law_834 : decode code 834 = .ok (.istore 6, 2) := dA_51.2.2.2.2.2.1
theorem dL_law_836 : decode code 836 = .ok (.aload_n 2, 1) := dA_51.2.2.2.2.2.2.1
theorem dL_law_837 : decode code 837 = .ok (.aload_n 0, 1) := dA_51.2.2.2.2.2.2.2
theorem dA_52 : decode code 838 = .ok (.iload 5, 2) ∧ decode code 840 = .ok (.iconst 1, 1) ∧ decode code 841 = .ok (.iadd, 1) ∧ decode code 842 = .ok (.iaload, 1) ∧ decode code 843 = .ok (.invokevirtual 210, 3) ∧ decode code 846 = .ok (.istore 7, 2) ∧ decode code 848 = .ok (.goto 603, 3) ∧ decode code 851 = .ok (.aload_n 1, 1) := by decide +kernel
theorem dL_law_838 : decode code 838 = .ok (.iload 5, 2) := dA_52.1
theorem dL_law_840 : decode code 840 = .ok (.iconst 1, 1) := dA_52.2.1
theorem dL_law_841 : decode code 841 = .ok (.iadd, 1) := dA_52.2.2.1
theorem dL_law_842 : decode code 842 = .ok (.iaload, 1) := dA_52.2.2.2.1
theorem dL_law_843 : decode code 843 = .ok (.invokevirtual 210, 3) := dA_52.2.2.2.2.1
theorem dL_law_846 : decode code 846 = .ok (.istore 7, 2) := dA_52.2.2.2.2.2.1
theorem dL_law_848 : decode code 848 = .ok (.goto 603, 3) := dA_52.2.2.2.2.2.2.1
theorem dL_law_851 : decode code 851 = .ok (.aload_n 1, 1) := dA_52.2.2.2.2.2.2.2
theorem dA_53 : decode code 852 = .ok (.aload_n 0, 1) ∧ decode code 853 = .ok (.iload 5, 2) ∧ decode code 855 = .ok (.iconst 1, 1) ∧ decode code 856 = .ok (.iadd, 1) ∧ decode code 857 = .ok (.iaload, 1) ∧ decode code 858 = .ok (.aload_n 3, 1) ∧ decode code 859 = .ok (.invokestatic 211, 3) ∧ decode code 862 = .ok (.istore 6, 2) := by decide +kernel
theorem dL_law_852 : decode code 852 = .ok (.aload_n 0, 1) := dA_53.1
theorem dL_law_853 : decode code 853 = .ok (.iload 5, 2) := dA_53.2.1
theorem dL_law_855 : decode code 855 = .ok (.iconst 1, 1) := dA_53.2.2.1
theorem dL_law_856 : decode code 856 = .ok (.iadd, 1) := dA_53.2.2.2.1
theorem dL_law_857 : decode code 857 = .ok (.iaload, 1) := dA_53.2.2.2.2.1
theorem dL_law_858 : decode code 858 = .ok (.aload_n 3, 1) := dA_53.2.2.2.2.2.1
theorem dL_law_859 : decode code 859 = .ok (.invokestatic 211, 3) := dA_53.2.2.2.2.2.2.1
theorem dL_law_862 : decode code 862 = .ok (.istore 6, 2) := dA_53.2.2.2.2.2.2.2
theorem dA_54 : decode code 864 = .ok (.aload_n 2, 1) ∧ decode code 865 = .ok (.aload_n 0, 1) ∧ decode code 866 = .ok (.iload 5, 2) ∧ decode code 868 = .ok (.iconst 1, 1) ∧ decode code 869 = .ok (.iadd, 1) ∧ decode code 870 = .ok (.iaload, 1) ∧ decode code 871 = .ok (.invokevirtual 213, 3) ∧ decode code 874 = .ok (.istore 7, 2) := by decide +kernel
theorem dL_law_864 : decode code 864 = .ok (.aload_n 2, 1) := dA_54.1
theorem dL_law_865 : decode code 865 = .ok (.aload_n 0, 1) := dA_54.2.1
theorem dL_law_866 : decode code 866 = .ok (.iload 5, 2) := dA_54.2.2.1
theorem dL_law_868 : decode code 868 = .ok (.iconst 1, 1) := dA_54.2.2.2.1
theorem dL_law_869 : decode code 869 = .ok (.iadd, 1) := dA_54.2.2.2.2.1
theorem dL_law_870 : decode code 870 = .ok (.iaload, 1) := dA_54.2.2.2.2.2.1
theorem dL_law_871 : decode code 871 = .ok (.invokevirtual 213, 3) := dA_54.2.2.2.2.2.2.1
theorem dL_law_874 : decode code 874 = .ok (.istore 7, 2) := dA_54.2.2.2.2.2.2.2
theorem dA_55 : decode code 876 = .ok (.goto 575, 3) ∧ decode code 879 = .ok (.aload_n 1, 1) ∧ decode code 880 = .ok (.aload_n 0, 1) ∧ decode code 881 = .ok (.iload 5, 2) ∧ decode code 883 = .ok (.iconst 1, 1) ∧ decode code 884 = .ok (.iadd, 1) ∧ decode code 885 = .ok (.iaload, 1) ∧ decode code 886 = .ok (.aload_n 3, 1) := by decide +kernel
theorem dL_law_876 : decode code 876 = .ok (.goto 575, 3) := dA_55.1
theorem dL_law_879 : decode code 879 = .ok (.aload_n 1, 1) := dA_55.2.1
theorem dL_law_880 : decode code 880 = .ok (.aload_n 0, 1) := dA_55.2.2.1
theorem dL_law_881 : decode code 881 = .ok (.iload 5, 2) := dA_55.2.2.2.1
theorem dL_law_883 : decode code 883 = .ok (.iconst 1, 1) := dA_55.2.2.2.2.1
theorem dL_law_884 : decode code 884 = .ok (.iadd, 1) := dA_55.2.2.2.2.2.1
theorem dL_law_885 : decode code 885 = .ok (.iaload, 1) := dA_55.2.2.2.2.2.2.1
theorem dL_law_886 : decode code 886 = .ok (.aload_n 3, 1) := dA_55.2.2.2.2.2.2.2
theorem dA_56 : decode code 887 = .ok (.invokestatic 214, 3) ∧ decode code 890 = .ok (.istore 6, 2) ∧ decode code 892 = .ok (.aload_n 2, 1) ∧ decode code 893 = .ok (.aload_n 0, 1) ∧ decode code 894 = .ok (.iload 5, 2) ∧ decode code 896 = .ok (.iconst 1, 1) ∧ decode code 897 = .ok (.iadd, 1) ∧ decode code 898 = .ok (.iaload, 1) := by decide +kernel
theorem dL_law_887 : decode code 887 = .ok (.invokestatic 214, 3) := dA_56.1
theorem dL_law_890 : decode code 890 = .ok (.istore 6, 2) := dA_56.2.1
theorem dL_law_892 : decode code 892 = .ok (.aload_n 2, 1) := dA_56.2.2.1
theorem dL_law_893 : decode code 893 = .ok (.aload_n 0, 1) := dA_56.2.2.2.1
theorem dL_law_894 : decode code 894 = .ok (.iload 5, 2) := dA_56.2.2.2.2.1
theorem dL_law_896 : decode code 896 = .ok (.iconst 1, 1) := dA_56.2.2.2.2.2.1
theorem dL_law_897 : decode code 897 = .ok (.iadd, 1) := dA_56.2.2.2.2.2.2.1
theorem dL_law_898 : decode code 898 = .ok (.iaload, 1) := dA_56.2.2.2.2.2.2.2
theorem dA_57 : decode code 899 = .ok (.invokevirtual 216, 3) ∧ decode code 902 = .ok (.istore 7, 2) ∧ decode code 904 = .ok (.goto 547, 3) ∧ decode code 907 = .ok (.aload_n 1, 1) ∧ decode code 908 = .ok (.aload_n 0, 1) ∧ decode code 909 = .ok (.iload 5, 2) ∧ decode code 911 = .ok (.iconst 1, 1) ∧ decode code 912 = .ok (.iadd, 1) := by decide +kernel
theorem dL_law_899 : decode code 899 = .ok (.invokevirtual 216, 3) := dA_57.1
theorem dL_law_902 : decode code 902 = .ok (.istore 7, 2) := dA_57.2.1
theorem dL_law_904 : decode code 904 = .ok (.goto 547, 3) := dA_57.2.2.1
theorem dL_law_907 : decode code 907 = .ok (.aload_n 1, 1) := dA_57.2.2.2.1
theorem dL_law_908 : decode code 908 = .ok (.aload_n 0, 1) := dA_57.2.2.2.2.1
theorem dL_law_909 : decode code 909 = .ok (.iload 5, 2) := dA_57.2.2.2.2.2.1
theorem dL_law_911 : decode code 911 = .ok (.iconst 1, 1) := dA_57.2.2.2.2.2.2.1
theorem dL_law_912 : decode code 912 = .ok (.iadd, 1) := dA_57.2.2.2.2.2.2.2
theorem dA_58 : decode code 913 = .ok (.iaload, 1) ∧ decode code 914 = .ok (.aload_n 3, 1) ∧ decode code 915 = .ok (.invokestatic 217, 3) ∧ decode code 918 = .ok (.istore 6, 2) ∧ decode code 920 = .ok (.aload_n 2, 1) ∧ decode code 921 = .ok (.aload_n 0, 1) ∧ decode code 922 = .ok (.iload 5, 2) ∧ decode code 924 = .ok (.iconst 1, 1) := by decide +kernel
theorem dL_law_913 : decode code 913 = .ok (.iaload, 1) := dA_58.1
theorem dL_law_914 : decode code 914 = .ok (.aload_n 3, 1) := dA_58.2.1
theorem dL_law_915 : decode code 915 = .ok (.invokestatic 217, 3) := dA_58.2.2.1
theorem dL_law_918 : decode code 918 = .ok (.istore 6, 2) := dA_58.2.2.2.1
theorem dL_law_920 : decode code 920 = .ok (.aload_n 2, 1) := dA_58.2.2.2.2.1
theorem dL_law_921 : decode code 921 = .ok (.aload_n 0, 1) := dA_58.2.2.2.2.2.1
theorem dL_law_922 : decode code 922 = .ok (.iload 5, 2) := dA_58.2.2.2.2.2.2.1
theorem dL_law_924 : decode code 924 = .ok (.iconst 1, 1) := dA_58.2.2.2.2.2.2.2
theorem dA_59 : decode code 925 = .ok (.iadd, 1) ∧ decode code 926 = .ok (.iaload, 1) ∧ decode code 927 = .ok (.invokevirtual 219, 3) ∧ decode code 930 = .ok (.istore 7, 2) ∧ decode code 932 = .ok (.goto 519, 3) ∧ decode code 935 = .ok (.aload_n 1, 1) ∧ decode code 936 = .ok (.aload_n 0, 1) ∧ decode code 937 = .ok (.iload 5, 2) := by decide +kernel
theorem dL_law_925 : decode code 925 = .ok (.iadd, 1) := dA_59.1
theorem dL_law_926 : decode code 926 = .ok (.iaload, 1) := dA_59.2.1
theorem dL_law_927 : decode code 927 = .ok (.invokevirtual 219, 3) := dA_59.2.2.1
theorem dL_law_930 : decode code 930 = .ok (.istore 7, 2) := dA_59.2.2.2.1
theorem dL_law_932 : decode code 932 = .ok (.goto 519, 3) := dA_59.2.2.2.2.1
theorem dL_law_935 : decode code 935 = .ok (.aload_n 1, 1) := dA_59.2.2.2.2.2.1
theorem dL_law_936 : decode code 936 = .ok (.aload_n 0, 1) := dA_59.2.2.2.2.2.2.1
theorem dL_law_937 : decode code 937 = .ok (.iload 5, 2) := dA_59.2.2.2.2.2.2.2
theorem dA_60 : decode code 939 = .ok (.iconst 1, 1) ∧ decode code 940 = .ok (.iadd, 1) ∧ decode code 941 = .ok (.iaload, 1) ∧ decode code 942 = .ok (.aload_n 0, 1) ∧ decode code 943 = .ok (.iload 5, 2) ∧ decode code 945 = .ok (.iconst 2, 1) ∧ decode code 946 = .ok (.iadd, 1) ∧ decode code 947 = .ok (.iaload, 1) := by decide +kernel
theorem dL_law_939 : decode code 939 = .ok (.iconst 1, 1) := dA_60.1
theorem dL_law_940 : decode code 940 = .ok (.iadd, 1) := dA_60.2.1
theorem dL_law_941 : decode code 941 = .ok (.iaload, 1) := dA_60.2.2.1
theorem dL_law_942 : decode code 942 = .ok (.aload_n 0, 1) := dA_60.2.2.2.1
theorem dL_law_943 : decode code 943 = .ok (.iload 5, 2) := dA_60.2.2.2.2.1
theorem dL_law_945 : decode code 945 = .ok (.iconst 2, 1) := dA_60.2.2.2.2.2.1
theorem dL_law_946 : decode code 946 = .ok (.iadd, 1) := dA_60.2.2.2.2.2.2.1
theorem dL_law_947 : decode code 947 = .ok (.iaload, 1) := dA_60.2.2.2.2.2.2.2
theorem dA_61 : decode code 948 = .ok (.aload_n 3, 1) ∧ decode code 949 = .ok (.invokestatic 220, 3) ∧ decode code 952 = .ok (.istore 6, 2) ∧ decode code 954 = .ok (.aload_n 2, 1) ∧ decode code 955 = .ok (.aload_n 0, 1) ∧ decode code 956 = .ok (.iload 5, 2) ∧ decode code 958 = .ok (.iconst 1, 1) ∧ decode code 959 = .ok (.iadd, 1) := by decide +kernel
theorem dL_law_948 : decode code 948 = .ok (.aload_n 3, 1) := dA_61.1
theorem dL_law_949 : decode code 949 = .ok (.invokestatic 220, 3) := dA_61.2.1
theorem dL_law_952 : decode code 952 = .ok (.istore 6, 2) := dA_61.2.2.1
theorem dL_law_954 : decode code 954 = .ok (.aload_n 2, 1) := dA_61.2.2.2.1
theorem dL_law_955 : decode code 955 = .ok (.aload_n 0, 1) := dA_61.2.2.2.2.1
theorem dL_law_956 : decode code 956 = .ok (.iload 5, 2) := dA_61.2.2.2.2.2.1
theorem dL_law_958 : decode code 958 = .ok (.iconst 1, 1) := dA_61.2.2.2.2.2.2.1
theorem dL_law_959 : decode code 959 = .ok (.iadd, 1) := dA_61.2.2.2.2.2.2.2
theorem dA_62 : decode code 960 = .ok (.iaload, 1) ∧ decode code 961 = .ok (.aload_n 0, 1) ∧ decode code 962 = .ok (.iload 5, 2) ∧ decode code 964 = .ok (.iconst 2, 1) ∧ decode code 965 = .ok (.iadd, 1) ∧ decode code 966 = .ok (.iaload, 1) ∧ decode code 967 = .ok (.invokevirtual 222, 3) ∧ decode code 970 = .ok (.istore 7, 2) := by decide +kernel
theorem dL_law_960 : decode code 960 = .ok (.iaload, 1) := dA_62.1
theorem dL_law_961 : decode code 961 = .ok (.aload_n 0, 1) := dA_62.2.1
theorem dL_law_962 : decode code 962 = .ok (.iload 5, 2) := dA_62.2.2.1
theorem dL_law_964 : decode code 964 = .ok (.iconst 2, 1) := dA_62.2.2.2.1
theorem dL_law_965 : decode code 965 = .ok (.iadd, 1) := dA_62.2.2.2.2.1
theorem dL_law_966 : decode code 966 = .ok (.iaload, 1) := dA_62.2.2.2.2.2.1
theorem dL_law_967 : decode code 967 = .ok (.invokevirtual 222, 3) := dA_62.2.2.2.2.2.2.1
theorem dL_law_970 : decode code 970 = .ok (.istore 7, 2) := dA_62.2.2.2.2.2.2.2
theorem dA_63 : decode code 972 = .ok (.goto 479, 3) ∧ decode code 975 = .ok (.aload_n 1, 1) ∧ decode code 976 = .ok (.aload_n 0, 1) ∧ decode code 977 = .ok (.iload 5, 2) ∧ decode code 979 = .ok (.iconst 1, 1) ∧ decode code 980 = .ok (.iadd, 1) ∧ decode code 981 = .ok (.iaload, 1) ∧ decode code 982 = .ok (.aload_n 0, 1) := by decide +kernel
theorem dL_law_972 : decode code 972 = .ok (.goto 479, 3) := dA_63.1
theorem dL_law_975 : decode code 975 = .ok (.aload_n 1, 1) := dA_63.2.1
theorem dL_law_976 : decode code 976 = .ok (.aload_n 0, 1) := dA_63.2.2.1
theorem dL_law_977 : decode code 977 = .ok (.iload 5, 2) := dA_63.2.2.2.1
theorem dL_law_979 : decode code 979 = .ok (.iconst 1, 1) := dA_63.2.2.2.2.1
theorem dL_law_980 : decode code 980 = .ok (.iadd, 1) := dA_63.2.2.2.2.2.1
theorem dL_law_981 : decode code 981 = .ok (.iaload, 1) := dA_63.2.2.2.2.2.2.1
theorem dL_law_982 : decode code 982 = .ok (.aload_n 0, 1) := dA_63.2.2.2.2.2.2.2
theorem dA_64 : decode code 983 = .ok (.iload 5, 2) ∧ decode code 985 = .ok (.iconst 2, 1) ∧ decode code 986 = .ok (.iadd, 1) ∧ decode code 987 = .ok (.iaload, 1) ∧ decode code 988 = .ok (.aload_n 3, 1) ∧ decode code 989 = .ok (.invokestatic 223, 3) ∧ decode code 992 = .ok (.istore 6, 2) ∧ decode code 994 = .ok (.aload_n 2, 1) := by decide +kernel
theorem dL_law_983 : decode code 983 = .ok (.iload 5, 2) := dA_64.1
theorem dL_law_985 : decode code 985 = .ok (.iconst 2, 1) := dA_64.2.1
theorem dL_law_986 : decode code 986 = .ok (.iadd, 1) := dA_64.2.2.1
theorem dL_law_987 : decode code 987 = .ok (.iaload, 1) := dA_64.2.2.2.1
theorem dL_law_988 : decode code 988 = .ok (.aload_n 3, 1) := dA_64.2.2.2.2.1
theorem dL_law_989 : decode code 989 = .ok (.invokestatic 223, 3) := dA_64.2.2.2.2.2.1
theorem dL_law_992 : decode code 992 = .ok (.istore 6, 2) := dA_64.2.2.2.2.2.2.1
theorem dL_law_994 : decode code 994 = .ok (.aload_n 2, 1) := dA_64.2.2.2.2.2.2.2
theorem dA_65 : decode code 995 = .ok (.aload_n 0, 1) ∧ decode code 996 = .ok (.iload 5, 2) ∧ decode code 998 = .ok (.iconst 1, 1) ∧ decode code 999 = .ok (.iadd, 1) ∧ decode code 1000 = .ok (.iaload, 1) ∧ decode code 1001 = .ok (.aload_n 0, 1) ∧ decode code 1002 = .ok (.iload 5, 2) ∧ decode code 1004 = .ok (.iconst 2, 1) := by decide +kernel
theorem dL_law_995 : decode code 995 = .ok (.aload_n 0, 1) := dA_65.1
theorem dL_law_996 : decode code 996 = .ok (.iload 5, 2) := dA_65.2.1
theorem dL_law_998 : decode code 998 = .ok (.iconst 1, 1) := dA_65.2.2.1
theorem dL_law_999 : decode code 999 = .ok (.iadd, 1) := dA_65.2.2.2.1
theorem dL_law_1000 : decode code 1000 = .ok (.iaload, 1) := dA_65.2.2.2.2.1
theorem dL_law_1001 : decode code 1001 = .ok (.aload_n 0, 1) := dA_65.2.2.2.2.2.1
theorem dL_law_1002 : decode code 1002 = .ok (.iload 5, 2) := dA_65.2.2.2.2.2.2.1
theorem dL_law_1004 : decode code 1004 = .ok (.iconst 2, 1) := dA_65.2.2.2.2.2.2.2
theorem dA_66 : decode code 1005 = .ok (.iadd, 1) ∧ decode code 1006 = .ok (.iaload, 1) ∧ decode code 1007 = .ok (.invokevirtual 225, 3) ∧ decode code 1010 = .ok (.istore 7, 2) ∧ decode code 1012 = .ok (.goto 439, 3) ∧ decode code 1015 = .ok (.aload_n 1, 1) ∧ decode code 1016 = .ok (.aload_n 0, 1) ∧ decode code 1017 = .ok (.iload 5, 2) := by decide +kernel
theorem dL_law_1005 : decode code 1005 = .ok (.iadd, 1) := dA_66.1
theorem dL_law_1006 : decode code 1006 = .ok (.iaload, 1) := dA_66.2.1
theorem dL_law_1007 : decode code 1007 = .ok (.invokevirtual 225, 3) := dA_66.2.2.1
theorem dL_law_1010 : decode code 1010 = .ok (.istore 7, 2) := dA_66.2.2.2.1
theorem dL_law_1012 : decode code 1012 = .ok (.goto 439, 3) := dA_66.2.2.2.2.1
theorem dL_law_1015 : decode code 1015 = .ok (.aload_n 1, 1) := dA_66.2.2.2.2.2.1
theorem dL_law_1016 : decode code 1016 = .ok (.aload_n 0, 1) := dA_66.2.2.2.2.2.2.1
theorem dL_law_1017 : decode code 1017 = .ok (.iload 5, 2) := dA_66.2.2.2.2.2.2.2
theorem dA_67 : decode code 1019 = .ok (.iconst 1, 1) ∧ decode code 1020 = .ok (.iadd, 1) ∧ decode code 1021 = .ok (.iaload, 1) ∧ decode code 1022 = .ok (.aload_n 0, 1) ∧ decode code 1023 = .ok (.iload 5, 2) ∧ decode code 1025 = .ok (.iconst 2, 1) ∧ decode code 1026 = .ok (.iadd, 1) ∧ decode code 1027 = .ok (.iaload, 1) := by decide +kernel
theorem dL_law_1019 : decode code 1019 = .ok (.iconst 1, 1) := dA_67.1
theorem dL_law_1020 : decode code 1020 = .ok (.iadd, 1) := dA_67.2.1
theorem dL_law_1021 : decode code 1021 = .ok (.iaload, 1) := dA_67.2.2.1
theorem dL_law_1022 : decode code 1022 = .ok (.aload_n 0, 1) := dA_67.2.2.2.1
theorem dL_law_1023 : decode code 1023 = .ok (.iload 5, 2) := dA_67.2.2.2.2.1
theorem dL_law_1025 : decode code 1025 = .ok (.iconst 2, 1) := dA_67.2.2.2.2.2.1
theorem dL_law_1026 : decode code 1026 = .ok (.iadd, 1) := dA_67.2.2.2.2.2.2.1
theorem dL_law_1027 : decode code 1027 = .ok (.iaload, 1) := dA_67.2.2.2.2.2.2.2
theorem dA_68 : decode code 1028 = .ok (.aload_n 3, 1) ∧ decode code 1029 = .ok (.invokestatic 226, 3) ∧ decode code 1032 = .ok (.istore 6, 2) ∧ decode code 1034 = .ok (.aload_n 2, 1) ∧ decode code 1035 = .ok (.aload_n 0, 1) ∧ decode code 1036 = .ok (.iload 5, 2) ∧ decode code 1038 = .ok (.iconst 1, 1) ∧ decode code 1039 = .ok (.iadd, 1) := by decide +kernel
theorem dL_law_1028 : decode code 1028 = .ok (.aload_n 3, 1) := dA_68.1
theorem dL_law_1029 : decode code 1029 = .ok (.invokestatic 226, 3) := dA_68.2.1
theorem dL_law_1032 : decode code 1032 = .ok (.istore 6, 2) := dA_68.2.2.1
theorem dL_law_1034 : decode code 1034 = .ok (.aload_n 2, 1) := dA_68.2.2.2.1
theorem dL_law_1035 : decode code 1035 = .ok (.aload_n 0, 1) := dA_68.2.2.2.2.1
theorem dL_law_1036 : decode code 1036 = .ok (.iload 5, 2) := dA_68.2.2.2.2.2.1
theorem dL_law_1038 : decode code 1038 = .ok (.iconst 1, 1) := dA_68.2.2.2.2.2.2.1
theorem dL_law_1039 : decode code 1039 = .ok (.iadd, 1) := dA_68.2.2.2.2.2.2.2
theorem dA_69 : decode code 1040 = .ok (.iaload, 1) ∧ decode code 1041 = .ok (.aload_n 0, 1) ∧ decode code 1042 = .ok (.iload 5, 2) ∧ decode code 1044 = .ok (.iconst 2, 1) ∧ decode code 1045 = .ok (.iadd, 1) ∧ decode code 1046 = .ok (.iaload, 1) ∧ decode code 1047 = .ok (.invokevirtual 228, 3) ∧ decode code 1050 = .ok (.istore 7, 2) := by decide +kernel
theorem dL_law_1040 : decode code 1040 = .ok (.iaload, 1) := dA_69.1
theorem dL_law_1041 : decode code 1041 = .ok (.aload_n 0, 1) := dA_69.2.1
theorem dL_law_1042 : decode code 1042 = .ok (.iload 5, 2) := dA_69.2.2.1
theorem dL_law_1044 : decode code 1044 = .ok (.iconst 2, 1) := dA_69.2.2.2.1
theorem dL_law_1045 : decode code 1045 = .ok (.iadd, 1) := dA_69.2.2.2.2.1
theorem dL_law_1046 : decode code 1046 = .ok (.iaload, 1) := dA_69.2.2.2.2.2.1
theorem dL_law_1047 : decode code 1047 = .ok (.invokevirtual 228, 3) := dA_69.2.2.2.2.2.2.1
theorem dL_law_1050 : decode code 1050 = .ok (.istore 7, 2) := dA_69.2.2.2.2.2.2.2
theorem dA_70 : decode code 1052 = .ok (.goto 399, 3) ∧ decode code 1055 = .ok (.aload_n 1, 1) ∧ decode code 1056 = .ok (.aload_n 0, 1) ∧ decode code 1057 = .ok (.iload 5, 2) ∧ decode code 1059 = .ok (.iconst 1, 1) ∧ decode code 1060 = .ok (.iadd, 1) ∧ decode code 1061 = .ok (.iaload, 1) ∧ decode code 1062 = .ok (.aload_n 3, 1) := by decide +kernel
theorem dL_law_1052 : decode code 1052 = .ok (.goto 399, 3) := dA_70.1
theorem dL_law_1055 : decode code 1055 = .ok (.aload_n 1, 1) := dA_70.2.1
theorem dL_law_1056 : decode code 1056 = .ok (.aload_n 0, 1) := dA_70.2.2.1
theorem dL_law_1057 : decode code 1057 = .ok (.iload 5, 2) := dA_70.2.2.2.1
theorem dL_law_1059 : decode code 1059 = .ok (.iconst 1, 1) := dA_70.2.2.2.2.1
theorem dL_law_1060 : decode code 1060 = .ok (.iadd, 1) := dA_70.2.2.2.2.2.1
theorem dL_law_1061 : decode code 1061 = .ok (.iaload, 1) := dA_70.2.2.2.2.2.2.1
theorem dL_law_1062 : decode code 1062 = .ok (.aload_n 3, 1) := dA_70.2.2.2.2.2.2.2
theorem dA_71 : decode code 1063 = .ok (.invokestatic 229, 3) ∧ decode code 1066 = .ok (.istore 6, 2) ∧ decode code 1068 = .ok (.aload_n 2, 1) ∧ decode code 1069 = .ok (.aload_n 0, 1) ∧ decode code 1070 = .ok (.iload 5, 2) ∧ decode code 1072 = .ok (.iconst 1, 1) ∧ decode code 1073 = .ok (.iadd, 1) ∧ decode code 1074 = .ok (.iaload, 1) := by decide +kernel
theorem dL_law_1063 : decode code 1063 = .ok (.invokestatic 229, 3) := dA_71.1
theorem dL_law_1066 : decode code 1066 = .ok (.istore 6, 2) := dA_71.2.1
theorem dL_law_1068 : decode code 1068 = .ok (.aload_n 2, 1) := dA_71.2.2.1
theorem dL_law_1069 : decode code 1069 = .ok (.aload_n 0, 1) := dA_71.2.2.2.1
theorem dL_law_1070 : decode code 1070 = .ok (.iload 5, 2) := dA_71.2.2.2.2.1
theorem dL_law_1072 : decode code 1072 = .ok (.iconst 1, 1) := dA_71.2.2.2.2.2.1
theorem dL_law_1073 : decode code 1073 = .ok (.iadd, 1) := dA_71.2.2.2.2.2.2.1
theorem dL_law_1074 : decode code 1074 = .ok (.iaload, 1) := dA_71.2.2.2.2.2.2.2
theorem dA_72 : decode code 1075 = .ok (.invokevirtual 231, 3) ∧ decode code 1078 = .ok (.istore 7, 2) ∧ decode code 1080 = .ok (.goto 371, 3) ∧ decode code 1083 = .ok (.aload_n 1, 1) ∧ decode code 1084 = .ok (.aload_n 0, 1) ∧ decode code 1085 = .ok (.iload 5, 2) ∧ decode code 1087 = .ok (.iconst 1, 1) ∧ decode code 1088 = .ok (.iadd, 1) := by decide +kernel
theorem dL_law_1075 : decode code 1075 = .ok (.invokevirtual 231, 3) := dA_72.1
theorem dL_law_1078 : decode code 1078 = .ok (.istore 7, 2) := dA_72.2.1
theorem dL_law_1080 : decode code 1080 = .ok (.goto 371, 3) := dA_72.2.2.1
theorem dL_law_1083 : decode code 1083 = .ok (.aload_n 1, 1) := dA_72.2.2.2.1
theorem dL_law_1084 : decode code 1084 = .ok (.aload_n 0, 1) := dA_72.2.2.2.2.1
theorem dL_law_1085 : decode code 1085 = .ok (.iload 5, 2) := dA_72.2.2.2.2.2.1
theorem dL_law_1087 : decode code 1087 = .ok (.iconst 1, 1) := dA_72.2.2.2.2.2.2.1
theorem dL_law_1088 : decode code 1088 = .ok (.iadd, 1) := dA_72.2.2.2.2.2.2.2
theorem dA_73 : decode code 1089 = .ok (.iaload, 1) ∧ decode code 1090 = .ok (.aload_n 3, 1) ∧ decode code 1091 = .ok (.invokestatic 232, 3) ∧ decode code 1094 = .ok (.istore 6, 2) ∧ decode code 1096 = .ok (.aload_n 2, 1) ∧ decode code 1097 = .ok (.aload_n 0, 1) ∧ decode code 1098 = .ok (.iload 5, 2) ∧ decode code 1100 = .ok (.iconst 1, 1) := by decide +kernel
theorem dL_law_1089 : decode code 1089 = .ok (.iaload, 1) := dA_73.1
theorem dL_law_1090 : decode code 1090 = .ok (.aload_n 3, 1) := dA_73.2.1
theorem dL_law_1091 : decode code 1091 = .ok (.invokestatic 232, 3) := dA_73.2.2.1
theorem dL_law_1094 : decode code 1094 = .ok (.istore 6, 2) := dA_73.2.2.2.1
theorem dL_law_1096 : decode code 1096 = .ok (.aload_n 2, 1) := dA_73.2.2.2.2.1
theorem dL_law_1097 : decode code 1097 = .ok (.aload_n 0, 1) := dA_73.2.2.2.2.2.1
theorem dL_law_1098 : decode code 1098 = .ok (.iload 5, 2) := dA_73.2.2.2.2.2.2.1
theorem dL_law_1100 : decode code 1100 = .ok (.iconst 1, 1) := dA_73.2.2.2.2.2.2.2
theorem dA_74 : decode code 1101 = .ok (.iadd, 1) ∧ decode code 1102 = .ok (.iaload, 1) ∧ decode code 1103 = .ok (.invokevirtual 234, 3) ∧ decode code 1106 = .ok (.istore 7, 2) ∧ decode code 1108 = .ok (.goto 343, 3) ∧ decode code 1111 = .ok (.aload_n 1, 1) ∧ decode code 1112 = .ok (.invokevirtual 235, 3) ∧ decode code 1115 = .ok (.pop, 1) := by decide +kernel
theorem dL_law_1101 : decode code 1101 = .ok (.iadd, 1) := dA_74.1
theorem dL_law_1102 : decode code 1102 = .ok (.iaload, 1) := dA_74.2.1
theorem dL_law_1103 : decode code 1103 = .ok (.invokevirtual 234, 3) := dA_74.2.2.1
theorem dL_law_1106 : decode code 1106 = .ok (.istore 7, 2) := dA_74.2.2.2.1
theorem dL_law_1108 : decode code 1108 = .ok (.goto 343, 3) := dA_74.2.2.2.2.1
theorem dL_law_1111 : decode code 1111 = .ok (.aload_n 1, 1) := dA_74.2.2.2.2.2.1
theorem dL_law_1112 : decode code 1112 = .ok (.invokevirtual 235, 3) := dA_74.2.2.2.2.2.2.1
theorem dL_law_1115 : decode code 1115 = .ok (.pop, 1) := dA_74.2.2.2.2.2.2.2
theorem dA_75 : decode code 1116 = .ok (.aload_n 2, 1) ∧ decode code 1117 = .ok (.invokevirtual 238, 3) ∧ decode code 1120 = .ok (.pop, 1) ∧ decode code 1121 = .ok (.goto 330, 3) ∧ decode code 1124 = .ok (.aload_n 1, 1) ∧ decode code 1125 = .ok (.invokevirtual 239, 3) ∧ decode code 1128 = .ok (.pop, 1) ∧ decode code 1129 = .ok (.aload_n 2, 1) := by decide +kernel
theorem dL_law_1116 : decode code 1116 = .ok (.aload_n 2, 1) := dA_75.1
theorem dL_law_1117 : decode code 1117 = .ok (.invokevirtual 238, 3) := dA_75.2.1
theorem dL_law_1120 : decode code 1120 = .ok (.pop, 1) := dA_75.2.2.1
theorem dL_law_1121 : decode code 1121 = .ok (.goto 330, 3) := dA_75.2.2.2.1
theorem dL_law_1124 : decode code 1124 = .ok (.aload_n 1, 1) := dA_75.2.2.2.2.1
theorem dL_law_1125 : decode code 1125 = .ok (.invokevirtual 239, 3) := dA_75.2.2.2.2.2.1
theorem dL_law_1128 : decode code 1128 = .ok (.pop, 1) := dA_75.2.2.2.2.2.2.1
theorem dL_law_1129 : decode code 1129 = .ok (.aload_n 2, 1) := dA_75.2.2.2.2.2.2.2
theorem dA_76 : decode code 1130 = .ok (.invokevirtual 242, 3) ∧ decode code 1133 = .ok (.pop, 1) ∧ decode code 1134 = .ok (.goto 317, 3) ∧ decode code 1137 = .ok (.aload_n 1, 1) ∧ decode code 1138 = .ok (.invokevirtual 243, 3) ∧ decode code 1141 = .ok (.pop, 1) ∧ decode code 1142 = .ok (.aload_n 2, 1) ∧ decode code 1143 = .ok (.invokevirtual 246, 3) := by decide +kernel
theorem dL_law_1130 : decode code 1130 = .ok (.invokevirtual 242, 3) := dA_76.1
theorem dL_law_1133 : decode code 1133 = .ok (.pop, 1) := dA_76.2.1
theorem dL_law_1134 : decode code 1134 = .ok (.goto 317, 3) := dA_76.2.2.1
theorem dL_law_1137 : decode code 1137 = .ok (.aload_n 1, 1) := dA_76.2.2.2.1
theorem dL_law_1138 : decode code 1138 = .ok (.invokevirtual 243, 3) := dA_76.2.2.2.2.1
theorem dL_law_1141 : decode code 1141 = .ok (.pop, 1) := dA_76.2.2.2.2.2.1
theorem dL_law_1142 : decode code 1142 = .ok (.aload_n 2, 1) := dA_76.2.2.2.2.2.2.1
theorem dL_law_1143 : decode code 1143 = .ok (.invokevirtual 246, 3) := dA_76.2.2.2.2.2.2.2
theorem dA_77 : decode code 1146 = .ok (.pop, 1) ∧ decode code 1147 = .ok (.goto 304, 3) ∧ decode code 1150 = .ok (.aload_n 1, 1) ∧ decode code 1151 = .ok (.invokevirtual 247, 3) ∧ decode code 1154 = .ok (.pop, 1) ∧ decode code 1155 = .ok (.aload_n 2, 1) ∧ decode code 1156 = .ok (.invokevirtual 250, 3) ∧ decode code 1159 = .ok (.pop, 1) := by decide +kernel
theorem dL_law_1146 : decode code 1146 = .ok (.pop, 1) := dA_77.1
theorem dL_law_1147 : decode code 1147 = .ok (.goto 304, 3) := dA_77.2.1
theorem dL_law_1150 : decode code 1150 = .ok (.aload_n 1, 1) := dA_77.2.2.1
theorem dL_law_1151 : decode code 1151 = .ok (.invokevirtual 247, 3) := dA_77.2.2.2.1
theorem dL_law_1154 : decode code 1154 = .ok (.pop, 1) := dA_77.2.2.2.2.1
theorem dL_law_1155 : decode code 1155 = .ok (.aload_n 2, 1) := dA_77.2.2.2.2.2.1
theorem dL_law_1156 : decode code 1156 = .ok (.invokevirtual 250, 3) := dA_77.2.2.2.2.2.2.1
theorem dL_law_1159 : decode code 1159 = .ok (.pop, 1) := dA_77.2.2.2.2.2.2.2
theorem dA_78 : decode code 1160 = .ok (.goto 291, 3) ∧ decode code 1163 = .ok (.aload_n 1, 1) ∧ decode code 1164 = .ok (.aload_n 0, 1) ∧ decode code 1165 = .ok (.iload 5, 2) ∧ decode code 1167 = .ok (.iconst 1, 1) ∧ decode code 1168 = .ok (.iadd, 1) ∧ decode code 1169 = .ok (.iaload, 1) ∧ decode code 1170 = .ok (.aload_n 3, 1) := by decide +kernel
theorem dL_law_1160 : decode code 1160 = .ok (.goto 291, 3) := dA_78.1
theorem dL_law_1163 : decode code 1163 = .ok (.aload_n 1, 1) := dA_78.2.1
theorem dL_law_1164 : decode code 1164 = .ok (.aload_n 0, 1) := dA_78.2.2.1
theorem dL_law_1165 : decode code 1165 = .ok (.iload 5, 2) := dA_78.2.2.2.1
theorem dL_law_1167 : decode code 1167 = .ok (.iconst 1, 1) := dA_78.2.2.2.2.1
theorem dL_law_1168 : decode code 1168 = .ok (.iadd, 1) := dA_78.2.2.2.2.2.1
theorem dL_law_1169 : decode code 1169 = .ok (.iaload, 1) := dA_78.2.2.2.2.2.2.1
theorem dL_law_1170 : decode code 1170 = .ok (.aload_n 3, 1) := dA_78.2.2.2.2.2.2.2
theorem dA_79 : decode code 1171 = .ok (.invokestatic 251, 3) ∧ decode code 1174 = .ok (.istore 6, 2) ∧ decode code 1176 = .ok (.aload_n 2, 1) ∧ decode code 1177 = .ok (.aload_n 0, 1) ∧ decode code 1178 = .ok (.iload 5, 2) ∧ decode code 1180 = .ok (.iconst 1, 1) ∧ decode code 1181 = .ok (.iadd, 1) ∧ decode code 1182 = .ok (.iaload, 1) := by decide +kernel
theorem dL_law_1171 : decode code 1171 = .ok (.invokestatic 251, 3) := dA_79.1
theorem dL_law_1174 : decode code 1174 = .ok (.istore 6, 2) := dA_79.2.1
theorem dL_law_1176 : decode code 1176 = .ok (.aload_n 2, 1) := dA_79.2.2.1
theorem dL_law_1177 : decode code 1177 = .ok (.aload_n 0, 1) := dA_79.2.2.2.1
theorem dL_law_1178 : decode code 1178 = .ok (.iload 5, 2) := dA_79.2.2.2.2.1
theorem dL_law_1180 : decode code 1180 = .ok (.iconst 1, 1) := dA_79.2.2.2.2.2.1
theorem dL_law_1181 : decode code 1181 = .ok (.iadd, 1) := dA_79.2.2.2.2.2.2.1
theorem dL_law_1182 : decode code 1182 = .ok (.iaload, 1) := dA_79.2.2.2.2.2.2.2
theorem dA_80 : decode code 1183 = .ok (.invokevirtual 253, 3) ∧ decode code 1186 = .ok (.istore 7, 2) ∧ decode code 1188 = .ok (.goto 263, 3) ∧ decode code 1191 = .ok (.aload_n 1, 1) ∧ decode code 1192 = .ok (.invokevirtual 254, 3) ∧ decode code 1195 = .ok (.pop, 1) ∧ decode code 1196 = .ok (.aload_n 2, 1) ∧ decode code 1197 = .ok (.invokevirtual 257, 3) := by decide +kernel
theorem dL_law_1183 : decode code 1183 = .ok (.invokevirtual 253, 3) := dA_80.1
theorem dL_law_1186 : decode code 1186 = .ok (.istore 7, 2) := dA_80.2.1
theorem dL_law_1188 : decode code 1188 = .ok (.goto 263, 3) := dA_80.2.2.1
theorem dL_law_1191 : decode code 1191 = .ok (.aload_n 1, 1) := dA_80.2.2.2.1
theorem dL_law_1192 : decode code 1192 = .ok (.invokevirtual 254, 3) := dA_80.2.2.2.2.1
theorem dL_law_1195 : decode code 1195 = .ok (.pop, 1) := dA_80.2.2.2.2.2.1
theorem dL_law_1196 : decode code 1196 = .ok (.aload_n 2, 1) := dA_80.2.2.2.2.2.2.1
theorem dL_law_1197 : decode code 1197 = .ok (.invokevirtual 257, 3) := dA_80.2.2.2.2.2.2.2
theorem dA_81 : decode code 1200 = .ok (.pop, 1) ∧ decode code 1201 = .ok (.goto 250, 3) ∧ decode code 1204 = .ok (.aload_n 1, 1) ∧ decode code 1205 = .ok (.invokevirtual 258, 3) ∧ decode code 1208 = .ok (.pop, 1) ∧ decode code 1209 = .ok (.aload_n 2, 1) ∧ decode code 1210 = .ok (.invokevirtual 261, 3) ∧ decode code 1213 = .ok (.pop, 1) := by decide +kernel
theorem dL_law_1200 : decode code 1200 = .ok (.pop, 1) := dA_81.1
theorem dL_law_1201 : decode code 1201 = .ok (.goto 250, 3) := dA_81.2.1
theorem dL_law_1204 : decode code 1204 = .ok (.aload_n 1, 1) := dA_81.2.2.1
theorem dL_law_1205 : decode code 1205 = .ok (.invokevirtual 258, 3) := dA_81.2.2.2.1
theorem dL_law_1208 : decode code 1208 = .ok (.pop, 1) := dA_81.2.2.2.2.1
theorem dL_law_1209 : decode code 1209 = .ok (.aload_n 2, 1) := dA_81.2.2.2.2.2.1
theorem dL_law_1210 : decode code 1210 = .ok (.invokevirtual 261, 3) := dA_81.2.2.2.2.2.2.1
theorem dL_law_1213 : decode code 1213 = .ok (.pop, 1) := dA_81.2.2.2.2.2.2.2
theorem dA_82 : decode code 1214 = .ok (.goto 237, 3) ∧ decode code 1217 = .ok (.aload_n 1, 1) ∧ decode code 1218 = .ok (.invokevirtual 262, 3) ∧ decode code 1221 = .ok (.pop, 1) ∧ decode code 1222 = .ok (.aload_n 2, 1) ∧ decode code 1223 = .ok (.invokevirtual 265, 3) ∧ decode code 1226 = .ok (.pop, 1) ∧ decode code 1227 = .ok (.goto 224, 3) := by decide +kernel
theorem dL_law_1214 : decode code 1214 = .ok (.goto 237, 3) := dA_82.1
theorem dL_law_1217 : decode code 1217 = .ok (.aload_n 1, 1) := dA_82.2.1
theorem dL_law_1218 : decode code 1218 = .ok (.invokevirtual 262, 3) := dA_82.2.2.1
theorem dL_law_1221 : decode code 1221 = .ok (.pop, 1) := dA_82.2.2.2.1
theorem dL_law_1222 : decode code 1222 = .ok (.aload_n 2, 1) := dA_82.2.2.2.2.1
theorem dL_law_1223 : decode code 1223 = .ok (.invokevirtual 265, 3) := dA_82.2.2.2.2.2.1
theorem dL_law_1226 : decode code 1226 = .ok (.pop, 1) := dA_82.2.2.2.2.2.2.1
theorem dL_law_1227 : decode code 1227 = .ok (.goto 224, 3) := dA_82.2.2.2.2.2.2.2
theorem dA_83 : decode code 1230 = .ok (.aload_n 1, 1) ∧ decode code 1231 = .ok (.aload 4, 2) ∧ decode code 1233 = .ok (.invokestatic 266, 3) ∧ decode code 1236 = .ok (.istore 6, 2) ∧ decode code 1238 = .ok (.aload_n 2, 1) ∧ decode code 1239 = .ok (.invokevirtual 269, 3) ∧ decode code 1242 = .ok (.dstore 7, 2) ∧ decode code 1244 = .ok (.goto 207, 3) := by decide +kernel
theorem dL_law_1230 : decode code 1230 = .ok (.aload_n 1, 1) := dA_83.1
theorem dL_law_1231 : decode code 1231 = .ok (.aload 4, 2) := dA_83.2.1
theorem dL_law_1233 : decode code 1233 = .ok (.invokestatic 266, 3) := dA_83.2.2.1
theorem dL_law_1236 : decode code 1236 = .ok (.istore 6, 2) := dA_83.2.2.2.1
theorem dL_law_1238 : decode code 1238 = .ok (.aload_n 2, 1) := dA_83.2.2.2.2.1
theorem dL_law_1239 : decode code 1239 = .ok (.invokevirtual 269, 3) := dA_83.2.2.2.2.2.1
theorem dL_law_1242 : decode code 1242 = .ok (.dstore 7, 2) := dA_83.2.2.2.2.2.2.1
theorem dL_law_1244 : decode code 1244 = .ok (.goto 207, 3) := dA_83.2.2.2.2.2.2.2
theorem dA_84 : decode code 1247 = .ok (.aload_n 1, 1) ∧ decode code 1248 = .ok (.aload 4, 2) ∧ decode code 1250 = .ok (.invokestatic 270, 3) ∧ decode code 1253 = .ok (.istore 6, 2) ∧ decode code 1255 = .ok (.aload_n 2, 1) ∧ decode code 1256 = .ok (.invokevirtual 272, 3) ∧ decode code 1259 = .ok (.fstore 7, 2) ∧ decode code 1261 = .ok (.goto 190, 3) := by decide +kernel
theorem dL_law_1247 : decode code 1247 = .ok (.aload_n 1, 1) := dA_84.1
theorem dL_law_1248 : decode code 1248 = .ok (.aload 4, 2) := dA_84.2.1
theorem dL_law_1250 : decode code 1250 = .ok (.invokestatic 270, 3) := dA_84.2.2.1
theorem dL_law_1253 : decode code 1253 = .ok (.istore 6, 2) := dA_84.2.2.2.1
theorem dL_law_1255 : decode code 1255 = .ok (.aload_n 2, 1) := dA_84.2.2.2.2.1
theorem dL_law_1256 : decode code 1256 = .ok (.invokevirtual 272, 3) := dA_84.2.2.2.2.2.1
theorem dL_law_1259 : decode code 1259 = .ok (.fstore 7, 2) := dA_84.2.2.2.2.2.2.1
theorem dL_law_1261 : decode code 1261 = .ok (.goto 190, 3) := dA_84.2.2.2.2.2.2.2
theorem dA_85 : decode code 1264 = .ok (.aload_n 1, 1) ∧ decode code 1265 = .ok (.invokevirtual 273, 3) ∧ decode code 1268 = .ok (.pop, 1) ∧ decode code 1269 = .ok (.aload_n 2, 1) ∧ decode code 1270 = .ok (.invokevirtual 277, 3) ∧ decode code 1273 = .ok (.pop, 1) ∧ decode code 1274 = .ok (.goto 177, 3) ∧ decode code 1277 = .ok (.aload_n 1, 1) := by decide +kernel
theorem dL_law_1264 : decode code 1264 = .ok (.aload_n 1, 1) := dA_85.1
theorem dL_law_1265 : decode code 1265 = .ok (.invokevirtual 273, 3) := dA_85.2.1
theorem dL_law_1268 : decode code 1268 = .ok (.pop, 1) := dA_85.2.2.1
theorem dL_law_1269 : decode code 1269 = .ok (.aload_n 2, 1) := dA_85.2.2.2.1
theorem dL_law_1270 : decode code 1270 = .ok (.invokevirtual 277, 3) := dA_85.2.2.2.2.1
theorem dL_law_1273 : decode code 1273 = .ok (.pop, 1) := dA_85.2.2.2.2.2.1
theorem dL_law_1274 : decode code 1274 = .ok (.goto 177, 3) := dA_85.2.2.2.2.2.2.1
theorem dL_law_1277 : decode code 1277 = .ok (.aload_n 1, 1) := dA_85.2.2.2.2.2.2.2
theorem dA_86 : decode code 1278 = .ok (.aload_n 0, 1) ∧ decode code 1279 = .ok (.iload 5, 2) ∧ decode code 1281 = .ok (.iconst 1, 1) ∧ decode code 1282 = .ok (.iadd, 1) ∧ decode code 1283 = .ok (.iaload, 1) ∧ decode code 1284 = .ok (.i2c, 1) ∧ decode code 1285 = .ok (.aload_n 3, 1) ∧ decode code 1286 = .ok (.invokestatic 278, 3) := by decide +kernel
theorem dL_law_1278 : decode code 1278 = .ok (.aload_n 0, 1) := dA_86.1
theorem dL_law_1279 : decode code 1279 = .ok (.iload 5, 2) := dA_86.2.1
theorem dL_law_1281 : decode code 1281 = .ok (.iconst 1, 1) := dA_86.2.2.1
theorem dL_law_1282 : decode code 1282 = .ok (.iadd, 1) := dA_86.2.2.2.1
theorem dL_law_1283 : decode code 1283 = .ok (.iaload, 1) := dA_86.2.2.2.2.1
theorem dL_law_1284 : decode code 1284 = .ok (.i2c, 1) := dA_86.2.2.2.2.2.1
theorem dL_law_1285 : decode code 1285 = .ok (.aload_n 3, 1) := dA_86.2.2.2.2.2.2.1
theorem dL_law_1286 : decode code 1286 = .ok (.invokestatic 278, 3) := dA_86.2.2.2.2.2.2.2
theorem dA_87 : decode code 1289 = .ok (.istore 6, 2) ∧ decode code 1291 = .ok (.aload_n 2, 1) ∧ decode code 1292 = .ok (.aload_n 0, 1) ∧ decode code 1293 = .ok (.iload 5, 2) ∧ decode code 1295 = .ok (.iconst 1, 1) ∧ decode code 1296 = .ok (.iadd, 1) ∧ decode code 1297 = .ok (.iaload, 1) ∧ decode code 1298 = .ok (.i2c, 1) := by decide +kernel
theorem dL_law_1289 : decode code 1289 = .ok (.istore 6, 2) := dA_87.1
theorem dL_law_1291 : decode code 1291 = .ok (.aload_n 2, 1) := dA_87.2.1
theorem dL_law_1292 : decode code 1292 = .ok (.aload_n 0, 1) := dA_87.2.2.1
theorem dL_law_1293 : decode code 1293 = .ok (.iload 5, 2) := dA_87.2.2.2.1
theorem dL_law_1295 : decode code 1295 = .ok (.iconst 1, 1) := dA_87.2.2.2.2.1
theorem dL_law_1296 : decode code 1296 = .ok (.iadd, 1) := dA_87.2.2.2.2.2.1
theorem dL_law_1297 : decode code 1297 = .ok (.iaload, 1) := dA_87.2.2.2.2.2.2.1
theorem dL_law_1298 : decode code 1298 = .ok (.i2c, 1) := dA_87.2.2.2.2.2.2.2
theorem dA_88 : decode code 1299 = .ok (.invokevirtual 281, 3) ∧ decode code 1302 = .ok (.istore 7, 2) ∧ decode code 1304 = .ok (.goto 147, 3) ∧ decode code 1307 = .ok (.aload_n 1, 1) ∧ decode code 1308 = .ok (.aload_n 3, 1) ∧ decode code 1309 = .ok (.invokestatic 282, 3) ∧ decode code 1312 = .ok (.istore 6, 2) ∧ decode code 1314 = .ok (.aload_n 2, 1) := by decide +kernel
theorem dL_law_1299 : decode code 1299 = .ok (.invokevirtual 281, 3) := dA_88.1
theorem dL_law_1302 : decode code 1302 = .ok (.istore 7, 2) := dA_88.2.1
theorem dL_law_1304 : decode code 1304 = .ok (.goto 147, 3) := dA_88.2.2.1
theorem dL_law_1307 : decode code 1307 = .ok (.aload_n 1, 1) := dA_88.2.2.2.1
theorem dL_law_1308 : decode code 1308 = .ok (.aload_n 3, 1) := dA_88.2.2.2.2.1
theorem dL_law_1309 : decode code 1309 = .ok (.invokestatic 282, 3) := dA_88.2.2.2.2.2.1
theorem dL_law_1312 : decode code 1312 = .ok (.istore 6, 2) := dA_88.2.2.2.2.2.2.1
theorem dL_law_1314 : decode code 1314 = .ok (.aload_n 2, 1) := dA_88.2.2.2.2.2.2.2
theorem dA_89 : decode code 1315 = .ok (.invokevirtual 285, 3) ∧ decode code 1318 = .ok (.istore 7, 2) ∧ decode code 1320 = .ok (.goto 131, 3) ∧ decode code 1323 = .ok (.aload_n 1, 1) ∧ decode code 1324 = .ok (.aload_n 3, 1) ∧ decode code 1325 = .ok (.invokestatic 286, 3) ∧ decode code 1328 = .ok (.istore 6, 2) ∧ decode code 1330 = .ok (.aload_n 2, 1) := by decide +kernel
theorem dL_law_1315 : decode code 1315 = .ok (.invokevirtual 285, 3) := dA_89.1
theorem dL_law_1318 : decode code 1318 = .ok (.istore 7, 2) := dA_89.2.1
theorem dL_law_1320 : decode code 1320 = .ok (.goto 131, 3) := dA_89.2.2.1
theorem dL_law_1323 : decode code 1323 = .ok (.aload_n 1, 1) := dA_89.2.2.2.1
theorem dL_law_1324 : decode code 1324 = .ok (.aload_n 3, 1) := dA_89.2.2.2.2.1
theorem dL_law_1325 : decode code 1325 = .ok (.invokestatic 286, 3) := dA_89.2.2.2.2.2.1
theorem dL_law_1328 : decode code 1328 = .ok (.istore 6, 2) := dA_89.2.2.2.2.2.2.1
theorem dL_law_1330 : decode code 1330 = .ok (.aload_n 2, 1) := dA_89.2.2.2.2.2.2.2
theorem dA_90 : decode code 1331 = .ok (.invokevirtual 288, 3) ∧ decode code 1334 = .ok (.istore 7, 2) ∧ decode code 1336 = .ok (.goto 115, 3) ∧ decode code 1339 = .ok (.aload_n 1, 1) ∧ decode code 1340 = .ok (.aload_n 3, 1) ∧ decode code 1341 = .ok (.invokestatic 289, 3) ∧ decode code 1344 = .ok (.istore 6, 2) ∧ decode code 1346 = .ok (.aload_n 2, 1) := by decide +kernel
theorem dL_law_1331 : decode code 1331 = .ok (.invokevirtual 288, 3) := dA_90.1
theorem dL_law_1334 : decode code 1334 = .ok (.istore 7, 2) := dA_90.2.1
theorem dL_law_1336 : decode code 1336 = .ok (.goto 115, 3) := dA_90.2.2.1
theorem dL_law_1339 : decode code 1339 = .ok (.aload_n 1, 1) := dA_90.2.2.2.1
theorem dL_law_1340 : decode code 1340 = .ok (.aload_n 3, 1) := dA_90.2.2.2.2.1
theorem dL_law_1341 : decode code 1341 = .ok (.invokestatic 289, 3) := dA_90.2.2.2.2.2.1
theorem dL_law_1344 : decode code 1344 = .ok (.istore 6, 2) := dA_90.2.2.2.2.2.2.1
theorem dL_law_1346 : decode code 1346 = .ok (.aload_n 2, 1) := dA_90.2.2.2.2.2.2.2
theorem dA_91 : decode code 1347 = .ok (.invokevirtual 291, 3) ∧ decode code 1350 = .ok (.istore 7, 2) ∧ decode code 1352 = .ok (.goto 99, 3) ∧ decode code 1355 = .ok (.aload_n 1, 1) ∧ decode code 1356 = .ok (.aload_n 0, 1) ∧ decode code 1357 = .ok (.iload 5, 2) ∧ decode code 1359 = .ok (.iconst 1, 1) ∧ decode code 1360 = .ok (.iadd, 1) := by decide +kernel
theorem dL_law_1347 : decode code 1347 = .ok (.invokevirtual 291, 3) := dA_91.1
theorem dL_law_1350 : decode code 1350 = .ok (.istore 7, 2) := dA_91.2.1
theorem dL_law_1352 : decode code 1352 = .ok (.goto 99, 3) := dA_91.2.2.1
theorem dL_law_1355 : decode code 1355 = .ok (.aload_n 1, 1) := dA_91.2.2.2.1
theorem dL_law_1356 : decode code 1356 = .ok (.aload_n 0, 1) := dA_91.2.2.2.2.1
theorem dL_law_1357 : decode code 1357 = .ok (.iload 5, 2) := dA_91.2.2.2.2.2.1
theorem dL_law_1359 : decode code 1359 = .ok (.iconst 1, 1) := dA_91.2.2.2.2.2.2.1
theorem dL_law_1360 : decode code 1360 = .ok (.iadd, 1) := dA_91.2.2.2.2.2.2.2
theorem dA_92 : decode code 1361 = .ok (.iaload, 1) ∧ decode code 1362 = .ok (.aload_n 3, 1) ∧ decode code 1363 = .ok (.invokestatic 292, 3) ∧ decode code 1366 = .ok (.istore 6, 2) ∧ decode code 1368 = .ok (.aload_n 2, 1) ∧ decode code 1369 = .ok (.aload_n 0, 1) ∧ decode code 1370 = .ok (.iload 5, 2) ∧ decode code 1372 = .ok (.iconst 1, 1) := by decide +kernel
theorem dL_law_1361 : decode code 1361 = .ok (.iaload, 1) := dA_92.1
theorem dL_law_1362 : decode code 1362 = .ok (.aload_n 3, 1) := dA_92.2.1
theorem dL_law_1363 : decode code 1363 = .ok (.invokestatic 292, 3) := dA_92.2.2.1
theorem dL_law_1366 : decode code 1366 = .ok (.istore 6, 2) := dA_92.2.2.2.1
theorem dL_law_1368 : decode code 1368 = .ok (.aload_n 2, 1) := dA_92.2.2.2.2.1
theorem dL_law_1369 : decode code 1369 = .ok (.aload_n 0, 1) := dA_92.2.2.2.2.2.1
theorem dL_law_1370 : decode code 1370 = .ok (.iload 5, 2) := dA_92.2.2.2.2.2.2.1
theorem dL_law_1372 : decode code 1372 = .ok (.iconst 1, 1) := dA_92.2.2.2.2.2.2.2
theorem dA_93 : decode code 1373 = .ok (.iadd, 1) ∧ decode code 1374 = .ok (.iaload, 1) ∧ decode code 1375 = .ok (.invokevirtual 294, 3) ∧ decode code 1378 = .ok (.istore 7, 2) ∧ decode code 1380 = .ok (.goto 71, 3) ∧ decode code 1383 = .ok (.aload_n 1, 1) ∧ decode code 1384 = .ok (.aload_n 0, 1) ∧ decode code 1385 = .ok (.iload 5, 2) := by decide +kernel
theorem dL_law_1373 : decode code 1373 = .ok (.iadd, 1) := dA_93.1
theorem dL_law_1374 : decode code 1374 = .ok (.iaload, 1) := dA_93.2.1
theorem dL_law_1375 : decode code 1375 = .ok (.invokevirtual 294, 3) := dA_93.2.2.1
theorem dL_law_1378 : decode code 1378 = .ok (.istore 7, 2) := dA_93.2.2.2.1
theorem dL_law_1380 : decode code 1380 = .ok (.goto 71, 3) := dA_93.2.2.2.2.1
theorem dL_law_1383 : decode code 1383 = .ok (.aload_n 1, 1) := dA_93.2.2.2.2.2.1
theorem dL_law_1384 : decode code 1384 = .ok (.aload_n 0, 1) := dA_93.2.2.2.2.2.2.1
theorem dL_law_1385 : decode code 1385 = .ok (.iload 5, 2) := dA_93.2.2.2.2.2.2.2
theorem dA_94 : decode code 1387 = .ok (.iconst 1, 1) ∧ decode code 1388 = .ok (.iadd, 1) ∧ decode code 1389 = .ok (.iaload, 1) ∧ decode code 1390 = .ok (.aload_n 3, 1) ∧ decode code 1391 = .ok (.invokestatic 295, 3) ∧ decode code 1394 = .ok (.istore 6, 2) ∧ decode code 1396 = .ok (.aload_n 2, 1) ∧ decode code 1397 = .ok (.aload_n 0, 1) := by decide +kernel
theorem dL_law_1387 : decode code 1387 = .ok (.iconst 1, 1) := dA_94.1
theorem dL_law_1388 : decode code 1388 = .ok (.iadd, 1) := dA_94.2.1
theorem dL_law_1389 : decode code 1389 = .ok (.iaload, 1) := dA_94.2.2.1
theorem dL_law_1390 : decode code 1390 = .ok (.aload_n 3, 1) := dA_94.2.2.2.1
theorem dL_law_1391 : decode code 1391 = .ok (.invokestatic 295, 3) := dA_94.2.2.2.2.1
theorem dL_law_1394 : decode code 1394 = .ok (.istore 6, 2) := dA_94.2.2.2.2.2.1
theorem dL_law_1396 : decode code 1396 = .ok (.aload_n 2, 1) := dA_94.2.2.2.2.2.2.1
theorem dL_law_1397 : decode code 1397 = .ok (.aload_n 0, 1) := dA_94.2.2.2.2.2.2.2
theorem dA_95 : decode code 1398 = .ok (.iload 5, 2) ∧ decode code 1400 = .ok (.iconst 1, 1) ∧ decode code 1401 = .ok (.iadd, 1) ∧ decode code 1402 = .ok (.iaload, 1) ∧ decode code 1403 = .ok (.invokevirtual 297, 3) ∧ decode code 1406 = .ok (.istore 7, 2) ∧ decode code 1408 = .ok (.goto 43, 3) ∧ decode code 1411 = .ok (.aload_n 1, 1) := by decide +kernel
theorem dL_law_1398 : decode code 1398 = .ok (.iload 5, 2) := dA_95.1
theorem dL_law_1400 : decode code 1400 = .ok (.iconst 1, 1) := dA_95.2.1
theorem dL_law_1401 : decode code 1401 = .ok (.iadd, 1) := dA_95.2.2.1
theorem dL_law_1402 : decode code 1402 = .ok (.iaload, 1) := dA_95.2.2.2.1
theorem dL_law_1403 : decode code 1403 = .ok (.invokevirtual 297, 3) := dA_95.2.2.2.2.1
theorem dL_law_1406 : decode code 1406 = .ok (.istore 7, 2) := dA_95.2.2.2.2.2.1
theorem dL_law_1408 : decode code 1408 = .ok (.goto 43, 3) := dA_95.2.2.2.2.2.2.1
theorem dL_law_1411 : decode code 1411 = .ok (.aload_n 1, 1) := dA_95.2.2.2.2.2.2.2
theorem dA_96 : decode code 1412 = .ok (.aload_n 3, 1) ∧ decode code 1413 = .ok (.invokestatic 298, 3) ∧ decode code 1416 = .ok (.istore 6, 2) ∧ decode code 1418 = .ok (.aload_n 2, 1) ∧ decode code 1419 = .ok (.invokevirtual 300, 3) ∧ decode code 1422 = .ok (.istore 7, 2) ∧ decode code 1424 = .ok (.goto 27, 3) ∧ decode code 1427 = .ok (.aload_n 1, 1) := by decide +kernel
theorem dL_law_1412 : decode code 1412 = .ok (.aload_n 3, 1) := dA_96.1
theorem dL_law_1413 : decode code 1413 = .ok (.invokestatic 298, 3) := dA_96.2.1
theorem dL_law_1416 : decode code 1416 = .ok (.istore 6, 2) := dA_96.2.2.1
theorem dL_law_1418 : decode code 1418 = .ok (.aload_n 2, 1) := dA_96.2.2.2.1
theorem dL_law_1419 : decode code 1419 = .ok (.invokevirtual 300, 3) := dA_96.2.2.2.2.1
theorem dL_law_1422 : decode code 1422 = .ok (.istore 7, 2) := dA_96.2.2.2.2.2.1
theorem dL_law_1424 : decode code 1424 = .ok (.goto 27, 3) := dA_96.2.2.2.2.2.2.1
theorem dL_law_1427 : decode code 1427 = .ok (.aload_n 1, 1) := dA_96.2.2.2.2.2.2.2
theorem dA_97 : decode code 1428 = .ok (.invokevirtual 301, 3) ∧ decode code 1431 = .ok (.aload_n 2, 1) ∧ decode code 1432 = .ok (.invokevirtual 304, 3) ∧ decode code 1435 = .ok (.goto 16, 3) ∧ decode code 1438 = .ok (.aload_n 1, 1) ∧ decode code 1439 = .ok (.invokestatic 305, 3) ∧ decode code 1442 = .ok (.istore 6, 2) ∧ decode code 1444 = .ok (.aload_n 2, 1) := by decide +kernel
theorem dL_law_1428 : decode code 1428 = .ok (.invokevirtual 301, 3) := dA_97.1
theorem dL_law_1431 : decode code 1431 = .ok (.aload_n 2, 1) := dA_97.2.1
theorem dL_law_1432 : decode code 1432 = .ok (.invokevirtual 304, 3) := dA_97.2.2.1
theorem dL_law_1435 : decode code 1435 = .ok (.goto 16, 3) := dA_97.2.2.2.1
theorem dL_law_1438 : decode code 1438 = .ok (.aload_n 1, 1) := dA_97.2.2.2.2.1
theorem dL_law_1439 : decode code 1439 = .ok (.invokestatic 305, 3) := dA_97.2.2.2.2.2.1
theorem dL_law_1442 : decode code 1442 = .ok (.istore 6, 2) := dA_97.2.2.2.2.2.2.1
theorem dL_law_1444 : decode code 1444 = .ok (.aload_n 2, 1) := dA_97.2.2.2.2.2.2.2
theorem dA_98 : decode code 1445 = .ok (.invokevirtual 308, 3) ∧ decode code 1448 = .ok (.goto 3, 3) ∧ decode code 1451 = .ok (.iinc 5 4, 3) ∧ decode code 1454 = .ok (.goto (-1426), 3) ∧ decode code 1457 = .ok (.iconst 1, 1) ∧ decode code 1458 = .ok (.ireturn, 1) := by decide +kernel
theorem dL_law_1445 : decode code 1445 = .ok (.invokevirtual 308, 3) := dA_98.1
theorem dL_law_1448 : decode code 1448 = .ok (.goto 3, 3) := dA_98.2.1
theorem dL_law_1451 : decode code 1451 = .ok (.iinc 5 4, 3) := dA_98.2.2.1
theorem dL_law_1454 : decode code 1454 = .ok (.goto (-1426), 3) := dA_98.2.2.2.1
theorem dL_law_1457 : decode code 1457 = .ok (.iconst 1, 1) := dA_98.2.2.2.2.1
theorem dL_law_1458 : decode code 1458 = .ok (.ireturn, 1) := dA_98.2.2.2.2.2
