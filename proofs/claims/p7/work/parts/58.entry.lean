/-- the streams that the claim lets the run draw from -/
abbrev lw_cs : List Choice := [Jvm.Choice.named "NaN.bits"]
theorem lw_bits : nanBits ∈ lw_cs := by first | decide | exact List.mem_cons_self | simp [lw_cs, nanBits]
/-! THE CLAIM OUT OF ONE WALK OF THE LAW'S BODY. Your part is whole_start (and what it stands on); all else here is the same for every law, but numbers. -/
def R_law : String := "HedgeCommitteeLaw"
def lw_P (b : Addr) (xs : List Int32) (args : Array Value) (s : State) : Prop := args = #[.ref b] ∧ s.IntsAt b xs ∧ xs.length ≤ 2048 ∧ (Jvm.Cond.and given_1 narrow_1).before args s = true
/-- what a walk over the start with the record d0 says of its end, said of the start itself -/
theorem lw_closed {s t : State} {o : Outcome} {d0 : Drawn} {L : List Loc} {k n : Nat} (hd0 : s.drawn.sameBut d0 lw_cs) (hv : ∃ v, o = .returned v) (hW : (s.setDrawn d0).WarmedH t.vm) (hs : (s.setDrawn d0).sameButNew ({ t with vm := s.vm } : State) L k n) : State.butDraws s t lw_cs (fun t1 => Framed s o t1 L k n) := by
  have h2 : t.drawn = d0 := congrArg State.drawn hs.1
  refine ⟨⟨hv, hW, State.sameButNew.setDrawn hs s.drawn⟩, ?_, by decide⟩
  rw [h2]
  exact hd0
def lw_Q (_ : Array Value) (s : State) (o : Outcome) (t : State) : Prop := o = .returned (some (.int 1)) ∧ State.butDraws s t lw_cs (fun t1 => Framed s o t1 [] 603072 7198826)
def lw_Z (below : List Frame) (a : Array Value) (s : State) : State → Prop := fun t => ∃ o, t.status = .running ∧ Ended t below o ∧ lw_Q a s o t
/-- the law's own end, with 1 on the stack, nothing written that was there before, its room as the claim has it; d0: the record of draws at this point (at the entry s.drawn: begin with 'refine W.base ?_' and 'have hd0 := Drawn.sameBut.refl s.drawn lw_cs') -/
theorem lw_ret {p : Program} {l : Launch} {e : Env} {s : State} {m : MethodId} {below : List Frame} {meth : Method} {c : Code} {b : Nat} {d0 : Drawn} (hd0 : s.drawn.sameBut d0 lw_cs) (hx : p.tables.exec = Jvm.exec) (hb : c.code = code) (hr : meth.sig.returnType = ret) (hlocks : meth.locks = false) {pc : Nat} {H : Heap} {ls : Array Slot} (hdg : decode code pc = .ok (.ireturn, 1)) : W p l e room_1 (s.setDrawn d0) m #[Value.ref b] below meth c H [] 603072 7198826 (lw_Z below #[Value.ref b] s) (F0 m pc ls [.int 1]) := by
  intro T hT X
  obtain ⟨fs, hret, hrun, hended, hW, hframe⟩ := X.leave (v := some (.int 1)) (hlocks := hlocks) (fun h => by rw [hr] at h; cases h)
  have hmeth' : T.vm.method? m = some meth := X.method'
  refine ⟨T.setFrames fs, ?_, .returned (some (.int 1)), hrun, hended, rfl, lw_closed hd0 ⟨_, rfl⟩ hW hframe⟩
  jvm_step X.here [X.here.top, hx, hb, hdg, hmeth', hr, ret, narrow_b1]
  (try refine ⟨rfl, ?_⟩); (try refine ⟨rfl, ?_⟩)
  first | (intro acts; rw [hret _ acts rfl rfl rfl]) | rw [hret _ _ rfl rfl rfl]
  exact Steps.refl _
/-- what holds at the law's entry: the machine, the code, the tables' words (any of lw_tbl by 'hts w (by decide +kernel)'), the script of L ints xs at the cell b, what the Statement gives of the start (any of its parts by flat_of_before) -/
def lw_At (p : Program) (s : State) (m : MethodId) (meth : Method) (c : Code) (b L : Nat) (xs : Nat → Int32) : Prop :=
  p.tables.exec = Jvm.exec ∧ c.code = code ∧ meth.sig.returnType = ret ∧ c.maxLocals = 9 ∧ s.vm.findClass R_law = some m.cls ∧ (∀ w ∈ lw_tbl, w.before #[Value.ref b] s = true) ∧ va_X b L xs s s.heap ∧ b < s.heap.size ∧ meth.locks = false ∧ (Jvm.Cond.and given_1 narrow_1).before #[Value.ref b] s = true
theorem dA_0 : decode code 0 = .ok (.new 8, 3) ∧ decode code 3 = .ok (.dup, 1) ∧ decode code 4 = .ok (.invokespecial 139, 3) ∧ decode code 7 = .ok (.astore_n 1, 1) ∧ decode code 8 = .ok (.new 140, 3) ∧ decode code 11 = .ok (.dup, 1) ∧ decode code 12 = .ok (.invokespecial 142, 3) ∧ decode code 15 = .ok (.astore_n 2, 1) := by decide +kernel
theorem dL_law_0 : decode code 0 = .ok (.new 8, 3) := dA_0.1
theorem dL_law_3 : decode code 3 = .ok (.dup, 1) := dA_0.2.1
theorem dL_law_4 : decode code 4 = .ok (.invokespecial 139, 3) := dA_0.2.2.1
theorem dL_law_7 : decode code 7 = .ok (.astore_n 1, 1) := dA_0.2.2.2.1
theorem dL_law_8 : decode code 8 = .ok (.new 140, 3) := dA_0.2.2.2.2.1
theorem dL_law_11 : decode code 11 = .ok (.dup, 1) := dA_0.2.2.2.2.2.1
theorem dL_law_12 : decode code 12 = .ok (.invokespecial 142, 3) := dA_0.2.2.2.2.2.2.1
theorem dL_law_15 : decode code 15 = .ok (.astore_n 2, 1) := dA_0.2.2.2.2.2.2.2
theorem dA_1 : decode code 16 = .ok (.iconst 1, 1) ∧ decode code 17 = .ok (.newarray .long, 2) ∧ decode code 19 = .ok (.astore_n 3, 1) ∧ decode code 20 = .ok (.iconst 1, 1) ∧ decode code 21 = .ok (.newarray .double, 2) ∧ decode code 23 = .ok (.astore 4, 2) ∧ decode code 25 = .ok (.iconst 0, 1) ∧ decode code 26 = .ok (.istore 5, 2) := by decide +kernel
theorem dL_law_16 : decode code 16 = .ok (.iconst 1, 1) := dA_1.1
theorem dL_law_17 : decode code 17 = .ok (.newarray .long, 2) := dA_1.2.1
theorem dL_law_19 : decode code 19 = .ok (.astore_n 3, 1) := dA_1.2.2.1
theorem dL_law_20 : decode code 20 = .ok (.iconst 1, 1) := dA_1.2.2.2.1
theorem dL_law_21 : decode code 21 = .ok (.newarray .double, 2) := dA_1.2.2.2.2.1
theorem dL_law_23 : decode code 23 = .ok (.astore 4, 2) := dA_1.2.2.2.2.2.1
theorem dL_law_25 : decode code 25 = .ok (.iconst 0, 1) := dA_1.2.2.2.2.2.2.1
theorem dL_law_26 : decode code 26 = .ok (.istore 5, 2) := dA_1.2.2.2.2.2.2.2
theorem dA_2 : decode code 28 = .ok (.iload 5, 2) ∧ decode code 30 = .ok (.aload_n 0, 1) ∧ decode code 31 = .ok (.arraylength, 1) ∧ decode code 32 = .ok (.iconst 4, 1) ∧ decode code 33 = .ok (.isub, 1) ∧ decode code 34 = .ok (.if_icmp .gt 1451, 3) ∧ decode code 37 = .ok (.aload_n 0, 1) ∧ decode code 38 = .ok (.iload 5, 2) := by decide +kernel
theorem dL_law_28 : decode code 28 = .ok (.iload 5, 2) := dA_2.1
theorem dL_law_30 : decode code 30 = .ok (.aload_n 0, 1) := dA_2.2.1
theorem dL_law_31 : decode code 31 = .ok (.arraylength, 1) := dA_2.2.2.1
theorem dL_law_32 : decode code 32 = .ok (.iconst 4, 1) := dA_2.2.2.2.1
theorem dL_law_33 : decode code 33 = .ok (.isub, 1) := dA_2.2.2.2.2.1
theorem dL_law_34 : decode code 34 = .ok (.if_icmp .gt 1451, 3) := dA_2.2.2.2.2.2.1
theorem dL_law_37 : decode code 37 = .ok (.aload_n 0, 1) := dA_2.2.2.2.2.2.2.1
theorem dL_law_38 : decode code 38 = .ok (.iload 5, 2) := dA_2.2.2.2.2.2.2.2
theorem dA_3 : decode code 40 = .ok (.iaload, 1) ∧ decode code 41 = .ok (.bipush 63, 2) ∧ decode code 43 = .ok (.iand, 1) ∧ decode code 44 = .ok (.tableswitch 1435 0 47 #[208, 260, 300, 352, 392, 420, 476, 489, 502, 530, 558, 586, 614, 654, 667, 695, 723, 751, 779, 807, 835, 863, 891, 919, 959, 999, 1039, 1067, 1095, 1108, 1121, 1134, 1147, 1175, 1188, 1201, 1214, 1231, 1248, 1261, 1291, 1307, 1323, 1339, 1367, 1395, 1411, 1422], 208) ∧ decode code 252 = .ok (.aload_n 1, 1) ∧ decode code 253 = .ok (.aload_n 0, 1) ∧ decode code 254 = .ok (.iload 5, 2) ∧ decode code 256 = .ok (.iconst 1, 1) := by decide +kernel
theorem dL_law_40 : decode code 40 = .ok (.iaload, 1) := dA_3.1
theorem dL_law_41 : decode code 41 = .ok (.bipush 63, 2) := dA_3.2.1
theorem dL_law_43 : decode code 43 = .ok (.iand, 1) := dA_3.2.2.1
theorem dL_law_44 : decode code 44 = .ok (.tableswitch 1435 0 47 #[208, 260, 300, 352, 392, 420, 476, 489, 502, 530, 558, 586, 614, 654, 667, 695, 723, 751, 779, 807, 835, 863, 891, 919, 959, 999, 1039, 1067, 1095, 1108, 1121, 1134, 1147, 1175, 1188, 1201, 1214, 1231, 1248, 1261, 1291, 1307, 1323, 1339, 1367, 1395, 1411, 1422], 208) := dA_3.2.2.2.1
theorem dL_law_252 : decode code 252 = .ok (.aload_n 1, 1) := dA_3.2.2.2.2.1
theorem dL_law_253 : decode code 253 = .ok (.aload_n 0, 1) := dA_3.2.2.2.2.2.1
theorem dL_law_254 : decode code 254 = .ok (.iload 5, 2) := dA_3.2.2.2.2.2.2.1
theorem dL_law_256 : decode code 256 = .ok (.iconst 1, 1) := dA_3.2.2.2.2.2.2.2
theorem dA_4 : decode code 257 = .ok (.iadd, 1) ∧ decode code 258 = .ok (.iaload, 1) ∧ decode code 259 = .ok (.aload_n 0, 1) ∧ decode code 260 = .ok (.iload 5, 2) ∧ decode code 262 = .ok (.iconst 2, 1) ∧ decode code 263 = .ok (.iadd, 1) ∧ decode code 264 = .ok (.iaload, 1) ∧ decode code 265 = .ok (.aload_n 0, 1) := by decide +kernel
theorem dL_law_257 : decode code 257 = .ok (.iadd, 1) := dA_4.1
theorem dL_law_258 : decode code 258 = .ok (.iaload, 1) := dA_4.2.1
theorem dL_law_259 : decode code 259 = .ok (.aload_n 0, 1) := dA_4.2.2.1
theorem dL_law_260 : decode code 260 = .ok (.iload 5, 2) := dA_4.2.2.2.1
theorem dL_law_262 : decode code 262 = .ok (.iconst 2, 1) := dA_4.2.2.2.2.1
theorem dL_law_263 : decode code 263 = .ok (.iadd, 1) := dA_4.2.2.2.2.2.1
theorem dL_law_264 : decode code 264 = .ok (.iaload, 1) := dA_4.2.2.2.2.2.2.1
theorem dL_law_265 : decode code 265 = .ok (.aload_n 0, 1) := dA_4.2.2.2.2.2.2.2
theorem dA_5 : decode code 266 = .ok (.iload 5, 2) ∧ decode code 268 = .ok (.iconst 3, 1) ∧ decode code 269 = .ok (.iadd, 1) ∧ decode code 270 = .ok (.iaload, 1) ∧ decode code 271 = .ok (.aload_n 3, 1) ∧ decode code 272 = .ok (.invokestatic 143, 3) ∧ decode code 275 = .ok (.istore 6, 2) ∧ decode code 277 = .ok (.aload_n 2, 1) := by decide +kernel
theorem dL_law_266 : decode code 266 = .ok (.iload 5, 2) := dA_5.1
theorem dL_law_268 : decode code 268 = .ok (.iconst 3, 1) := dA_5.2.1
theorem dL_law_269 : decode code 269 = .ok (.iadd, 1) := dA_5.2.2.1
theorem dL_law_270 : decode code 270 = .ok (.iaload, 1) := dA_5.2.2.2.1
theorem dL_law_271 : decode code 271 = .ok (.aload_n 3, 1) := dA_5.2.2.2.2.1
theorem dL_law_272 : decode code 272 = .ok (.invokestatic 143, 3) := dA_5.2.2.2.2.2.1
theorem dL_law_275 : decode code 275 = .ok (.istore 6, 2) := dA_5.2.2.2.2.2.2.1
theorem dL_law_277 : decode code 277 = .ok (.aload_n 2, 1) := dA_5.2.2.2.2.2.2.2
theorem dA_6 : decode code 278 = .ok (.aload_n 0, 1) ∧ decode code 279 = .ok (.iload 5, 2) ∧ decode code 281 = .ok (.iconst 1, 1) ∧ decode code 282 = .ok (.iadd, 1) ∧ decode code 283 = .ok (.iaload, 1) ∧ decode code 284 = .ok (.aload_n 0, 1) ∧ decode code 285 = .ok (.iload 5, 2) ∧ decode code 287 = .ok (.iconst 2, 1) := by decide +kernel
theorem dL_law_278 : decode code 278 = .ok (.aload_n 0, 1) := dA_6.1
theorem dL_law_279 : decode code 279 = .ok (.iload 5, 2) := dA_6.2.1
theorem dL_law_281 : decode code 281 = .ok (.iconst 1, 1) := dA_6.2.2.1
theorem dL_law_282 : decode code 282 = .ok (.iadd, 1) := dA_6.2.2.2.1
theorem dL_law_283 : decode code 283 = .ok (.iaload, 1) := dA_6.2.2.2.2.1
theorem dL_law_284 : decode code 284 = .ok (.aload_n 0, 1) := dA_6.2.2.2.2.2.1
theorem dL_law_285 : decode code 285 = .ok (.iload 5, 2) := dA_6.2.2.2.2.2.2.1
theorem dL_law_287 : decode code 287 = .ok (.iconst 2, 1) := dA_6.2.2.2.2.2.2.2
theorem dA_7 : decode code 288 = .ok (.iadd, 1) ∧ decode code 289 = .ok (.iaload, 1) ∧ decode code 290 = .ok (.aload_n 0, 1) ∧ decode code 291 = .ok (.iload 5, 2) ∧ decode code 293 = .ok (.iconst 3, 1) ∧ decode code 294 = .ok (.iadd, 1) ∧ decode code 295 = .ok (.iaload, 1) ∧ decode code 296 = .ok (.invokevirtual 148, 3) := by decide +kernel
theorem dL_law_288 : decode code 288 = .ok (.iadd, 1) := dA_7.1
theorem dL_law_289 : decode code 289 = .ok (.iaload, 1) := dA_7.2.1
theorem dL_law_290 : decode code 290 = .ok (.aload_n 0, 1) := dA_7.2.2.1
theorem dL_law_291 : decode code 291 = .ok (.iload 5, 2) := dA_7.2.2.2.1
theorem dL_law_293 : decode code 293 = .ok (.iconst 3, 1) := dA_7.2.2.2.2.1
theorem dL_law_294 : decode code 294 = .ok (.iadd, 1) := dA_7.2.2.2.2.2.1
theorem dL_law_295 : decode code 295 = .ok (.iaload, 1) := dA_7.2.2.2.2.2.2.1
theorem dL_law_296 : decode code 296 = .ok (.invokevirtual 148, 3) := dA_7.2.2.2.2.2.2.2
theorem dA_8 : decode code 299 = .ok (.istore 7, 2) ∧ decode code 301 = .ok (.goto 1178, 3) ∧ decode code 304 = .ok (.aload_n 1, 1) ∧ decode code 305 = .ok (.aload_n 0, 1) ∧ decode code 306 = .ok (.iload 5, 2) ∧ decode code 308 = .ok (.iconst 1, 1) ∧ decode code 309 = .ok (.iadd, 1) ∧ decode code 310 = .ok (.iaload, 1) := by decide +kernel
theorem dL_law_299 : decode code 299 = .ok (.istore 7, 2) := dA_8.1
theorem dL_law_301 : decode code 301 = .ok (.goto 1178, 3) := dA_8.2.1
theorem dL_law_304 : decode code 304 = .ok (.aload_n 1, 1) := dA_8.2.2.1
theorem dL_law_305 : decode code 305 = .ok (.aload_n 0, 1) := dA_8.2.2.2.1
theorem dL_law_306 : decode code 306 = .ok (.iload 5, 2) := dA_8.2.2.2.2.1
theorem dL_law_308 : decode code 308 = .ok (.iconst 1, 1) := dA_8.2.2.2.2.2.1
theorem dL_law_309 : decode code 309 = .ok (.iadd, 1) := dA_8.2.2.2.2.2.2.1
theorem dL_law_310 : decode code 310 = .ok (.iaload, 1) := dA_8.2.2.2.2.2.2.2
theorem dA_9 : decode code 311 = .ok (.aload_n 0, 1) ∧ decode code 312 = .ok (.iload 5, 2) ∧ decode code 314 = .ok (.iconst 2, 1) ∧ decode code 315 = .ok (.iadd, 1) ∧ decode code 316 = .ok (.iaload, 1) ∧ decode code 317 = .ok (.aload_n 3, 1) ∧ decode code 318 = .ok (.invokestatic 149, 3) ∧ decode code 321 = .ok (.istore 6, 2) := by decide +kernel
theorem dL_law_311 : decode code 311 = .ok (.aload_n 0, 1) := dA_9.1
theorem dL_law_312 : decode code 312 = .ok (.iload 5, 2) := dA_9.2.1
theorem dL_law_314 : decode code 314 = .ok (.iconst 2, 1) := dA_9.2.2.1
theorem dL_law_315 : decode code 315 = .ok (.iadd, 1) := dA_9.2.2.2.1
theorem dL_law_316 : decode code 316 = .ok (.iaload, 1) := dA_9.2.2.2.2.1
theorem dL_law_317 : decode code 317 = .ok (.aload_n 3, 1) := dA_9.2.2.2.2.2.1
theorem dL_law_318 : decode code 318 = .ok (.invokestatic 149, 3) := dA_9.2.2.2.2.2.2.1
theorem dL_law_321 : decode code 321 = .ok (.istore 6, 2) := dA_9.2.2.2.2.2.2.2
theorem dA_10 : decode code 323 = .ok (.aload_n 2, 1) ∧ decode code 324 = .ok (.aload_n 0, 1) ∧ decode code 325 = .ok (.iload 5, 2) ∧ decode code 327 = .ok (.iconst 1, 1) ∧ decode code 328 = .ok (.iadd, 1) ∧ decode code 329 = .ok (.iaload, 1) ∧ decode code 330 = .ok (.aload_n 0, 1) ∧ decode code 331 = .ok (.iload 5, 2) := by decide +kernel
theorem dL_law_323 : decode code 323 = .ok (.aload_n 2, 1) := dA_10.1
theorem dL_law_324 : decode code 324 = .ok (.aload_n 0, 1) := dA_10.2.1
theorem dL_law_325 : decode code 325 = .ok (.iload 5, 2) := dA_10.2.2.1
theorem dL_law_327 : decode code 327 = .ok (.iconst 1, 1) := dA_10.2.2.2.1
theorem dL_law_328 : decode code 328 = .ok (.iadd, 1) := dA_10.2.2.2.2.1
theorem dL_law_329 : decode code 329 = .ok (.iaload, 1) := dA_10.2.2.2.2.2.1
theorem dL_law_330 : decode code 330 = .ok (.aload_n 0, 1) := dA_10.2.2.2.2.2.2.1
theorem dL_law_331 : decode code 331 = .ok (.iload 5, 2) := dA_10.2.2.2.2.2.2.2
theorem dA_11 : decode code 333 = .ok (.iconst 2, 1) ∧ decode code 334 = .ok (.iadd, 1) ∧ decode code 335 = .ok (.iaload, 1) ∧ decode code 336 = .ok (.invokevirtual 152, 3) ∧ decode code 339 = .ok (.istore 7, 2) ∧ decode code 341 = .ok (.goto 1138, 3) ∧ decode code 344 = .ok (.aload_n 1, 1) ∧ decode code 345 = .ok (.aload_n 0, 1) := by decide +kernel
theorem dL_law_333 : decode code 333 = .ok (.iconst 2, 1) := dA_11.1
theorem dL_law_334 : decode code 334 = .ok (.iadd, 1) := dA_11.2.1
theorem dL_law_335 : decode code 335 = .ok (.iaload, 1) := dA_11.2.2.1
theorem dL_law_336 : decode code 336 = .ok (.invokevirtual 152, 3) := dA_11.2.2.2.1
theorem dL_law_339 : decode code 339 = .ok (.istore 7, 2) := dA_11.2.2.2.2.1
theorem dL_law_341 : decode code 341 = .ok (.goto 1138, 3) := dA_11.2.2.2.2.2.1
theorem dL_law_344 : decode code 344 = .ok (.aload_n 1, 1) := dA_11.2.2.2.2.2.2.1
theorem dL_law_345 : decode code 345 = .ok (.aload_n 0, 1) := dA_11.2.2.2.2.2.2.2
theorem dA_12 : decode code 346 = .ok (.iload 5, 2) ∧ decode code 348 = .ok (.iconst 1, 1) ∧ decode code 349 = .ok (.iadd, 1) ∧ decode code 350 = .ok (.iaload, 1) ∧ decode code 351 = .ok (.aload_n 0, 1) ∧ decode code 352 = .ok (.iload 5, 2) ∧ decode code 354 = .ok (.iconst 2, 1) ∧ decode code 355 = .ok (.iadd, 1) := by decide +kernel
theorem dL_law_346 : decode code 346 = .ok (.iload 5, 2) := dA_12.1
theorem dL_law_348 : decode code 348 = .ok (.iconst 1, 1) := dA_12.2.1
theorem dL_law_349 : decode code 349 = .ok (.iadd, 1) := dA_12.2.2.1
theorem dL_law_350 : decode code 350 = .ok (.iaload, 1) := dA_12.2.2.2.1
theorem dL_law_351 : decode code 351 = .ok (.aload_n 0, 1) := dA_12.2.2.2.2.1
theorem dL_law_352 : decode code 352 = .ok (.iload 5, 2) := dA_12.2.2.2.2.2.1
theorem dL_law_354 : decode code 354 = .ok (.iconst 2, 1) := dA_12.2.2.2.2.2.2.1
theorem dL_law_355 : decode code 355 = .ok (.iadd, 1) := dA_12.2.2.2.2.2.2.2
theorem dA_13 : decode code 356 = .ok (.iaload, 1) ∧ decode code 357 = .ok (.aload_n 0, 1) ∧ decode code 358 = .ok (.iload 5, 2) ∧ decode code 360 = .ok (.iconst 3, 1) ∧ decode code 361 = .ok (.iadd, 1) ∧ decode code 362 = .ok (.iaload, 1) ∧ decode code 363 = .ok (.aload_n 3, 1) ∧ decode code 364 = .ok (.invokestatic 153, 3) := by decide +kernel
theorem dL_law_356 : decode code 356 = .ok (.iaload, 1) := dA_13.1
theorem dL_law_357 : decode code 357 = .ok (.aload_n 0, 1) := dA_13.2.1
theorem dL_law_358 : decode code 358 = .ok (.iload 5, 2) := dA_13.2.2.1
theorem dL_law_360 : decode code 360 = .ok (.iconst 3, 1) := dA_13.2.2.2.1
theorem dL_law_361 : decode code 361 = .ok (.iadd, 1) := dA_13.2.2.2.2.1
theorem dL_law_362 : decode code 362 = .ok (.iaload, 1) := dA_13.2.2.2.2.2.1
theorem dL_law_363 : decode code 363 = .ok (.aload_n 3, 1) := dA_13.2.2.2.2.2.2.1
theorem dL_law_364 : decode code 364 = .ok (.invokestatic 153, 3) := dA_13.2.2.2.2.2.2.2
theorem dA_14 : decode code 367 = .ok (.istore 6, 2) ∧ decode code 369 = .ok (.aload_n 2, 1) ∧ decode code 370 = .ok (.aload_n 0, 1) ∧ decode code 371 = .ok (.iload 5, 2) ∧ decode code 373 = .ok (.iconst 1, 1) ∧ decode code 374 = .ok (.iadd, 1) ∧ decode code 375 = .ok (.iaload, 1) ∧ decode code 376 = .ok (.aload_n 0, 1) := by decide +kernel
theorem dL_law_367 : decode code 367 = .ok (.istore 6, 2) := dA_14.1
theorem dL_law_369 : decode code 369 = .ok (.aload_n 2, 1) := dA_14.2.1
theorem dL_law_370 : decode code 370 = .ok (.aload_n 0, 1) := dA_14.2.2.1
theorem dL_law_371 : decode code 371 = .ok (.iload 5, 2) := dA_14.2.2.2.1
theorem dL_law_373 : decode code 373 = .ok (.iconst 1, 1) := dA_14.2.2.2.2.1
theorem dL_law_374 : decode code 374 = .ok (.iadd, 1) := dA_14.2.2.2.2.2.1
theorem dL_law_375 : decode code 375 = .ok (.iaload, 1) := dA_14.2.2.2.2.2.2.1
theorem dL_law_376 : decode code 376 = .ok (.aload_n 0, 1) := dA_14.2.2.2.2.2.2.2
theorem dA_15 : decode code 377 = .ok (.iload 5, 2) ∧ decode code 379 = .ok (.iconst 2, 1) ∧ decode code 380 = .ok (.iadd, 1) ∧ decode code 381 = .ok (.iaload, 1) ∧ decode code 382 = .ok (.aload_n 0, 1) ∧ decode code 383 = .ok (.iload 5, 2) ∧ decode code 385 = .ok (.iconst 3, 1) ∧ decode code 386 = .ok (.iadd, 1) := by decide +kernel
theorem dL_law_377 : decode code 377 = .ok (.iload 5, 2) := dA_15.1
theorem dL_law_379 : decode code 379 = .ok (.iconst 2, 1) := dA_15.2.1
theorem dL_law_380 : decode code 380 = .ok (.iadd, 1) := dA_15.2.2.1
theorem dL_law_381 : decode code 381 = .ok (.iaload, 1) := dA_15.2.2.2.1
theorem dL_law_382 : decode code 382 = .ok (.aload_n 0, 1) := dA_15.2.2.2.2.1
theorem dL_law_383 : decode code 383 = .ok (.iload 5, 2) := dA_15.2.2.2.2.2.1
theorem dL_law_385 : decode code 385 = .ok (.iconst 3, 1) := dA_15.2.2.2.2.2.2.1
theorem dL_law_386 : decode code 386 = .ok (.iadd, 1) := dA_15.2.2.2.2.2.2.2
theorem dA_16 : decode code 387 = .ok (.iaload, 1) ∧ decode code 388 = .ok (.invokevirtual 155, 3) ∧ decode code 391 = .ok (.istore 7, 2) ∧ decode code 393 = .ok (.goto 1086, 3) ∧ decode code 396 = .ok (.aload_n 1, 1) ∧ decode code 397 = .ok (.aload_n 0, 1) ∧ decode code 398 = .ok (.iload 5, 2) ∧ decode code 400 = .ok (.iconst 1, 1) := by decide +kernel
theorem dL_law_387 : decode code 387 = .ok (.iaload, 1) := dA_16.1
theorem dL_law_388 : decode code 388 = .ok (.invokevirtual 155, 3) := dA_16.2.1
theorem dL_law_391 : decode code 391 = .ok (.istore 7, 2) := dA_16.2.2.1
theorem dL_law_393 : decode code 393 = .ok (.goto 1086, 3) := dA_16.2.2.2.1
theorem dL_law_396 : decode code 396 = .ok (.aload_n 1, 1) := dA_16.2.2.2.2.1
theorem dL_law_397 : decode code 397 = .ok (.aload_n 0, 1) := dA_16.2.2.2.2.2.1
theorem dL_law_398 : decode code 398 = .ok (.iload 5, 2) := dA_16.2.2.2.2.2.2.1
theorem dL_law_400 : decode code 400 = .ok (.iconst 1, 1) := dA_16.2.2.2.2.2.2.2
theorem dA_17 : decode code 401 = .ok (.iadd, 1) ∧ decode code 402 = .ok (.iaload, 1) ∧ decode code 403 = .ok (.aload_n 0, 1) ∧ decode code 404 = .ok (.iload 5, 2) ∧ decode code 406 = .ok (.iconst 2, 1) ∧ decode code 407 = .ok (.iadd, 1) ∧ decode code 408 = .ok (.iaload, 1) ∧ decode code 409 = .ok (.aload_n 3, 1) := by decide +kernel
theorem dL_law_401 : decode code 401 = .ok (.iadd, 1) := dA_17.1
theorem dL_law_402 : decode code 402 = .ok (.iaload, 1) := dA_17.2.1
theorem dL_law_403 : decode code 403 = .ok (.aload_n 0, 1) := dA_17.2.2.1
theorem dL_law_404 : decode code 404 = .ok (.iload 5, 2) := dA_17.2.2.2.1
theorem dL_law_406 : decode code 406 = .ok (.iconst 2, 1) := dA_17.2.2.2.2.1
theorem dL_law_407 : decode code 407 = .ok (.iadd, 1) := dA_17.2.2.2.2.2.1
theorem dL_law_408 : decode code 408 = .ok (.iaload, 1) := dA_17.2.2.2.2.2.2.1
theorem dL_law_409 : decode code 409 = .ok (.aload_n 3, 1) := dA_17.2.2.2.2.2.2.2
theorem dA_18 : decode code 410 = .ok (.invokestatic 156, 3) ∧ decode code 413 = .ok (.istore 6, 2) ∧ decode code 415 = .ok (.aload_n 2, 1) ∧ decode code 416 = .ok (.aload_n 0, 1) ∧ decode code 417 = .ok (.iload 5, 2) ∧ decode code 419 = .ok (.iconst 1, 1) ∧ decode code 420 = .ok (.iadd, 1) ∧ decode code 421 = .ok (.iaload, 1) := by decide +kernel
theorem dL_law_410 : decode code 410 = .ok (.invokestatic 156, 3) := dA_18.1
theorem dL_law_413 : decode code 413 = .ok (.istore 6, 2) := dA_18.2.1
theorem dL_law_415 : decode code 415 = .ok (.aload_n 2, 1) := dA_18.2.2.1
theorem dL_law_416 : decode code 416 = .ok (.aload_n 0, 1) := dA_18.2.2.2.1
theorem dL_law_417 : decode code 417 = .ok (.iload 5, 2) := dA_18.2.2.2.2.1
theorem dL_law_419 : decode code 419 = .ok (.iconst 1, 1) := dA_18.2.2.2.2.2.1
theorem dL_law_420 : decode code 420 = .ok (.iadd, 1) := dA_18.2.2.2.2.2.2.1
theorem dL_law_421 : decode code 421 = .ok (.iaload, 1) := dA_18.2.2.2.2.2.2.2
theorem dA_19 : decode code 422 = .ok (.aload_n 0, 1) ∧ decode code 423 = .ok (.iload 5, 2) ∧ decode code 425 = .ok (.iconst 2, 1) ∧ decode code 426 = .ok (.iadd, 1) ∧ decode code 427 = .ok (.iaload, 1) ∧ decode code 428 = .ok (.invokevirtual 158, 3) ∧ decode code 431 = .ok (.istore 7, 2) ∧ decode code 433 = .ok (.goto 1046, 3) := by decide +kernel
theorem dL_law_422 : decode code 422 = .ok (.aload_n 0, 1) := dA_19.1
theorem dL_law_423 : decode code 423 = .ok (.iload 5, 2) := dA_19.2.1
theorem dL_law_425 : decode code 425 = .ok (.iconst 2, 1) := dA_19.2.2.1
theorem dL_law_426 : decode code 426 = .ok (.iadd, 1) := dA_19.2.2.2.1
theorem dL_law_427 : decode code 427 = .ok (.iaload, 1) := dA_19.2.2.2.2.1
theorem dL_law_428 : decode code 428 = .ok (.invokevirtual 158, 3) := dA_19.2.2.2.2.2.1
theorem dL_law_431 : decode code 431 = .ok (.istore 7, 2) := dA_19.2.2.2.2.2.2.1
theorem dL_law_433 : decode code 433 = .ok (.goto 1046, 3) := dA_19.2.2.2.2.2.2.2
theorem dA_20 : decode code 436 = .ok (.aload_n 1, 1) ∧ decode code 437 = .ok (.aload_n 0, 1) ∧ decode code 438 = .ok (.iload 5, 2) ∧ decode code 440 = .ok (.iconst 1, 1) ∧ decode code 441 = .ok (.iadd, 1) ∧ decode code 442 = .ok (.iaload, 1) ∧ decode code 443 = .ok (.aload_n 3, 1) ∧ decode code 444 = .ok (.invokestatic 159, 3) := by decide +kernel
theorem dL_law_436 : decode code 436 = .ok (.aload_n 1, 1) := dA_20.1
theorem dL_law_437 : decode code 437 = .ok (.aload_n 0, 1) := dA_20.2.1
theorem dL_law_438 : decode code 438 = .ok (.iload 5, 2) := dA_20.2.2.1
theorem dL_law_440 : decode code 440 = .ok (.iconst 1, 1) := dA_20.2.2.2.1
theorem dL_law_441 : decode code 441 = .ok (.iadd, 1) := dA_20.2.2.2.2.1
theorem dL_law_442 : decode code 442 = .ok (.iaload, 1) := dA_20.2.2.2.2.2.1
theorem dL_law_443 : decode code 443 = .ok (.aload_n 3, 1) := dA_20.2.2.2.2.2.2.1
theorem dL_law_444 : decode code 444 = .ok (.invokestatic 159, 3) := dA_20.2.2.2.2.2.2.2
theorem dA_21 : decode code 447 = .ok (.istore 6, 2) ∧ decode code 449 = .ok (.aload_n 2, 1) ∧ decode code 450 = .ok (.aload_n 0, 1) ∧ decode code 451 = .ok (.iload 5, 2) ∧ decode code 453 = .ok (.iconst 1, 1) ∧ decode code 454 = .ok (.iadd, 1) ∧ decode code 455 = .ok (.iaload, 1) ∧ decode code 456 = .ok (.invokevirtual 162, 3) := by decide +kernel
theorem dL_law_447 : decode code 447 = .ok (.istore 6, 2) := dA_21.1
theorem dL_law_449 : decode code 449 = .ok (.aload_n 2, 1) := dA_21.2.1
theorem dL_law_450 : decode code 450 = .ok (.aload_n 0, 1) := dA_21.2.2.1
theorem dL_law_451 : decode code 451 = .ok (.iload 5, 2) := dA_21.2.2.2.1
theorem dL_law_453 : decode code 453 = .ok (.iconst 1, 1) := dA_21.2.2.2.2.1
theorem dL_law_454 : decode code 454 = .ok (.iadd, 1) := dA_21.2.2.2.2.2.1
theorem dL_law_455 : decode code 455 = .ok (.iaload, 1) := dA_21.2.2.2.2.2.2.1
theorem dL_law_456 : decode code 456 = .ok (.invokevirtual 162, 3) := dA_21.2.2.2.2.2.2.2
theorem dA_22 : decode code 459 = .ok (.istore 7, 2) ∧ decode code 461 = .ok (.goto 1018, 3) ∧ decode code 464 = .ok (.aload_n 1, 1) ∧ decode code 465 = .ok (.aload_n 0, 1) ∧ decode code 466 = .ok (.iload 5, 2) ∧ decode code 468 = .ok (.iconst 1, 1) ∧ decode code 469 = .ok (.iadd, 1) ∧ decode code 470 = .ok (.iaload, 1) := by decide +kernel
theorem dL_law_459 : decode code 459 = .ok (.istore 7, 2) := dA_22.1
theorem dL_law_461 : decode code 461 = .ok (.goto 1018, 3) := dA_22.2.1
theorem dL_law_464 : decode code 464 = .ok (.aload_n 1, 1) := dA_22.2.2.1
theorem dL_law_465 : decode code 465 = .ok (.aload_n 0, 1) := dA_22.2.2.2.1
theorem dL_law_466 : decode code 466 = .ok (.iload 5, 2) := dA_22.2.2.2.2.1
theorem dL_law_468 : decode code 468 = .ok (.iconst 1, 1) := dA_22.2.2.2.2.2.1
theorem dL_law_469 : decode code 469 = .ok (.iadd, 1) := dA_22.2.2.2.2.2.2.1
theorem dL_law_470 : decode code 470 = .ok (.iaload, 1) := dA_22.2.2.2.2.2.2.2
theorem dA_23 : decode code 471 = .ok (.aload_n 3, 1) ∧ decode code 472 = .ok (.invokestatic 163, 3) ∧ decode code 475 = .ok (.istore 6, 2) ∧ decode code 477 = .ok (.aload_n 2, 1) ∧ decode code 478 = .ok (.aload_n 0, 1) ∧ decode code 479 = .ok (.iload 5, 2) ∧ decode code 481 = .ok (.iconst 1, 1) ∧ decode code 482 = .ok (.iadd, 1) := by decide +kernel
theorem dL_law_471 : decode code 471 = .ok (.aload_n 3, 1) := dA_23.1
theorem dL_law_472 : decode code 472 = .ok (.invokestatic 163, 3) := dA_23.2.1
theorem dL_law_475 : decode code 475 = .ok (.istore 6, 2) := dA_23.2.2.1
theorem dL_law_477 : decode code 477 = .ok (.aload_n 2, 1) := dA_23.2.2.2.1
theorem dL_law_478 : decode code 478 = .ok (.aload_n 0, 1) := dA_23.2.2.2.2.1
theorem dL_law_479 : decode code 479 = .ok (.iload 5, 2) := dA_23.2.2.2.2.2.1
theorem dL_law_481 : decode code 481 = .ok (.iconst 1, 1) := dA_23.2.2.2.2.2.2.1
theorem dL_law_482 : decode code 482 = .ok (.iadd, 1) := dA_23.2.2.2.2.2.2.2
theorem dA_24 : decode code 483 = .ok (.iaload, 1) ∧ decode code 484 = .ok (.invokevirtual 165, 3) ∧ decode code 487 = .ok (.istore 7, 2) ∧ decode code 489 = .ok (.aload_n 2, 1) ∧ decode code 490 = .ok (.invokevirtual 166, 3) ∧ decode code 493 = .ok (.iload 6, 2) ∧ decode code 495 = .ok (.if_icmp .eq 5, 3) ∧ decode code 500 = .ok (.iload 6, 2) := by decide +kernel
theorem dL_law_483 : decode code 483 = .ok (.iaload, 1) := dA_24.1
theorem dL_law_484 : decode code 484 = .ok (.invokevirtual 165, 3) := dA_24.2.1
theorem dL_law_487 : decode code 487 = .ok (.istore 7, 2) := dA_24.2.2.1
theorem dL_law_489 : decode code 489 = .ok (.aload_n 2, 1) := dA_24.2.2.2.1
theorem dL_law_490 : decode code 490 = .ok (.invokevirtual 166, 3) := dA_24.2.2.2.2.1
theorem dL_law_493 : decode code 493 = .ok (.iload 6, 2) := dA_24.2.2.2.2.2.1
theorem dL_law_495 : decode code 495 = .ok (.if_icmp .eq 5, 3) := dA_24.2.2.2.2.2.2.1
theorem dL_law_500 : decode code 500 = .ok (.iload 6, 2) := dA_24.2.2.2.2.2.2.2
theorem dA_25 : decode code 502 = .ok (.ifCond .ne 15, 3) ∧ decode code 505 = .ok (.aload_n 3, 1) ∧ decode code 506 = .ok (.iconst 0, 1) ∧ decode code 507 = .ok (.laload, 1) ∧ decode code 508 = .ok (.iload 7, 2) ∧ decode code 510 = .ok (.i2l, 1) ∧ decode code 511 = .ok (.lcmp, 1) ∧ decode code 512 = .ok (.ifCond .eq 5, 3) := by decide +kernel
theorem dL_law_502 : decode code 502 = .ok (.ifCond .ne 15, 3) := dA_25.1
theorem dL_law_505 : decode code 505 = .ok (.aload_n 3, 1) := dA_25.2.1
theorem dL_law_506 : decode code 506 = .ok (.iconst 0, 1) := dA_25.2.2.1
theorem dL_law_507 : decode code 507 = .ok (.laload, 1) := dA_25.2.2.2.1
theorem dL_law_508 : decode code 508 = .ok (.iload 7, 2) := dA_25.2.2.2.2.1
theorem dL_law_510 : decode code 510 = .ok (.i2l, 1) := dA_25.2.2.2.2.2.1
theorem dL_law_511 : decode code 511 = .ok (.lcmp, 1) := dA_25.2.2.2.2.2.2.1
theorem dL_law_512 : decode code 512 = .ok (.ifCond .eq 5, 3) := dA_25.2.2.2.2.2.2.2
theorem dA_26 : decode code 517 = .ok (.goto 962, 3) ∧ decode code 520 = .ok (.aload_n 1, 1) ∧ decode code 521 = .ok (.invokevirtual 169, 3) ∧ decode code 524 = .ok (.pop, 1) ∧ decode code 525 = .ok (.aload_n 2, 1) ∧ decode code 526 = .ok (.invokevirtual 172, 3) ∧ decode code 529 = .ok (.pop, 1) ∧ decode code 530 = .ok (.goto 949, 3) := by decide +kernel
theorem dL_law_517 : decode code 517 = .ok (.goto 962, 3) := dA_26.1
theorem dL_law_520 : decode code 520 = .ok (.aload_n 1, 1) := dA_26.2.1
theorem dL_law_521 : decode code 521 = .ok (.invokevirtual 169, 3) := dA_26.2.2.1
theorem dL_law_524 : decode code 524 = .ok (.pop, 1) := dA_26.2.2.2.1
theorem dL_law_525 : decode code 525 = .ok (.aload_n 2, 1) := dA_26.2.2.2.2.1
theorem dL_law_526 : decode code 526 = .ok (.invokevirtual 172, 3) := dA_26.2.2.2.2.2.1
theorem dL_law_529 : decode code 529 = .ok (.pop, 1) := dA_26.2.2.2.2.2.2.1
theorem dL_law_530 : decode code 530 = .ok (.goto 949, 3) := dA_26.2.2.2.2.2.2.2
theorem dA_27 : decode code 533 = .ok (.aload_n 1, 1) ∧ decode code 534 = .ok (.invokevirtual 173, 3) ∧ decode code 537 = .ok (.pop, 1) ∧ decode code 538 = .ok (.aload_n 2, 1) ∧ decode code 539 = .ok (.invokevirtual 176, 3) ∧ decode code 542 = .ok (.pop, 1) ∧ decode code 543 = .ok (.goto 936, 3) ∧ decode code 546 = .ok (.aload_n 1, 1) := by decide +kernel
theorem dL_law_533 : decode code 533 = .ok (.aload_n 1, 1) := dA_27.1
theorem dL_law_534 : decode code 534 = .ok (.invokevirtual 173, 3) := dA_27.2.1
theorem dL_law_537 : decode code 537 = .ok (.pop, 1) := dA_27.2.2.1
theorem dL_law_538 : decode code 538 = .ok (.aload_n 2, 1) := dA_27.2.2.2.1
theorem dL_law_539 : decode code 539 = .ok (.invokevirtual 176, 3) := dA_27.2.2.2.2.1
theorem dL_law_542 : decode code 542 = .ok (.pop, 1) := dA_27.2.2.2.2.2.1
theorem dL_law_543 : decode code 543 = .ok (.goto 936, 3) := dA_27.2.2.2.2.2.2.1
theorem dL_law_546 : decode code 546 = .ok (.aload_n 1, 1) := dA_27.2.2.2.2.2.2.2
theorem dA_28 : decode code 547 = .ok (.aload_n 0, 1) ∧ decode code 548 = .ok (.iload 5, 2) ∧ decode code 550 = .ok (.iconst 1, 1) ∧ decode code 551 = .ok (.iadd, 1) ∧ decode code 552 = .ok (.iaload, 1) ∧ decode code 553 = .ok (.aload_n 3, 1) ∧ decode code 554 = .ok (.invokestatic 177, 3) ∧ decode code 557 = .ok (.istore 6, 2) := by decide +kernel
theorem dL_law_547 : decode code 547 = .ok (.aload_n 0, 1) := dA_28.1
theorem dL_law_548 : decode code 548 = .ok (.iload 5, 2) := dA_28.2.1
theorem dL_law_550 : decode code 550 = .ok (.iconst 1, 1) := dA_28.2.2.1
theorem dL_law_551 : decode code 551 = .ok (.iadd, 1) := dA_28.2.2.2.1
theorem dL_law_552 : decode code 552 = .ok (.iaload, 1) := dA_28.2.2.2.2.1
theorem dL_law_553 : decode code 553 = .ok (.aload_n 3, 1) := dA_28.2.2.2.2.2.1
theorem dL_law_554 : decode code 554 = .ok (.invokestatic 177, 3) := dA_28.2.2.2.2.2.2.1
theorem dL_law_557 : decode code 557 = .ok (.istore 6, 2) := dA_28.2.2.2.2.2.2.2
theorem dA_29 : decode code 559 = .ok (.aload_n 2, 1) ∧ decode code 560 = .ok (.aload_n 0, 1) ∧ decode code 561 = .ok (.iload 5, 2) ∧ decode code 563 = .ok (.iconst 1, 1) ∧ decode code 564 = .ok (.iadd, 1) ∧ decode code 565 = .ok (.iaload, 1) ∧ decode code 566 = .ok (.invokevirtual 179, 3) ∧ decode code 569 = .ok (.istore 7, 2) := by decide +kernel
theorem dL_law_559 : decode code 559 = .ok (.aload_n 2, 1) := dA_29.1
theorem dL_law_560 : decode code 560 = .ok (.aload_n 0, 1) := dA_29.2.1
theorem dL_law_561 : decode code 561 = .ok (.iload 5, 2) := dA_29.2.2.1
theorem dL_law_563 : decode code 563 = .ok (.iconst 1, 1) := dA_29.2.2.2.1
theorem dL_law_564 : decode code 564 = .ok (.iadd, 1) := dA_29.2.2.2.2.1
theorem dL_law_565 : decode code 565 = .ok (.iaload, 1) := dA_29.2.2.2.2.2.1
theorem dL_law_566 : decode code 566 = .ok (.invokevirtual 179, 3) := dA_29.2.2.2.2.2.2.1
theorem dL_law_569 : decode code 569 = .ok (.istore 7, 2) := dA_29.2.2.2.2.2.2.2
theorem dA_30 : decode code 571 = .ok (.goto 908, 3) ∧ decode code 574 = .ok (.aload_n 1, 1) ∧ decode code 575 = .ok (.aload_n 0, 1) ∧ decode code 576 = .ok (.iload 5, 2) ∧ decode code 578 = .ok (.iconst 1, 1) ∧ decode code 579 = .ok (.iadd, 1) ∧ decode code 580 = .ok (.iaload, 1) ∧ decode code 581 = .ok (.aload_n 3, 1) := by decide +kernel
theorem dL_law_571 : decode code 571 = .ok (.goto 908, 3) := dA_30.1
theorem dL_law_574 : decode code 574 = .ok (.aload_n 1, 1) := dA_30.2.1
theorem dL_law_575 : decode code 575 = .ok (.aload_n 0, 1) := dA_30.2.2.1
theorem dL_law_576 : decode code 576 = .ok (.iload 5, 2) := dA_30.2.2.2.1
theorem dL_law_578 : decode code 578 = .ok (.iconst 1, 1) := dA_30.2.2.2.2.1
theorem dL_law_579 : decode code 579 = .ok (.iadd, 1) := dA_30.2.2.2.2.2.1
theorem dL_law_580 : decode code 580 = .ok (.iaload, 1) := dA_30.2.2.2.2.2.2.1
theorem dL_law_581 : decode code 581 = .ok (.aload_n 3, 1) := dA_30.2.2.2.2.2.2.2
theorem dA_31 : decode code 582 = .ok (.invokestatic 180, 3) ∧ decode code 585 = .ok (.istore 6, 2) ∧ decode code 587 = .ok (.aload_n 2, 1) ∧ decode code 588 = .ok (.aload_n 0, 1) ∧ decode code 589 = .ok (.iload 5, 2) ∧ decode code 591 = .ok (.iconst 1, 1) ∧ decode code 592 = .ok (.iadd, 1) ∧ decode code 593 = .ok (.iaload, 1) := by decide +kernel
theorem dL_law_582 : decode code 582 = .ok (.invokestatic 180, 3) := dA_31.1
theorem dL_law_585 : decode code 585 = .ok (.istore 6, 2) := dA_31.2.1
theorem dL_law_587 : decode code 587 = .ok (.aload_n 2, 1) := dA_31.2.2.1
theorem dL_law_588 : decode code 588 = .ok (.aload_n 0, 1) := dA_31.2.2.2.1
theorem dL_law_589 : decode code 589 = .ok (.iload 5, 2) := dA_31.2.2.2.2.1
theorem dL_law_591 : decode code 591 = .ok (.iconst 1, 1) := dA_31.2.2.2.2.2.1
theorem dL_law_592 : decode code 592 = .ok (.iadd, 1) := dA_31.2.2.2.2.2.2.1
theorem dL_law_593 : decode code 593 = .ok (.iaload, 1) := dA_31.2.2.2.2.2.2.2
theorem dA_32 : decode code 594 = .ok (.invokevirtual 182, 3) ∧ decode code 597 = .ok (.istore 7, 2) ∧ decode code 599 = .ok (.goto 880, 3) ∧ decode code 602 = .ok (.aload_n 1, 1) ∧ decode code 603 = .ok (.aload_n 0, 1) ∧ decode code 604 = .ok (.iload 5, 2) ∧ decode code 606 = .ok (.iconst 1, 1) ∧ decode code 607 = .ok (.iadd, 1) := by decide +kernel
theorem dL_law_594 : decode code 594 = .ok (.invokevirtual 182, 3) := dA_32.1
theorem dL_law_597 : decode code 597 = .ok (.istore 7, 2) := dA_32.2.1
theorem dL_law_599 : decode code 599 = .ok (.goto 880, 3) := dA_32.2.2.1
theorem dL_law_602 : decode code 602 = .ok (.aload_n 1, 1) := dA_32.2.2.2.1
theorem dL_law_603 : decode code 603 = .ok (.aload_n 0, 1) := dA_32.2.2.2.2.1
theorem dL_law_604 : decode code 604 = .ok (.iload 5, 2) := dA_32.2.2.2.2.2.1
theorem dL_law_606 : decode code 606 = .ok (.iconst 1, 1) := dA_32.2.2.2.2.2.2.1
theorem dL_law_607 : decode code 607 = .ok (.iadd, 1) := dA_32.2.2.2.2.2.2.2
theorem dA_33 : decode code 608 = .ok (.iaload, 1) ∧ decode code 609 = .ok (.aload_n 3, 1) ∧ decode code 610 = .ok (.invokestatic 183, 3) ∧ decode code 613 = .ok (.istore 6, 2) ∧ decode code 615 = .ok (.aload_n 2, 1) ∧ decode code 616 = .ok (.aload_n 0, 1) ∧ decode code 617 = .ok (.iload 5, 2) ∧ decode code 619 = .ok (.iconst 1, 1) := by decide +kernel
theorem dL_law_608 : decode code 608 = .ok (.iaload, 1) := dA_33.1
theorem dL_law_609 : decode code 609 = .ok (.aload_n 3, 1) := dA_33.2.1
theorem dL_law_610 : decode code 610 = .ok (.invokestatic 183, 3) := dA_33.2.2.1
theorem dL_law_613 : decode code 613 = .ok (.istore 6, 2) := dA_33.2.2.2.1
theorem dL_law_615 : decode code 615 = .ok (.aload_n 2, 1) := dA_33.2.2.2.2.1
theorem dL_law_616 : decode code 616 = .ok (.aload_n 0, 1) := dA_33.2.2.2.2.2.1
theorem dL_law_617 : decode code 617 = .ok (.iload 5, 2) := dA_33.2.2.2.2.2.2.1
theorem dL_law_619 : decode code 619 = .ok (.iconst 1, 1) := dA_33.2.2.2.2.2.2.2
theorem dA_34 : decode code 620 = .ok (.iadd, 1) ∧ decode code 621 = .ok (.iaload, 1) ∧ decode code 622 = .ok (.invokevirtual 185, 3) ∧ decode code 625 = .ok (.istore 7, 2) ∧ decode code 627 = .ok (.goto 852, 3) ∧ decode code 630 = .ok (.aload_n 1, 1) ∧ decode code 631 = .ok (.aload_n 0, 1) ∧ decode code 632 = .ok (.iload 5, 2) := by decide +kernel
theorem dL_law_620 : decode code 620 = .ok (.iadd, 1) := dA_34.1
theorem dL_law_621 : decode code 621 = .ok (.iaload, 1) := dA_34.2.1
theorem dL_law_622 : decode code 622 = .ok (.invokevirtual 185, 3) := dA_34.2.2.1
theorem dL_law_625 : decode code 625 = .ok (.istore 7, 2) := dA_34.2.2.2.1
theorem dL_law_627 : decode code 627 = .ok (.goto 852, 3) := dA_34.2.2.2.2.1
theorem dL_law_630 : decode code 630 = .ok (.aload_n 1, 1) := dA_34.2.2.2.2.2.1
theorem dL_law_631 : decode code 631 = .ok (.aload_n 0, 1) := dA_34.2.2.2.2.2.2.1
theorem dL_law_632 : decode code 632 = .ok (.iload 5, 2) := dA_34.2.2.2.2.2.2.2
theorem dA_35 : decode code 634 = .ok (.iconst 1, 1) ∧ decode code 635 = .ok (.iadd, 1) ∧ decode code 636 = .ok (.iaload, 1) ∧ decode code 637 = .ok (.aload_n 3, 1) ∧ decode code 638 = .ok (.invokestatic 186, 3) ∧ decode code 641 = .ok (.istore 6, 2) ∧ decode code 643 = .ok (.aload_n 2, 1) ∧ decode code 644 = .ok (.aload_n 0, 1) := by decide +kernel
theorem dL_law_634 : decode code 634 = .ok (.iconst 1, 1) := dA_35.1
theorem dL_law_635 : decode code 635 = .ok (.iadd, 1) := dA_35.2.1
theorem dL_law_636 : decode code 636 = .ok (.iaload, 1) := dA_35.2.2.1
theorem dL_law_637 : decode code 637 = .ok (.aload_n 3, 1) := dA_35.2.2.2.1
theorem dL_law_638 : decode code 638 = .ok (.invokestatic 186, 3) := dA_35.2.2.2.2.1
theorem dL_law_641 : decode code 641 = .ok (.istore 6, 2) := dA_35.2.2.2.2.2.1
theorem dL_law_643 : decode code 643 = .ok (.aload_n 2, 1) := dA_35.2.2.2.2.2.2.1
theorem dL_law_644 : decode code 644 = .ok (.aload_n 0, 1) := dA_35.2.2.2.2.2.2.2
theorem dA_36 : decode code 645 = .ok (.iload 5, 2) ∧ decode code 647 = .ok (.iconst 1, 1) ∧ decode code 648 = .ok (.iadd, 1) ∧ decode code 649 = .ok (.iaload, 1) ∧ decode code 650 = .ok (.invokevirtual 188, 3) ∧ decode code 653 = .ok (.istore 7, 2) ∧ decode code 655 = .ok (.goto 824, 3) ∧ decode code 658 = .ok (.aload_n 1, 1) := by decide +kernel
theorem dL_law_645 : decode code 645 = .ok (.iload 5, 2) := dA_36.1
theorem dL_law_647 : decode code 647 = .ok (.iconst 1, 1) := dA_36.2.1
theorem dL_law_648 : decode code 648 = .ok (.iadd, 1) := dA_36.2.2.1
theorem dL_law_649 : decode code 649 = .ok (.iaload, 1) := dA_36.2.2.2.1
theorem dL_law_650 : decode code 650 = .ok (.invokevirtual 188, 3) := dA_36.2.2.2.2.1
theorem dL_law_653 : decode code 653 = .ok (.istore 7, 2) := dA_36.2.2.2.2.2.1
theorem dL_law_655 : decode code 655 = .ok (.goto 824, 3) := dA_36.2.2.2.2.2.2.1
theorem dL_law_658 : decode code 658 = .ok (.aload_n 1, 1) := dA_36.2.2.2.2.2.2.2
theorem dA_37 : decode code 659 = .ok (.aload_n 0, 1) ∧ decode code 660 = .ok (.iload 5, 2) ∧ decode code 662 = .ok (.iconst 1, 1) ∧ decode code 663 = .ok (.iadd, 1) ∧ decode code 664 = .ok (.iaload, 1) ∧ decode code 665 = .ok (.aload_n 0, 1) ∧ decode code 666 = .ok (.iload 5, 2) ∧ decode code 668 = .ok (.iconst 2, 1) := by decide +kernel
theorem dL_law_659 : decode code 659 = .ok (.aload_n 0, 1) := dA_37.1
theorem dL_law_660 : decode code 660 = .ok (.iload 5, 2) := dA_37.2.1
theorem dL_law_662 : decode code 662 = .ok (.iconst 1, 1) := dA_37.2.2.1
theorem dL_law_663 : decode code 663 = .ok (.iadd, 1) := dA_37.2.2.2.1
theorem dL_law_664 : decode code 664 = .ok (.iaload, 1) := dA_37.2.2.2.2.1
theorem dL_law_665 : decode code 665 = .ok (.aload_n 0, 1) := dA_37.2.2.2.2.2.1
theorem dL_law_666 : decode code 666 = .ok (.iload 5, 2) := dA_37.2.2.2.2.2.2.1
theorem dL_law_668 : decode code 668 = .ok (.iconst 2, 1) := dA_37.2.2.2.2.2.2.2
theorem dA_38 : decode code 669 = .ok (.iadd, 1) ∧ decode code 670 = .ok (.iaload, 1) ∧ decode code 671 = .ok (.aload_n 3, 1) ∧ decode code 672 = .ok (.invokestatic 189, 3) ∧ decode code 675 = .ok (.istore 6, 2) ∧ decode code 677 = .ok (.aload_n 2, 1) ∧ decode code 678 = .ok (.aload_n 0, 1) ∧ decode code 679 = .ok (.iload 5, 2) := by decide +kernel
theorem dL_law_669 : decode code 669 = .ok (.iadd, 1) := dA_38.1
theorem dL_law_670 : decode code 670 = .ok (.iaload, 1) := dA_38.2.1
theorem dL_law_671 : decode code 671 = .ok (.aload_n 3, 1) := dA_38.2.2.1
theorem dL_law_672 : decode code 672 = .ok (.invokestatic 189, 3) := dA_38.2.2.2.1
theorem dL_law_675 : decode code 675 = .ok (.istore 6, 2) := dA_38.2.2.2.2.1
theorem dL_law_677 : decode code 677 = .ok (.aload_n 2, 1) := dA_38.2.2.2.2.2.1
theorem dL_law_678 : decode code 678 = .ok (.aload_n 0, 1) := dA_38.2.2.2.2.2.2.1
theorem dL_law_679 : decode code 679 = .ok (.iload 5, 2) := dA_38.2.2.2.2.2.2.2
theorem dA_39 : decode code 681 = .ok (.iconst 1, 1) ∧ decode code 682 = .ok (.iadd, 1) ∧ decode code 683 = .ok (.iaload, 1) ∧ decode code 684 = .ok (.aload_n 0, 1) ∧ decode code 685 = .ok (.iload 5, 2) ∧ decode code 687 = .ok (.iconst 2, 1) ∧ decode code 688 = .ok (.iadd, 1) ∧ decode code 689 = .ok (.iaload, 1) := by decide +kernel
theorem dL_law_681 : decode code 681 = .ok (.iconst 1, 1) := dA_39.1
theorem dL_law_682 : decode code 682 = .ok (.iadd, 1) := dA_39.2.1
theorem dL_law_683 : decode code 683 = .ok (.iaload, 1) := dA_39.2.2.1
theorem dL_law_684 : decode code 684 = .ok (.aload_n 0, 1) := dA_39.2.2.2.1
theorem dL_law_685 : decode code 685 = .ok (.iload 5, 2) := dA_39.2.2.2.2.1
theorem dL_law_687 : decode code 687 = .ok (.iconst 2, 1) := dA_39.2.2.2.2.2.1
theorem dL_law_688 : decode code 688 = .ok (.iadd, 1) := dA_39.2.2.2.2.2.2.1
theorem dL_law_689 : decode code 689 = .ok (.iaload, 1) := dA_39.2.2.2.2.2.2.2
theorem dA_40 : decode code 690 = .ok (.invokevirtual 191, 3) ∧ decode code 693 = .ok (.istore 7, 2) ∧ decode code 695 = .ok (.goto 784, 3) ∧ decode code 698 = .ok (.aload_n 1, 1) ∧ decode code 699 = .ok (.invokevirtual 192, 3) ∧ decode code 702 = .ok (.pop, 1) ∧ decode code 703 = .ok (.aload_n 2, 1) ∧ decode code 704 = .ok (.invokevirtual 195, 3) := by decide +kernel
theorem dL_law_690 : decode code 690 = .ok (.invokevirtual 191, 3) := dA_40.1
theorem dL_law_693 : decode code 693 = .ok (.istore 7, 2) := dA_40.2.1
theorem dL_law_695 : decode code 695 = .ok (.goto 784, 3) := dA_40.2.2.1
theorem dL_law_698 : decode code 698 = .ok (.aload_n 1, 1) := dA_40.2.2.2.1
theorem dL_law_699 : decode code 699 = .ok (.invokevirtual 192, 3) := dA_40.2.2.2.2.1
theorem dL_law_702 : decode code 702 = .ok (.pop, 1) := dA_40.2.2.2.2.2.1
theorem dL_law_703 : decode code 703 = .ok (.aload_n 2, 1) := dA_40.2.2.2.2.2.2.1
theorem dL_law_704 : decode code 704 = .ok (.invokevirtual 195, 3) := dA_40.2.2.2.2.2.2.2
theorem dA_41 : decode code 707 = .ok (.pop, 1) ∧ decode code 708 = .ok (.goto 771, 3) ∧ decode code 711 = .ok (.aload_n 1, 1) ∧ decode code 712 = .ok (.aload_n 0, 1) ∧ decode code 713 = .ok (.iload 5, 2) ∧ decode code 715 = .ok (.iconst 1, 1) ∧ decode code 716 = .ok (.iadd, 1) ∧ decode code 717 = .ok (.iaload, 1) := by decide +kernel
theorem dL_law_707 : decode code 707 = .ok (.pop, 1) := dA_41.1
theorem dL_law_708 : decode code 708 = .ok (.goto 771, 3) := dA_41.2.1
theorem dL_law_711 : decode code 711 = .ok (.aload_n 1, 1) := dA_41.2.2.1
theorem dL_law_712 : decode code 712 = .ok (.aload_n 0, 1) := dA_41.2.2.2.1
theorem dL_law_713 : decode code 713 = .ok (.iload 5, 2) := dA_41.2.2.2.2.1
theorem dL_law_715 : decode code 715 = .ok (.iconst 1, 1) := dA_41.2.2.2.2.2.1
theorem dL_law_716 : decode code 716 = .ok (.iadd, 1) := dA_41.2.2.2.2.2.2.1
theorem dL_law_717 : decode code 717 = .ok (.iaload, 1) := dA_41.2.2.2.2.2.2.2
theorem dA_42 : decode code 718 = .ok (.aload_n 3, 1) ∧ decode code 719 = .ok (.invokestatic 196, 3) ∧ decode code 722 = .ok (.istore 6, 2) ∧ decode code 724 = .ok (.aload_n 2, 1) ∧ decode code 725 = .ok (.aload_n 0, 1) ∧ decode code 726 = .ok (.iload 5, 2) ∧ decode code 728 = .ok (.iconst 1, 1) ∧ decode code 729 = .ok (.iadd, 1) := by decide +kernel
theorem dL_law_718 : decode code 718 = .ok (.aload_n 3, 1) := dA_42.1
theorem dL_law_719 : decode code 719 = .ok (.invokestatic 196, 3) := dA_42.2.1
theorem dL_law_722 : decode code 722 = .ok (.istore 6, 2) := dA_42.2.2.1
theorem dL_law_724 : decode code 724 = .ok (.aload_n 2, 1) := dA_42.2.2.2.1
theorem dL_law_725 : decode code 725 = .ok (.aload_n 0, 1) := dA_42.2.2.2.2.1
theorem dL_law_726 : decode code 726 = .ok (.iload 5, 2) := dA_42.2.2.2.2.2.1
theorem dL_law_728 : decode code 728 = .ok (.iconst 1, 1) := dA_42.2.2.2.2.2.2.1
theorem dL_law_729 : decode code 729 = .ok (.iadd, 1) := dA_42.2.2.2.2.2.2.2
theorem dA_43 : decode code 730 = .ok (.iaload, 1) ∧ decode code 731 = .ok (.invokevirtual 198, 3) ∧ decode code 734 = .ok (.istore 7, 2) ∧ decode code 736 = .ok (.goto 743, 3) ∧ decode code 739 = .ok (.aload_n 1, 1) ∧ decode code 740 = .ok (.aload_n 0, 1) ∧ decode code 741 = .ok (.iload 5, 2) ∧ decode code 743 = .ok (.iconst 1, 1) := by decide +kernel
theorem dL_law_730 : decode code 730 = .ok (.iaload, 1) := dA_43.1
theorem dL_law_731 : decode code 731 = .ok (.invokevirtual 198, 3) := dA_43.2.1
theorem dL_law_734 : decode code 734 = .ok (.istore 7, 2) := dA_43.2.2.1
theorem dL_law_736 : decode code 736 = .ok (.goto 743, 3) := dA_43.2.2.2.1
theorem dL_law_739 : decode code 739 = .ok (.aload_n 1, 1) := dA_43.2.2.2.2.1
theorem dL_law_740 : decode code 740 = .ok (.aload_n 0, 1) := dA_43.2.2.2.2.2.1
theorem dL_law_741 : decode code 741 = .ok (.iload 5, 2) := dA_43.2.2.2.2.2.2.1
theorem dL_law_743 : decode code 743 = .ok (.iconst 1, 1) := dA_43.2.2.2.2.2.2.2
theorem dA_44 : decode code 744 = .ok (.iadd, 1) ∧ decode code 745 = .ok (.iaload, 1) ∧ decode code 746 = .ok (.aload_n 3, 1) ∧ decode code 747 = .ok (.invokestatic 199, 3) ∧ decode code 750 = .ok (.istore 6, 2) ∧ decode code 752 = .ok (.aload_n 2, 1) ∧ decode code 753 = .ok (.aload_n 0, 1) ∧ decode code 754 = .ok (.iload 5, 2) := by decide +kernel
theorem dL_law_744 : decode code 744 = .ok (.iadd, 1) := dA_44.1
theorem dL_law_745 : decode code 745 = .ok (.iaload, 1) := dA_44.2.1
theorem dL_law_746 : decode code 746 = .ok (.aload_n 3, 1) := dA_44.2.2.1
theorem dL_law_747 : decode code 747 = .ok (.invokestatic 199, 3) := dA_44.2.2.2.1
theorem dL_law_750 : decode code 750 = .ok (.istore 6, 2) := dA_44.2.2.2.2.1
theorem dL_law_752 : decode code 752 = .ok (.aload_n 2, 1) := dA_44.2.2.2.2.2.1
theorem dL_law_753 : decode code 753 = .ok (.aload_n 0, 1) := dA_44.2.2.2.2.2.2.1
theorem dL_law_754 : decode code 754 = .ok (.iload 5, 2) := dA_44.2.2.2.2.2.2.2
theorem dA_45 : decode code 756 = .ok (.iconst 1, 1) ∧ decode code 757 = .ok (.iadd, 1) ∧ decode code 758 = .ok (.iaload, 1) ∧ decode code 759 = .ok (.invokevirtual 201, 3) ∧ decode code 762 = .ok (.istore 7, 2) ∧ decode code 764 = .ok (.goto 715, 3) ∧ decode code 767 = .ok (.aload_n 1, 1) ∧ decode code 768 = .ok (.aload_n 0, 1) := by decide +kernel
theorem dL_law_756 : decode code 756 = .ok (.iconst 1, 1) := dA_45.1
theorem dL_law_757 : decode code 757 = .ok (.iadd, 1) := dA_45.2.1
theorem dL_law_758 : decode code 758 = .ok (.iaload, 1) := dA_45.2.2.1
theorem dL_law_759 : decode code 759 = .ok (.invokevirtual 201, 3) := dA_45.2.2.2.1
theorem dL_law_762 : decode code 762 = .ok (.istore 7, 2) := dA_45.2.2.2.2.1
theorem dL_law_764 : decode code 764 = .ok (.goto 715, 3) := dA_45.2.2.2.2.2.1
theorem dL_law_767 : decode code 767 = .ok (.aload_n 1, 1) := dA_45.2.2.2.2.2.2.1
theorem dL_law_768 : decode code 768 = .ok (.aload_n 0, 1) := dA_45.2.2.2.2.2.2.2
theorem dA_46 : decode code 769 = .ok (.iload 5, 2) ∧ decode code 771 = .ok (.iconst 1, 1) ∧ decode code 772 = .ok (.iadd, 1) ∧ decode code 773 = .ok (.iaload, 1) ∧ decode code 774 = .ok (.aload_n 3, 1) ∧ decode code 775 = .ok (.invokestatic 202, 3) ∧ decode code 778 = .ok (.istore 6, 2) ∧ decode code 780 = .ok (.aload_n 2, 1) := by decide +kernel
theorem dL_law_769 : decode code 769 = .ok (.iload 5, 2) := dA_46.1
theorem dL_law_771 : decode code 771 = .ok (.iconst 1, 1) := dA_46.2.1
theorem dL_law_772 : decode code 772 = .ok (.iadd, 1) := dA_46.2.2.1
theorem dL_law_773 : decode code 773 = .ok (.iaload, 1) := dA_46.2.2.2.1
theorem dL_law_774 : decode code 774 = .ok (.aload_n 3, 1) := dA_46.2.2.2.2.1
theorem dL_law_775 : decode code 775 = .ok (.invokestatic 202, 3) := dA_46.2.2.2.2.2.1
theorem dL_law_778 : decode code 778 = .ok (.istore 6, 2) := dA_46.2.2.2.2.2.2.1
theorem dL_law_780 : decode code 780 = .ok (.aload_n 2, 1) := dA_46.2.2.2.2.2.2.2
theorem dA_47 : decode code 781 = .ok (.aload_n 0, 1) ∧ decode code 782 = .ok (.iload 5, 2) ∧ decode code 784 = .ok (.iconst 1, 1) ∧ decode code 785 = .ok (.iadd, 1) ∧ decode code 786 = .ok (.iaload, 1) ∧ decode code 787 = .ok (.invokevirtual 204, 3) ∧ decode code 790 = .ok (.istore 7, 2) ∧ decode code 792 = .ok (.goto 687, 3) := by decide +kernel
theorem dL_law_781 : decode code 781 = .ok (.aload_n 0, 1) := dA_47.1
theorem dL_law_782 : decode code 782 = .ok (.iload 5, 2) := dA_47.2.1
theorem dL_law_784 : decode code 784 = .ok (.iconst 1, 1) := dA_47.2.2.1
theorem dL_law_785 : decode code 785 = .ok (.iadd, 1) := dA_47.2.2.2.1
theorem dL_law_786 : decode code 786 = .ok (.iaload, 1) := dA_47.2.2.2.2.1
theorem dL_law_787 : decode code 787 = .ok (.invokevirtual 204, 3) := dA_47.2.2.2.2.2.1
theorem dL_law_790 : decode code 790 = .ok (.istore 7, 2) := dA_47.2.2.2.2.2.2.1
theorem dL_law_792 : decode code 792 = .ok (.goto 687, 3) := dA_47.2.2.2.2.2.2.2
theorem dA_48 : decode code 795 = .ok (.aload_n 1, 1) ∧ decode code 796 = .ok (.aload_n 0, 1) ∧ decode code 797 = .ok (.iload 5, 2) ∧ decode code 799 = .ok (.iconst 1, 1) ∧ decode code 800 = .ok (.iadd, 1) ∧ decode code 801 = .ok (.iaload, 1) ∧ decode code 802 = .ok (.aload_n 3, 1) ∧ decode code 803 = .ok (.invokestatic 205, 3) := by decide +kernel
theorem dL_law_795 : decode code 795 = .ok (.aload_n 1, 1) := dA_48.1
theorem dL_law_796 : decode code 796 = .ok (.aload_n 0, 1) := dA_48.2.1
theorem dL_law_797 : decode code 797 = .ok (.iload 5, 2) := dA_48.2.2.1
theorem dL_law_799 : decode code 799 = .ok (.iconst 1, 1) := dA_48.2.2.2.1
theorem dL_law_800 : decode code 800 = .ok (.iadd, 1) := dA_48.2.2.2.2.1
theorem dL_law_801 : decode code 801 = .ok (.iaload, 1) := dA_48.2.2.2.2.2.1
theorem dL_law_802 : decode code 802 = .ok (.aload_n 3, 1) := dA_48.2.2.2.2.2.2.1
theorem dL_law_803 : decode code 803 = .ok (.invokestatic 205, 3) := dA_48.2.2.2.2.2.2.2
theorem dA_49 : decode code 806 = .ok (.istore 6, 2) ∧ decode code 808 = .ok (.aload_n 2, 1) ∧ decode code 809 = .ok (.aload_n 0, 1) ∧ decode code 810 = .ok (.iload 5, 2) ∧ decode code 812 = .ok (.iconst 1, 1) ∧ decode code 813 = .ok (.iadd, 1) ∧ decode code 814 = .ok (.iaload, 1) ∧ decode code 815 = .ok (.invokevirtual 207, 3) := by decide +kernel
theorem dL_law_806 : decode code 806 = .ok (.istore 6, 2) := dA_49.1
theorem dL_law_808 : decode code 808 = .ok (.aload_n 2, 1) := dA_49.2.1
theorem dL_law_809 : decode code 809 = .ok (.aload_n 0, 1) := dA_49.2.2.1
theorem dL_law_810 : decode code 810 = .ok (.iload 5, 2) := dA_49.2.2.2.1
theorem dL_law_812 : decode code 812 = .ok (.iconst 1, 1) := dA_49.2.2.2.2.1
theorem dL_law_813 : decode code 813 = .ok (.iadd, 1) := dA_49.2.2.2.2.2.1
theorem dL_law_814 : decode code 814 = .ok (.iaload, 1) := dA_49.2.2.2.2.2.2.1
theorem dL_law_815 : decode code 815 = .ok (.invokevirtual 207, 3) := dA_49.2.2.2.2.2.2.2
theorem dA_50 : decode code 818 = .ok (.istore 7, 2) ∧ decode code 820 = .ok (.goto 659, 3) ∧ decode code 823 = .ok (.aload_n 1, 1) ∧ decode code 824 = .ok (.aload_n 0, 1) ∧ decode code 825 = .ok (.iload 5, 2) ∧ decode code 827 = .ok (.iconst 1, 1) ∧ decode code 828 = .ok (.iadd, 1) ∧ decode code 829 = .ok (.iaload, 1) := by decide +kernel
theorem dL_law_818 : decode code 818 = .ok (.istore 7, 2) := dA_50.1
theorem dL_law_820 : decode code 820 = .ok (.goto 659, 3) := dA_50.2.1
theorem dL_law_823 : decode code 823 = .ok (.aload_n 1, 1) := dA_50.2.2.1
theorem dL_law_824 : decode code 824 = .ok (.aload_n 0, 1) := dA_50.2.2.2.1
theorem dL_law_825 : decode code 825 = .ok (.iload 5, 2) := dA_50.2.2.2.2.1
theorem dL_law_827 : decode code 827 = .ok (.iconst 1, 1) := dA_50.2.2.2.2.2.1
theorem dL_law_828 : decode code 828 = .ok (.iadd, 1) := dA_50.2.2.2.2.2.2.1
theorem dL_law_829 : decode code 829 = .ok (.iaload, 1) := dA_50.2.2.2.2.2.2.2
theorem dA_51 : decode code 830 = .ok (.aload_n 3, 1) ∧ decode code 831 = .ok (.invokestatic 208, 3) ∧ decode code 834 = .ok (.istore 6, 2) ∧ decode code 836 = .ok (.aload_n 2, 1) ∧ decode code 837 = .ok (.aload_n 0, 1) ∧ decode code 838 = .ok (.iload 5, 2) ∧ decode code 840 = .ok (.iconst 1, 1) ∧ decode code 841 = .ok (.iadd, 1) := by decide +kernel
theorem dL_law_830 : decode code 830 = .ok (.aload_n 3, 1) := dA_51.1
theorem dL_law_831 : decode code 831 = .ok (.invokestatic 208, 3) := dA_51.2.1
theorem dL_law_834 : decode code 834 = .ok (.istore 6, 2) := dA_51.2.2.1
theorem dL_law_836 : decode code 836 = .ok (.aload_n 2, 1) := dA_51.2.2.2.1
theorem dL_law_837 : decode code 837 = .ok (.aload_n 0, 1) := dA_51.2.2.2.2.1
theorem dL_law_838 : decode code 838 = .ok (.iload 5, 2) := dA_51.2.2.2.2.2.1
theorem dL_law_840 : decode code 840 = .ok (.iconst 1, 1) := dA_51.2.2.2.2.2.2.1
theorem dL_law_841 : decode code 841 = .ok (.iadd, 1) := dA_51.2.2.2.2.2.2.2
theorem dA_52 : decode code 842 = .ok (.iaload, 1) ∧ decode code 843 = .ok (.invokevirtual 210, 3) ∧ decode code 846 = .ok (.istore 7, 2) ∧ decode code 848 = .ok (.goto 631, 3) ∧ decode code 851 = .ok (.aload_n 1, 1) ∧ decode code 852 = .ok (.aload_n 0, 1) ∧ decode code 853 = .ok (.iload 5, 2) ∧ decode code 855 = .ok (.iconst 1, 1) := by decide +kernel
theorem dL_law_842 : decode code 842 = .ok (.iaload, 1) := dA_52.1
theorem dL_law_843 : decode code 843 = .ok (.invokevirtual 210, 3) := dA_52.2.1
theorem dL_law_846 : decode code 846 = .ok (.istore 7, 2) := dA_52.2.2.1
theorem dL_law_848 : decode code 848 = .ok (.goto 631, 3) := dA_52.2.2.2.1
theorem dL_law_851 : decode code 851 = .ok (.aload_n 1, 1) := dA_52.2.2.2.2.1
theorem dL_law_852 : decode code 852 = .ok (.aload_n 0, 1) := dA_52.2.2.2.2.2.1
theorem dL_law_853 : decode code 853 = .ok (.iload 5, 2) := dA_52.2.2.2.2.2.2.1
theorem dL_law_855 : decode code 855 = .ok (.iconst 1, 1) := dA_52.2.2.2.2.2.2.2
theorem dA_53 : decode code 856 = .ok (.iadd, 1) ∧ decode code 857 = .ok (.iaload, 1) ∧ decode code 858 = .ok (.aload_n 3, 1) ∧ decode code 859 = .ok (.invokestatic 211, 3) ∧ decode code 862 = .ok (.istore 6, 2) ∧ decode code 864 = .ok (.aload_n 2, 1) ∧ decode code 865 = .ok (.aload_n 0, 1) ∧ decode code 866 = .ok (.iload 5, 2) := by decide +kernel
theorem dL_law_856 : decode code 856 = .ok (.iadd, 1) := dA_53.1
theorem dL_law_857 : decode code 857 = .ok (.iaload, 1) := dA_53.2.1
theorem dL_law_858 : decode code 858 = .ok (.aload_n 3, 1) := dA_53.2.2.1
theorem dL_law_859 : decode code 859 = .ok (.invokestatic 211, 3) := dA_53.2.2.2.1
theorem dL_law_862 : decode code 862 = .ok (.istore 6, 2) := dA_53.2.2.2.2.1
theorem dL_law_864 : decode code 864 = .ok (.aload_n 2, 1) := dA_53.2.2.2.2.2.1
theorem dL_law_865 : decode code 865 = .ok (.aload_n 0, 1) := dA_53.2.2.2.2.2.2.1
theorem dL_law_866 : decode code 866 = .ok (.iload 5, 2) := dA_53.2.2.2.2.2.2.2
theorem dA_54 : decode code 868 = .ok (.iconst 1, 1) ∧ decode code 869 = .ok (.iadd, 1) ∧ decode code 870 = .ok (.iaload, 1) ∧ decode code 871 = .ok (.invokevirtual 213, 3) ∧ decode code 874 = .ok (.istore 7, 2) ∧ decode code 876 = .ok (.goto 603, 3) ∧ decode code 879 = .ok (.aload_n 1, 1) ∧ decode code 880 = .ok (.aload_n 0, 1) := by decide +kernel
theorem dL_law_868 : decode code 868 = .ok (.iconst 1, 1) := dA_54.1
theorem dL_law_869 : decode code 869 = .ok (.iadd, 1) := dA_54.2.1
theorem dL_law_870 : decode code 870 = .ok (.iaload, 1) := dA_54.2.2.1
theorem dL_law_871 : decode code 871 = .ok (.invokevirtual 213, 3) := dA_54.2.2.2.1
theorem dL_law_874 : decode code 874 = .ok (.istore 7, 2) := dA_54.2.2.2.2.1
theorem dL_law_876 : decode code 876 = .ok (.goto 603, 3) := dA_54.2.2.2.2.2.1
theorem dL_law_879 : decode code 879 = .ok (.aload_n 1, 1) := dA_54.2.2.2.2.2.2.1
theorem dL_law_880 : decode code 880 = .ok (.aload_n 0, 1) := dA_54.2.2.2.2.2.2.2
theorem dA_55 : decode code 881 = .ok (.iload 5, 2) ∧ decode code 883 = .ok (.iconst 1, 1) ∧ decode code 884 = .ok (.iadd, 1) ∧ decode code 885 = .ok (.iaload, 1) ∧ decode code 886 = .ok (.aload_n 3, 1) ∧ decode code 887 = .ok (.invokestatic 214, 3) ∧ decode code 890 = .ok (.istore 6, 2) ∧ decode code 892 = .ok (.aload_n 2, 1) := by decide +kernel
theorem dL_law_881 : decode code 881 = .ok (.iload 5, 2) := dA_55.1
theorem dL_law_883 : decode code 883 = .ok (.iconst 1, 1) := dA_55.2.1
theorem dL_law_884 : decode code 884 = .ok (.iadd, 1) := dA_55.2.2.1
theorem dL_law_885 : decode code 885 = .ok (.iaload, 1) := dA_55.2.2.2.1
theorem dL_law_886 : decode code 886 = .ok (.aload_n 3, 1) := dA_55.2.2.2.2.1
theorem dL_law_887 : decode code 887 = .ok (.invokestatic 214, 3) := dA_55.2.2.2.2.2.1
theorem dL_law_890 : decode code 890 = .ok (.istore 6, 2) := dA_55.2.2.2.2.2.2.1
theorem dL_law_892 : decode code 892 = .ok (.aload_n 2, 1) := dA_55.2.2.2.2.2.2.2
theorem dA_56 : decode code 893 = .ok (.aload_n 0, 1) ∧ decode code 894 = .ok (.iload 5, 2) ∧ decode code 896 = .ok (.iconst 1, 1) ∧ decode code 897 = .ok (.iadd, 1) ∧ decode code 898 = .ok (.iaload, 1) ∧ decode code 899 = .ok (.invokevirtual 216, 3) ∧ decode code 902 = .ok (.istore 7, 2) ∧ decode code 904 = .ok (.goto 575, 3) := by decide +kernel
theorem dL_law_893 : decode code 893 = .ok (.aload_n 0, 1) := dA_56.1
theorem dL_law_894 : decode code 894 = .ok (.iload 5, 2) := dA_56.2.1
theorem dL_law_896 : decode code 896 = .ok (.iconst 1, 1) := dA_56.2.2.1
theorem dL_law_897 : decode code 897 = .ok (.iadd, 1) := dA_56.2.2.2.1
theorem dL_law_898 : decode code 898 = .ok (.iaload, 1) := dA_56.2.2.2.2.1
theorem dL_law_899 : decode code 899 = .ok (.invokevirtual 216, 3) := dA_56.2.2.2.2.2.1
theorem dL_law_902 : decode code 902 = .ok (.istore 7, 2) := dA_56.2.2.2.2.2.2.1
theorem dL_law_904 : decode code 904 = .ok (.goto 575, 3) := dA_56.2.2.2.2.2.2.2
theorem dA_57 : decode code 907 = .ok (.aload_n 1, 1) ∧ decode code 908 = .ok (.aload_n 0, 1) ∧ decode code 909 = .ok (.iload 5, 2) ∧ decode code 911 = .ok (.iconst 1, 1) ∧ decode code 912 = .ok (.iadd, 1) ∧ decode code 913 = .ok (.iaload, 1) ∧ decode code 914 = .ok (.aload_n 3, 1) ∧ decode code 915 = .ok (.invokestatic 217, 3) := by decide +kernel
theorem dL_law_907 : decode code 907 = .ok (.aload_n 1, 1) := dA_57.1
theorem dL_law_908 : decode code 908 = .ok (.aload_n 0, 1) := dA_57.2.1
theorem dL_law_909 : decode code 909 = .ok (.iload 5, 2) := dA_57.2.2.1
theorem dL_law_911 : decode code 911 = .ok (.iconst 1, 1) := dA_57.2.2.2.1
theorem dL_law_912 : decode code 912 = .ok (.iadd, 1) := dA_57.2.2.2.2.1
theorem dL_law_913 : decode code 913 = .ok (.iaload, 1) := dA_57.2.2.2.2.2.1
theorem dL_law_914 : decode code 914 = .ok (.aload_n 3, 1) := dA_57.2.2.2.2.2.2.1
theorem dL_law_915 : decode code 915 = .ok (.invokestatic 217, 3) := dA_57.2.2.2.2.2.2.2
theorem dA_58 : decode code 918 = .ok (.istore 6, 2) ∧ decode code 920 = .ok (.aload_n 2, 1) ∧ decode code 921 = .ok (.aload_n 0, 1) ∧ decode code 922 = .ok (.iload 5, 2) ∧ decode code 924 = .ok (.iconst 1, 1) ∧ decode code 925 = .ok (.iadd, 1) ∧ decode code 926 = .ok (.iaload, 1) ∧ decode code 927 = .ok (.invokevirtual 219, 3) := by decide +kernel
theorem dL_law_918 : decode code 918 = .ok (.istore 6, 2) := dA_58.1
theorem dL_law_920 : decode code 920 = .ok (.aload_n 2, 1) := dA_58.2.1
theorem dL_law_921 : decode code 921 = .ok (.aload_n 0, 1) := dA_58.2.2.1
theorem dL_law_922 : decode code 922 = .ok (.iload 5, 2) := dA_58.2.2.2.1
theorem dL_law_924 : decode code 924 = .ok (.iconst 1, 1) := dA_58.2.2.2.2.1
theorem dL_law_925 : decode code 925 = .ok (.iadd, 1) := dA_58.2.2.2.2.2.1
theorem dL_law_926 : decode code 926 = .ok (.iaload, 1) := dA_58.2.2.2.2.2.2.1
theorem dL_law_927 : decode code 927 = .ok (.invokevirtual 219, 3) := dA_58.2.2.2.2.2.2.2
theorem dA_59 : decode code 930 = .ok (.istore 7, 2) ∧ decode code 932 = .ok (.goto 547, 3) ∧ decode code 935 = .ok (.aload_n 1, 1) ∧ decode code 936 = .ok (.aload_n 0, 1) ∧ decode code 937 = .ok (.iload 5, 2) ∧ decode code 939 = .ok (.iconst 1, 1) ∧ decode code 940 = .ok (.iadd, 1) ∧ decode code 941 = .ok (.iaload, 1) := by decide +kernel
theorem dL_law_930 : decode code 930 = .ok (.istore 7, 2) := dA_59.1
theorem dL_law_932 : decode code 932 = .ok (.goto 547, 3) := dA_59.2.1
theorem dL_law_935 : decode code 935 = .ok (.aload_n 1, 1) := dA_59.2.2.1
theorem dL_law_936 : decode code 936 = .ok (.aload_n 0, 1) := dA_59.2.2.2.1
theorem dL_law_937 : decode code 937 = .ok (.iload 5, 2) := dA_59.2.2.2.2.1
theorem dL_law_939 : decode code 939 = .ok (.iconst 1, 1) := dA_59.2.2.2.2.2.1
theorem dL_law_940 : decode code 940 = .ok (.iadd, 1) := dA_59.2.2.2.2.2.2.1
theorem dL_law_941 : decode code 941 = .ok (.iaload, 1) := dA_59.2.2.2.2.2.2.2
theorem dA_60 : decode code 942 = .ok (.aload_n 3, 1) ∧ decode code 943 = .ok (.invokestatic 220, 3) ∧ decode code 946 = .ok (.istore 6, 2) ∧ decode code 948 = .ok (.aload_n 2, 1) ∧ decode code 949 = .ok (.aload_n 0, 1) ∧ decode code 950 = .ok (.iload 5, 2) ∧ decode code 952 = .ok (.iconst 1, 1) ∧ decode code 953 = .ok (.iadd, 1) := by decide +kernel
theorem dL_law_942 : decode code 942 = .ok (.aload_n 3, 1) := dA_60.1
theorem dL_law_943 : decode code 943 = .ok (.invokestatic 220, 3) := dA_60.2.1
theorem dL_law_946 : decode code 946 = .ok (.istore 6, 2) := dA_60.2.2.1
theorem dL_law_948 : decode code 948 = .ok (.aload_n 2, 1) := dA_60.2.2.2.1
theorem dL_law_949 : decode code 949 = .ok (.aload_n 0, 1) := dA_60.2.2.2.2.1
theorem dL_law_950 : decode code 950 = .ok (.iload 5, 2) := dA_60.2.2.2.2.2.1
theorem dL_law_952 : decode code 952 = .ok (.iconst 1, 1) := dA_60.2.2.2.2.2.2.1
theorem dL_law_953 : decode code 953 = .ok (.iadd, 1) := dA_60.2.2.2.2.2.2.2
theorem dA_61 : decode code 954 = .ok (.iaload, 1) ∧ decode code 955 = .ok (.invokevirtual 222, 3) ∧ decode code 958 = .ok (.istore 7, 2) ∧ decode code 960 = .ok (.goto 519, 3) ∧ decode code 963 = .ok (.aload_n 1, 1) ∧ decode code 964 = .ok (.aload_n 0, 1) ∧ decode code 965 = .ok (.iload 5, 2) ∧ decode code 967 = .ok (.iconst 1, 1) := by decide +kernel
theorem dL_law_954 : decode code 954 = .ok (.iaload, 1) := dA_61.1
theorem dL_law_955 : decode code 955 = .ok (.invokevirtual 222, 3) := dA_61.2.1
theorem dL_law_958 : decode code 958 = .ok (.istore 7, 2) := dA_61.2.2.1
theorem dL_law_960 : decode code 960 = .ok (.goto 519, 3) := dA_61.2.2.2.1
theorem dL_law_963 : decode code 963 = .ok (.aload_n 1, 1) := dA_61.2.2.2.2.1
theorem dL_law_964 : decode code 964 = .ok (.aload_n 0, 1) := dA_61.2.2.2.2.2.1
theorem dL_law_965 : decode code 965 = .ok (.iload 5, 2) := dA_61.2.2.2.2.2.2.1
theorem dL_law_967 : decode code 967 = .ok (.iconst 1, 1) := dA_61.2.2.2.2.2.2.2
theorem dA_62 : decode code 968 = .ok (.iadd, 1) ∧ decode code 969 = .ok (.iaload, 1) ∧ decode code 970 = .ok (.aload_n 0, 1) ∧ decode code 971 = .ok (.iload 5, 2) ∧ decode code 973 = .ok (.iconst 2, 1) ∧ decode code 974 = .ok (.iadd, 1) ∧ decode code 975 = .ok (.iaload, 1) ∧ decode code 976 = .ok (.aload_n 3, 1) := by decide +kernel
theorem dL_law_968 : decode code 968 = .ok (.iadd, 1) := dA_62.1
theorem dL_law_969 : decode code 969 = .ok (.iaload, 1) := dA_62.2.1
theorem dL_law_970 : decode code 970 = .ok (.aload_n 0, 1) := dA_62.2.2.1
theorem dL_law_971 : decode code 971 = .ok (.iload 5, 2) := dA_62.2.2.2.1
theorem dL_law_973 : decode code 973 = .ok (.iconst 2, 1) := dA_62.2.2.2.2.1
theorem dL_law_974 : decode code 974 = .ok (.iadd, 1) := dA_62.2.2.2.2.2.1
theorem dL_law_975 : decode code 975 = .ok (.iaload, 1) := dA_62.2.2.2.2.2.2.1
theorem dL_law_976 : decode code 976 = .ok (.aload_n 3, 1) := dA_62.2.2.2.2.2.2.2
theorem dA_63 : decode code 977 = .ok (.invokestatic 223, 3) ∧ decode code 980 = .ok (.istore 6, 2) ∧ decode code 982 = .ok (.aload_n 2, 1) ∧ decode code 983 = .ok (.aload_n 0, 1) ∧ decode code 984 = .ok (.iload 5, 2) ∧ decode code 986 = .ok (.iconst 1, 1) ∧ decode code 987 = .ok (.iadd, 1) ∧ decode code 988 = .ok (.iaload, 1) := by decide +kernel
theorem dL_law_977 : decode code 977 = .ok (.invokestatic 223, 3) := dA_63.1
theorem dL_law_980 : decode code 980 = .ok (.istore 6, 2) := dA_63.2.1
theorem dL_law_982 : decode code 982 = .ok (.aload_n 2, 1) := dA_63.2.2.1
theorem dL_law_983 : decode code 983 = .ok (.aload_n 0, 1) := dA_63.2.2.2.1
theorem dL_law_984 : decode code 984 = .ok (.iload 5, 2) := dA_63.2.2.2.2.1
theorem dL_law_986 : decode code 986 = .ok (.iconst 1, 1) := dA_63.2.2.2.2.2.1
theorem dL_law_987 : decode code 987 = .ok (.iadd, 1) := dA_63.2.2.2.2.2.2.1
theorem dL_law_988 : decode code 988 = .ok (.iaload, 1) := dA_63.2.2.2.2.2.2.2
theorem dA_64 : decode code 989 = .ok (.aload_n 0, 1) ∧ decode code 990 = .ok (.iload 5, 2) ∧ decode code 992 = .ok (.iconst 2, 1) ∧ decode code 993 = .ok (.iadd, 1) ∧ decode code 994 = .ok (.iaload, 1) ∧ decode code 995 = .ok (.invokevirtual 225, 3) ∧ decode code 998 = .ok (.istore 7, 2) ∧ decode code 1000 = .ok (.goto 479, 3) := by decide +kernel
theorem dL_law_989 : decode code 989 = .ok (.aload_n 0, 1) := dA_64.1
theorem dL_law_990 : decode code 990 = .ok (.iload 5, 2) := dA_64.2.1
theorem dL_law_992 : decode code 992 = .ok (.iconst 2, 1) := dA_64.2.2.1
theorem dL_law_993 : decode code 993 = .ok (.iadd, 1) := dA_64.2.2.2.1
theorem dL_law_994 : decode code 994 = .ok (.iaload, 1) := dA_64.2.2.2.2.1
theorem dL_law_995 : decode code 995 = .ok (.invokevirtual 225, 3) := dA_64.2.2.2.2.2.1
theorem dL_law_998 : decode code 998 = .ok (.istore 7, 2) := dA_64.2.2.2.2.2.2.1
theorem dL_law_1000 : decode code 1000 = .ok (.goto 479, 3) := dA_64.2.2.2.2.2.2.2
theorem dA_65 : decode code 1003 = .ok (.aload_n 1, 1) ∧ decode code 1004 = .ok (.aload_n 0, 1) ∧ decode code 1005 = .ok (.iload 5, 2) ∧ decode code 1007 = .ok (.iconst 1, 1) ∧ decode code 1008 = .ok (.iadd, 1) ∧ decode code 1009 = .ok (.iaload, 1) ∧ decode code 1010 = .ok (.aload_n 0, 1) ∧ decode code 1011 = .ok (.iload 5, 2) := by decide +kernel
theorem dL_law_1003 : decode code 1003 = .ok (.aload_n 1, 1) := dA_65.1
theorem dL_law_1004 : decode code 1004 = .ok (.aload_n 0, 1) := dA_65.2.1
theorem dL_law_1005 : decode code 1005 = .ok (.iload 5, 2) := dA_65.2.2.1
theorem dL_law_1007 : decode code 1007 = .ok (.iconst 1, 1) := dA_65.2.2.2.1
theorem dL_law_1008 : decode code 1008 = .ok (.iadd, 1) := dA_65.2.2.2.2.1
theorem dL_law_1009 : decode code 1009 = .ok (.iaload, 1) := dA_65.2.2.2.2.2.1
theorem dL_law_1010 : decode code 1010 = .ok (.aload_n 0, 1) := dA_65.2.2.2.2.2.2.1
theorem dL_law_1011 : decode code 1011 = .ok (.iload 5, 2) := dA_65.2.2.2.2.2.2.2
theorem dA_66 : decode code 1013 = .ok (.iconst 2, 1) ∧ decode code 1014 = .ok (.iadd, 1) ∧ decode code 1015 = .ok (.iaload, 1) ∧ decode code 1016 = .ok (.aload_n 3, 1) ∧ decode code 1017 = .ok (.invokestatic 226, 3) ∧ decode code 1020 = .ok (.istore 6, 2) ∧ decode code 1022 = .ok (.aload_n 2, 1) ∧ decode code 1023 = .ok (.aload_n 0, 1) := by decide +kernel
theorem dL_law_1013 : decode code 1013 = .ok (.iconst 2, 1) := dA_66.1
theorem dL_law_1014 : decode code 1014 = .ok (.iadd, 1) := dA_66.2.1
theorem dL_law_1015 : decode code 1015 = .ok (.iaload, 1) := dA_66.2.2.1
theorem dL_law_1016 : decode code 1016 = .ok (.aload_n 3, 1) := dA_66.2.2.2.1
theorem dL_law_1017 : decode code 1017 = .ok (.invokestatic 226, 3) := dA_66.2.2.2.2.1
theorem dL_law_1020 : decode code 1020 = .ok (.istore 6, 2) := dA_66.2.2.2.2.2.1
theorem dL_law_1022 : decode code 1022 = .ok (.aload_n 2, 1) := dA_66.2.2.2.2.2.2.1
theorem dL_law_1023 : decode code 1023 = .ok (.aload_n 0, 1) := dA_66.2.2.2.2.2.2.2
theorem dA_67 : decode code 1024 = .ok (.iload 5, 2) ∧ decode code 1026 = .ok (.iconst 1, 1) ∧ decode code 1027 = .ok (.iadd, 1) ∧ decode code 1028 = .ok (.iaload, 1) ∧ decode code 1029 = .ok (.aload_n 0, 1) ∧ decode code 1030 = .ok (.iload 5, 2) ∧ decode code 1032 = .ok (.iconst 2, 1) ∧ decode code 1033 = .ok (.iadd, 1) := by decide +kernel
theorem dL_law_1024 : decode code 1024 = .ok (.iload 5, 2) := dA_67.1
theorem dL_law_1026 : decode code 1026 = .ok (.iconst 1, 1) := dA_67.2.1
theorem dL_law_1027 : decode code 1027 = .ok (.iadd, 1) := dA_67.2.2.1
theorem dL_law_1028 : decode code 1028 = .ok (.iaload, 1) := dA_67.2.2.2.1
theorem dL_law_1029 : decode code 1029 = .ok (.aload_n 0, 1) := dA_67.2.2.2.2.1
theorem dL_law_1030 : decode code 1030 = .ok (.iload 5, 2) := dA_67.2.2.2.2.2.1
theorem dL_law_1032 : decode code 1032 = .ok (.iconst 2, 1) := dA_67.2.2.2.2.2.2.1
theorem dL_law_1033 : decode code 1033 = .ok (.iadd, 1) := dA_67.2.2.2.2.2.2.2
theorem dA_68 : decode code 1034 = .ok (.iaload, 1) ∧ decode code 1035 = .ok (.invokevirtual 228, 3) ∧ decode code 1038 = .ok (.istore 7, 2) ∧ decode code 1040 = .ok (.goto 439, 3) ∧ decode code 1043 = .ok (.aload_n 1, 1) ∧ decode code 1044 = .ok (.aload_n 0, 1) ∧ decode code 1045 = .ok (.iload 5, 2) ∧ decode code 1047 = .ok (.iconst 1, 1) := by decide +kernel
theorem dL_law_1034 : decode code 1034 = .ok (.iaload, 1) := dA_68.1
theorem dL_law_1035 : decode code 1035 = .ok (.invokevirtual 228, 3) := dA_68.2.1
theorem dL_law_1038 : decode code 1038 = .ok (.istore 7, 2) := dA_68.2.2.1
theorem dL_law_1040 : decode code 1040 = .ok (.goto 439, 3) := dA_68.2.2.2.1
theorem dL_law_1043 : decode code 1043 = .ok (.aload_n 1, 1) := dA_68.2.2.2.2.1
theorem dL_law_1044 : decode code 1044 = .ok (.aload_n 0, 1) := dA_68.2.2.2.2.2.1
theorem dL_law_1045 : decode code 1045 = .ok (.iload 5, 2) := dA_68.2.2.2.2.2.2.1
theorem dL_law_1047 : decode code 1047 = .ok (.iconst 1, 1) := dA_68.2.2.2.2.2.2.2
theorem dA_69 : decode code 1048 = .ok (.iadd, 1) ∧ decode code 1049 = .ok (.iaload, 1) ∧ decode code 1050 = .ok (.aload_n 0, 1) ∧ decode code 1051 = .ok (.iload 5, 2) ∧ decode code 1053 = .ok (.iconst 2, 1) ∧ decode code 1054 = .ok (.iadd, 1) ∧ decode code 1055 = .ok (.iaload, 1) ∧ decode code 1056 = .ok (.aload_n 3, 1) := by decide +kernel
theorem dL_law_1048 : decode code 1048 = .ok (.iadd, 1) := dA_69.1
theorem dL_law_1049 : decode code 1049 = .ok (.iaload, 1) := dA_69.2.1
theorem dL_law_1050 : decode code 1050 = .ok (.aload_n 0, 1) := dA_69.2.2.1
theorem dL_law_1051 : decode code 1051 = .ok (.iload 5, 2) := dA_69.2.2.2.1
theorem dL_law_1053 : decode code 1053 = .ok (.iconst 2, 1) := dA_69.2.2.2.2.1
theorem dL_law_1054 : decode code 1054 = .ok (.iadd, 1) := dA_69.2.2.2.2.2.1
theorem dL_law_1055 : decode code 1055 = .ok (.iaload, 1) := dA_69.2.2.2.2.2.2.1
theorem dL_law_1056 : decode code 1056 = .ok (.aload_n 3, 1) := dA_69.2.2.2.2.2.2.2
theorem dA_70 : decode code 1057 = .ok (.invokestatic 229, 3) ∧ decode code 1060 = .ok (.istore 6, 2) ∧ decode code 1062 = .ok (.aload_n 2, 1) ∧ decode code 1063 = .ok (.aload_n 0, 1) ∧ decode code 1064 = .ok (.iload 5, 2) ∧ decode code 1066 = .ok (.iconst 1, 1) ∧ decode code 1067 = .ok (.iadd, 1) ∧ decode code 1068 = .ok (.iaload, 1) := by decide +kernel
theorem dL_law_1057 : decode code 1057 = .ok (.invokestatic 229, 3) := dA_70.1
theorem dL_law_1060 : decode code 1060 = .ok (.istore 6, 2) := dA_70.2.1
theorem dL_law_1062 : decode code 1062 = .ok (.aload_n 2, 1) := dA_70.2.2.1
theorem dL_law_1063 : decode code 1063 = .ok (.aload_n 0, 1) := dA_70.2.2.2.1
theorem dL_law_1064 : decode code 1064 = .ok (.iload 5, 2) := dA_70.2.2.2.2.1
theorem dL_law_1066 : decode code 1066 = .ok (.iconst 1, 1) := dA_70.2.2.2.2.2.1
theorem dL_law_1067 : decode code 1067 = .ok (.iadd, 1) := dA_70.2.2.2.2.2.2.1
theorem dL_law_1068 : decode code 1068 = .ok (.iaload, 1) := dA_70.2.2.2.2.2.2.2
theorem dA_71 : decode code 1069 = .ok (.aload_n 0, 1) ∧ decode code 1070 = .ok (.iload 5, 2) ∧ decode code 1072 = .ok (.iconst 2, 1) ∧ decode code 1073 = .ok (.iadd, 1) ∧ decode code 1074 = .ok (.iaload, 1) ∧ decode code 1075 = .ok (.invokevirtual 231, 3) ∧ decode code 1078 = .ok (.istore 7, 2) ∧ decode code 1080 = .ok (.goto 399, 3) := by decide +kernel
theorem dL_law_1069 : decode code 1069 = .ok (.aload_n 0, 1) := dA_71.1
theorem dL_law_1070 : decode code 1070 = .ok (.iload 5, 2) := dA_71.2.1
theorem dL_law_1072 : decode code 1072 = .ok (.iconst 2, 1) := dA_71.2.2.1
theorem dL_law_1073 : decode code 1073 = .ok (.iadd, 1) := dA_71.2.2.2.1
theorem dL_law_1074 : decode code 1074 = .ok (.iaload, 1) := dA_71.2.2.2.2.1
theorem dL_law_1075 : decode code 1075 = .ok (.invokevirtual 231, 3) := dA_71.2.2.2.2.2.1
theorem dL_law_1078 : decode code 1078 = .ok (.istore 7, 2) := dA_71.2.2.2.2.2.2.1
theorem dL_law_1080 : decode code 1080 = .ok (.goto 399, 3) := dA_71.2.2.2.2.2.2.2
theorem dA_72 : decode code 1083 = .ok (.aload_n 1, 1) ∧ decode code 1084 = .ok (.aload_n 0, 1) ∧ decode code 1085 = .ok (.iload 5, 2) ∧ decode code 1087 = .ok (.iconst 1, 1) ∧ decode code 1088 = .ok (.iadd, 1) ∧ decode code 1089 = .ok (.iaload, 1) ∧ decode code 1090 = .ok (.aload_n 3, 1) ∧ decode code 1091 = .ok (.invokestatic 232, 3) := by decide +kernel
theorem dL_law_1083 : decode code 1083 = .ok (.aload_n 1, 1) := dA_72.1
theorem dL_law_1084 : decode code 1084 = .ok (.aload_n 0, 1) := dA_72.2.1
theorem dL_law_1085 : decode code 1085 = .ok (.iload 5, 2) := dA_72.2.2.1
theorem dL_law_1087 : decode code 1087 = .ok (.iconst 1, 1) := dA_72.2.2.2.1
theorem dL_law_1088 : decode code 1088 = .ok (.iadd, 1) := dA_72.2.2.2.2.1
theorem dL_law_1089 : decode code 1089 = .ok (.iaload, 1) := dA_72.2.2.2.2.2.1
theorem dL_law_1090 : decode code 1090 = .ok (.aload_n 3, 1) := dA_72.2.2.2.2.2.2.1
theorem dL_law_1091 : decode code 1091 = .ok (.invokestatic 232, 3) := dA_72.2.2.2.2.2.2.2
theorem dA_73 : decode code 1094 = .ok (.istore 6, 2) ∧ decode code 1096 = .ok (.aload_n 2, 1) ∧ decode code 1097 = .ok (.aload_n 0, 1) ∧ decode code 1098 = .ok (.iload 5, 2) ∧ decode code 1100 = .ok (.iconst 1, 1) ∧ decode code 1101 = .ok (.iadd, 1) ∧ decode code 1102 = .ok (.iaload, 1) ∧ decode code 1103 = .ok (.invokevirtual 234, 3) := by decide +kernel
theorem dL_law_1094 : decode code 1094 = .ok (.istore 6, 2) := dA_73.1
theorem dL_law_1096 : decode code 1096 = .ok (.aload_n 2, 1) := dA_73.2.1
theorem dL_law_1097 : decode code 1097 = .ok (.aload_n 0, 1) := dA_73.2.2.1
theorem dL_law_1098 : decode code 1098 = .ok (.iload 5, 2) := dA_73.2.2.2.1
theorem dL_law_1100 : decode code 1100 = .ok (.iconst 1, 1) := dA_73.2.2.2.2.1
theorem dL_law_1101 : decode code 1101 = .ok (.iadd, 1) := dA_73.2.2.2.2.2.1
theorem dL_law_1102 : decode code 1102 = .ok (.iaload, 1) := dA_73.2.2.2.2.2.2.1
theorem dL_law_1103 : decode code 1103 = .ok (.invokevirtual 234, 3) := dA_73.2.2.2.2.2.2.2
theorem dA_74 : decode code 1106 = .ok (.istore 7, 2) ∧ decode code 1108 = .ok (.goto 371, 3) ∧ decode code 1111 = .ok (.aload_n 1, 1) ∧ decode code 1112 = .ok (.aload_n 0, 1) ∧ decode code 1113 = .ok (.iload 5, 2) ∧ decode code 1115 = .ok (.iconst 1, 1) ∧ decode code 1116 = .ok (.iadd, 1) ∧ decode code 1117 = .ok (.iaload, 1) := by decide +kernel
theorem dL_law_1106 : decode code 1106 = .ok (.istore 7, 2) := dA_74.1
theorem dL_law_1108 : decode code 1108 = .ok (.goto 371, 3) := dA_74.2.1
theorem dL_law_1111 : decode code 1111 = .ok (.aload_n 1, 1) := dA_74.2.2.1
theorem dL_law_1112 : decode code 1112 = .ok (.aload_n 0, 1) := dA_74.2.2.2.1
theorem dL_law_1113 : decode code 1113 = .ok (.iload 5, 2) := dA_74.2.2.2.2.1
theorem dL_law_1115 : decode code 1115 = .ok (.iconst 1, 1) := dA_74.2.2.2.2.2.1
theorem dL_law_1116 : decode code 1116 = .ok (.iadd, 1) := dA_74.2.2.2.2.2.2.1
theorem dL_law_1117 : decode code 1117 = .ok (.iaload, 1) := dA_74.2.2.2.2.2.2.2
theorem dA_75 : decode code 1118 = .ok (.aload_n 3, 1) ∧ decode code 1119 = .ok (.invokestatic 235, 3) ∧ decode code 1122 = .ok (.istore 6, 2) ∧ decode code 1124 = .ok (.aload_n 2, 1) ∧ decode code 1125 = .ok (.aload_n 0, 1) ∧ decode code 1126 = .ok (.iload 5, 2) ∧ decode code 1128 = .ok (.iconst 1, 1) ∧ decode code 1129 = .ok (.iadd, 1) := by decide +kernel
theorem dL_law_1118 : decode code 1118 = .ok (.aload_n 3, 1) := dA_75.1
theorem dL_law_1119 : decode code 1119 = .ok (.invokestatic 235, 3) := dA_75.2.1
theorem dL_law_1122 : decode code 1122 = .ok (.istore 6, 2) := dA_75.2.2.1
theorem dL_law_1124 : decode code 1124 = .ok (.aload_n 2, 1) := dA_75.2.2.2.1
theorem dL_law_1125 : decode code 1125 = .ok (.aload_n 0, 1) := dA_75.2.2.2.2.1
theorem dL_law_1126 : decode code 1126 = .ok (.iload 5, 2) := dA_75.2.2.2.2.2.1
theorem dL_law_1128 : decode code 1128 = .ok (.iconst 1, 1) := dA_75.2.2.2.2.2.2.1
theorem dL_law_1129 : decode code 1129 = .ok (.iadd, 1) := dA_75.2.2.2.2.2.2.2
theorem dA_76 : decode code 1130 = .ok (.iaload, 1) ∧ decode code 1131 = .ok (.invokevirtual 237, 3) ∧ decode code 1134 = .ok (.istore 7, 2) ∧ decode code 1136 = .ok (.goto 343, 3) ∧ decode code 1139 = .ok (.aload_n 1, 1) ∧ decode code 1140 = .ok (.invokevirtual 238, 3) ∧ decode code 1143 = .ok (.pop, 1) ∧ decode code 1144 = .ok (.aload_n 2, 1) := by decide +kernel
theorem dL_law_1130 : decode code 1130 = .ok (.iaload, 1) := dA_76.1
theorem dL_law_1131 : decode code 1131 = .ok (.invokevirtual 237, 3) := dA_76.2.1
theorem dL_law_1134 : decode code 1134 = .ok (.istore 7, 2) := dA_76.2.2.1
theorem dL_law_1136 : decode code 1136 = .ok (.goto 343, 3) := dA_76.2.2.2.1
theorem dL_law_1139 : decode code 1139 = .ok (.aload_n 1, 1) := dA_76.2.2.2.2.1
theorem dL_law_1140 : decode code 1140 = .ok (.invokevirtual 238, 3) := dA_76.2.2.2.2.2.1
theorem dL_law_1143 : decode code 1143 = .ok (.pop, 1) := dA_76.2.2.2.2.2.2.1
theorem dL_law_1144 : decode code 1144 = .ok (.aload_n 2, 1) := dA_76.2.2.2.2.2.2.2
theorem dA_77 : decode code 1145 = .ok (.invokevirtual 241, 3) ∧ decode code 1148 = .ok (.pop, 1) ∧ decode code 1149 = .ok (.goto 330, 3) ∧ decode code 1152 = .ok (.aload_n 1, 1) ∧ decode code 1153 = .ok (.invokevirtual 242, 3) ∧ decode code 1156 = .ok (.pop, 1) ∧ decode code 1157 = .ok (.aload_n 2, 1) ∧ decode code 1158 = .ok (.invokevirtual 245, 3) := by decide +kernel
theorem dL_law_1145 : decode code 1145 = .ok (.invokevirtual 241, 3) := dA_77.1
theorem dL_law_1148 : decode code 1148 = .ok (.pop, 1) := dA_77.2.1
theorem dL_law_1149 : decode code 1149 = .ok (.goto 330, 3) := dA_77.2.2.1
theorem dL_law_1152 : decode code 1152 = .ok (.aload_n 1, 1) := dA_77.2.2.2.1
theorem dL_law_1153 : decode code 1153 = .ok (.invokevirtual 242, 3) := dA_77.2.2.2.2.1
theorem dL_law_1156 : decode code 1156 = .ok (.pop, 1) := dA_77.2.2.2.2.2.1
theorem dL_law_1157 : decode code 1157 = .ok (.aload_n 2, 1) := dA_77.2.2.2.2.2.2.1
theorem dL_law_1158 : decode code 1158 = .ok (.invokevirtual 245, 3) := dA_77.2.2.2.2.2.2.2
theorem dA_78 : decode code 1161 = .ok (.pop, 1) ∧ decode code 1162 = .ok (.goto 317, 3) ∧ decode code 1165 = .ok (.aload_n 1, 1) ∧ decode code 1166 = .ok (.invokevirtual 246, 3) ∧ decode code 1169 = .ok (.pop, 1) ∧ decode code 1170 = .ok (.aload_n 2, 1) ∧ decode code 1171 = .ok (.invokevirtual 249, 3) ∧ decode code 1174 = .ok (.pop, 1) := by decide +kernel
theorem dL_law_1161 : decode code 1161 = .ok (.pop, 1) := dA_78.1
theorem dL_law_1162 : decode code 1162 = .ok (.goto 317, 3) := dA_78.2.1
theorem dL_law_1165 : decode code 1165 = .ok (.aload_n 1, 1) := dA_78.2.2.1
theorem dL_law_1166 : decode code 1166 = .ok (.invokevirtual 246, 3) := dA_78.2.2.2.1
theorem dL_law_1169 : decode code 1169 = .ok (.pop, 1) := dA_78.2.2.2.2.1
theorem dL_law_1170 : decode code 1170 = .ok (.aload_n 2, 1) := dA_78.2.2.2.2.2.1
theorem dL_law_1171 : decode code 1171 = .ok (.invokevirtual 249, 3) := dA_78.2.2.2.2.2.2.1
theorem dL_law_1174 : decode code 1174 = .ok (.pop, 1) := dA_78.2.2.2.2.2.2.2
theorem dA_79 : decode code 1175 = .ok (.goto 304, 3) ∧ decode code 1178 = .ok (.aload_n 1, 1) ∧ decode code 1179 = .ok (.invokevirtual 250, 3) ∧ decode code 1182 = .ok (.pop, 1) ∧ decode code 1183 = .ok (.aload_n 2, 1) ∧ decode code 1184 = .ok (.invokevirtual 253, 3) ∧ decode code 1187 = .ok (.pop, 1) ∧ decode code 1188 = .ok (.goto 291, 3) := by decide +kernel
theorem dL_law_1175 : decode code 1175 = .ok (.goto 304, 3) := dA_79.1
theorem dL_law_1178 : decode code 1178 = .ok (.aload_n 1, 1) := dA_79.2.1
theorem dL_law_1179 : decode code 1179 = .ok (.invokevirtual 250, 3) := dA_79.2.2.1
theorem dL_law_1182 : decode code 1182 = .ok (.pop, 1) := dA_79.2.2.2.1
theorem dL_law_1183 : decode code 1183 = .ok (.aload_n 2, 1) := dA_79.2.2.2.2.1
theorem dL_law_1184 : decode code 1184 = .ok (.invokevirtual 253, 3) := dA_79.2.2.2.2.2.1
theorem dL_law_1187 : decode code 1187 = .ok (.pop, 1) := dA_79.2.2.2.2.2.2.1
theorem dL_law_1188 : decode code 1188 = .ok (.goto 291, 3) := dA_79.2.2.2.2.2.2.2
theorem dA_80 : decode code 1191 = .ok (.aload_n 1, 1) ∧ decode code 1192 = .ok (.aload_n 0, 1) ∧ decode code 1193 = .ok (.iload 5, 2) ∧ decode code 1195 = .ok (.iconst 1, 1) ∧ decode code 1196 = .ok (.iadd, 1) ∧ decode code 1197 = .ok (.iaload, 1) ∧ decode code 1198 = .ok (.aload_n 3, 1) ∧ decode code 1199 = .ok (.invokestatic 254, 3) := by decide +kernel
theorem dL_law_1191 : decode code 1191 = .ok (.aload_n 1, 1) := dA_80.1
theorem dL_law_1192 : decode code 1192 = .ok (.aload_n 0, 1) := dA_80.2.1
theorem dL_law_1193 : decode code 1193 = .ok (.iload 5, 2) := dA_80.2.2.1
theorem dL_law_1195 : decode code 1195 = .ok (.iconst 1, 1) := dA_80.2.2.2.1
theorem dL_law_1196 : decode code 1196 = .ok (.iadd, 1) := dA_80.2.2.2.2.1
theorem dL_law_1197 : decode code 1197 = .ok (.iaload, 1) := dA_80.2.2.2.2.2.1
theorem dL_law_1198 : decode code 1198 = .ok (.aload_n 3, 1) := dA_80.2.2.2.2.2.2.1
theorem dL_law_1199 : decode code 1199 = .ok (.invokestatic 254, 3) := dA_80.2.2.2.2.2.2.2
theorem dA_81 : decode code 1202 = .ok (.istore 6, 2) ∧ decode code 1204 = .ok (.aload_n 2, 1) ∧ decode code 1205 = .ok (.aload_n 0, 1) ∧ decode code 1206 = .ok (.iload 5, 2) ∧ decode code 1208 = .ok (.iconst 1, 1) ∧ decode code 1209 = .ok (.iadd, 1) ∧ decode code 1210 = .ok (.iaload, 1) ∧ decode code 1211 = .ok (.invokevirtual 256, 3) := by decide +kernel
theorem dL_law_1202 : decode code 1202 = .ok (.istore 6, 2) := dA_81.1
theorem dL_law_1204 : decode code 1204 = .ok (.aload_n 2, 1) := dA_81.2.1
theorem dL_law_1205 : decode code 1205 = .ok (.aload_n 0, 1) := dA_81.2.2.1
theorem dL_law_1206 : decode code 1206 = .ok (.iload 5, 2) := dA_81.2.2.2.1
theorem dL_law_1208 : decode code 1208 = .ok (.iconst 1, 1) := dA_81.2.2.2.2.1
theorem dL_law_1209 : decode code 1209 = .ok (.iadd, 1) := dA_81.2.2.2.2.2.1
theorem dL_law_1210 : decode code 1210 = .ok (.iaload, 1) := dA_81.2.2.2.2.2.2.1
theorem dL_law_1211 : decode code 1211 = .ok (.invokevirtual 256, 3) := dA_81.2.2.2.2.2.2.2
theorem dA_82 : decode code 1214 = .ok (.istore 7, 2) ∧ decode code 1216 = .ok (.goto 263, 3) ∧ decode code 1219 = .ok (.aload_n 1, 1) ∧ decode code 1220 = .ok (.invokevirtual 257, 3) ∧ decode code 1223 = .ok (.pop, 1) ∧ decode code 1224 = .ok (.aload_n 2, 1) ∧ decode code 1225 = .ok (.invokevirtual 260, 3) ∧ decode code 1228 = .ok (.pop, 1) := by decide +kernel
theorem dL_law_1214 : decode code 1214 = .ok (.istore 7, 2) := dA_82.1
theorem dL_law_1216 : decode code 1216 = .ok (.goto 263, 3) := dA_82.2.1
theorem dL_law_1219 : decode code 1219 = .ok (.aload_n 1, 1) := dA_82.2.2.1
theorem dL_law_1220 : decode code 1220 = .ok (.invokevirtual 257, 3) := dA_82.2.2.2.1
theorem dL_law_1223 : decode code 1223 = .ok (.pop, 1) := dA_82.2.2.2.2.1
theorem dL_law_1224 : decode code 1224 = .ok (.aload_n 2, 1) := dA_82.2.2.2.2.2.1
theorem dL_law_1225 : decode code 1225 = .ok (.invokevirtual 260, 3) := dA_82.2.2.2.2.2.2.1
theorem dL_law_1228 : decode code 1228 = .ok (.pop, 1) := dA_82.2.2.2.2.2.2.2
theorem dA_83 : decode code 1229 = .ok (.goto 250, 3) ∧ decode code 1232 = .ok (.aload_n 1, 1) ∧ decode code 1233 = .ok (.invokevirtual 261, 3) ∧ decode code 1236 = .ok (.pop, 1) ∧ decode code 1237 = .ok (.aload_n 2, 1) ∧ decode code 1238 = .ok (.invokevirtual 264, 3) ∧ decode code 1241 = .ok (.pop, 1) ∧ decode code 1242 = .ok (.goto 237, 3) := by decide +kernel
theorem dL_law_1229 : decode code 1229 = .ok (.goto 250, 3) := dA_83.1
theorem dL_law_1232 : decode code 1232 = .ok (.aload_n 1, 1) := dA_83.2.1
theorem dL_law_1233 : decode code 1233 = .ok (.invokevirtual 261, 3) := dA_83.2.2.1
theorem dL_law_1236 : decode code 1236 = .ok (.pop, 1) := dA_83.2.2.2.1
theorem dL_law_1237 : decode code 1237 = .ok (.aload_n 2, 1) := dA_83.2.2.2.2.1
theorem dL_law_1238 : decode code 1238 = .ok (.invokevirtual 264, 3) := dA_83.2.2.2.2.2.1
theorem dL_law_1241 : decode code 1241 = .ok (.pop, 1) := dA_83.2.2.2.2.2.2.1
theorem dL_law_1242 : decode code 1242 = .ok (.goto 237, 3) := dA_83.2.2.2.2.2.2.2
theorem dA_84 : decode code 1245 = .ok (.aload_n 1, 1) ∧ decode code 1246 = .ok (.invokevirtual 265, 3) ∧ decode code 1249 = .ok (.pop, 1) ∧ decode code 1250 = .ok (.aload_n 2, 1) ∧ decode code 1251 = .ok (.invokevirtual 268, 3) ∧ decode code 1254 = .ok (.pop, 1) ∧ decode code 1255 = .ok (.goto 224, 3) ∧ decode code 1258 = .ok (.aload_n 1, 1) := by decide +kernel
theorem dL_law_1245 : decode code 1245 = .ok (.aload_n 1, 1) := dA_84.1
theorem dL_law_1246 : decode code 1246 = .ok (.invokevirtual 265, 3) := dA_84.2.1
theorem dL_law_1249 : decode code 1249 = .ok (.pop, 1) := dA_84.2.2.1
theorem dL_law_1250 : decode code 1250 = .ok (.aload_n 2, 1) := dA_84.2.2.2.1
theorem dL_law_1251 : decode code 1251 = .ok (.invokevirtual 268, 3) := dA_84.2.2.2.2.1
theorem dL_law_1254 : decode code 1254 = .ok (.pop, 1) := dA_84.2.2.2.2.2.1
theorem dL_law_1255 : decode code 1255 = .ok (.goto 224, 3) := dA_84.2.2.2.2.2.2.1
theorem dL_law_1258 : decode code 1258 = .ok (.aload_n 1, 1) := dA_84.2.2.2.2.2.2.2
theorem dA_85 : decode code 1259 = .ok (.aload 4, 2) ∧ decode code 1261 = .ok (.invokestatic 269, 3) ∧ decode code 1264 = .ok (.istore 6, 2) ∧ decode code 1266 = .ok (.aload_n 2, 1) ∧ decode code 1267 = .ok (.invokevirtual 272, 3) ∧ decode code 1270 = .ok (.dstore 7, 2) ∧ decode code 1272 = .ok (.goto 207, 3) ∧ decode code 1275 = .ok (.aload_n 1, 1) := by decide +kernel
theorem dL_law_1259 : decode code 1259 = .ok (.aload 4, 2) := dA_85.1
theorem dL_law_1261 : decode code 1261 = .ok (.invokestatic 269, 3) := dA_85.2.1
theorem dL_law_1264 : decode code 1264 = .ok (.istore 6, 2) := dA_85.2.2.1
theorem dL_law_1266 : decode code 1266 = .ok (.aload_n 2, 1) := dA_85.2.2.2.1
theorem dL_law_1267 : decode code 1267 = .ok (.invokevirtual 272, 3) := dA_85.2.2.2.2.1
theorem dL_law_1270 : decode code 1270 = .ok (.dstore 7, 2) := dA_85.2.2.2.2.2.1
theorem dL_law_1272 : decode code 1272 = .ok (.goto 207, 3) := dA_85.2.2.2.2.2.2.1
theorem dL_law_1275 : decode code 1275 = .ok (.aload_n 1, 1) := dA_85.2.2.2.2.2.2.2
theorem dA_86 : decode code 1276 = .ok (.aload 4, 2) ∧ decode code 1278 = .ok (.invokestatic 273, 3) ∧ decode code 1281 = .ok (.istore 6, 2) ∧ decode code 1283 = .ok (.aload_n 2, 1) ∧ decode code 1284 = .ok (.invokevirtual 275, 3) ∧ decode code 1287 = .ok (.fstore 7, 2) ∧ decode code 1289 = .ok (.goto 190, 3) ∧ decode code 1292 = .ok (.aload_n 1, 1) := by decide +kernel
theorem dL_law_1276 : decode code 1276 = .ok (.aload 4, 2) := dA_86.1
theorem dL_law_1278 : decode code 1278 = .ok (.invokestatic 273, 3) := dA_86.2.1
theorem dL_law_1281 : decode code 1281 = .ok (.istore 6, 2) := dA_86.2.2.1
theorem dL_law_1283 : decode code 1283 = .ok (.aload_n 2, 1) := dA_86.2.2.2.1
theorem dL_law_1284 : decode code 1284 = .ok (.invokevirtual 275, 3) := dA_86.2.2.2.2.1
theorem dL_law_1287 : decode code 1287 = .ok (.fstore 7, 2) := dA_86.2.2.2.2.2.1
theorem dL_law_1289 : decode code 1289 = .ok (.goto 190, 3) := dA_86.2.2.2.2.2.2.1
theorem dL_law_1292 : decode code 1292 = .ok (.aload_n 1, 1) := dA_86.2.2.2.2.2.2.2
theorem dA_87 : decode code 1293 = .ok (.invokevirtual 276, 3) ∧ decode code 1296 = .ok (.pop, 1) ∧ decode code 1297 = .ok (.aload_n 2, 1) ∧ decode code 1298 = .ok (.invokevirtual 280, 3) ∧ decode code 1301 = .ok (.pop, 1) ∧ decode code 1302 = .ok (.goto 177, 3) ∧ decode code 1305 = .ok (.aload_n 1, 1) ∧ decode code 1306 = .ok (.aload_n 0, 1) := by decide +kernel
theorem dL_law_1293 : decode code 1293 = .ok (.invokevirtual 276, 3) := dA_87.1
theorem dL_law_1296 : decode code 1296 = .ok (.pop, 1) := dA_87.2.1
theorem dL_law_1297 : decode code 1297 = .ok (.aload_n 2, 1) := dA_87.2.2.1
theorem dL_law_1298 : decode code 1298 = .ok (.invokevirtual 280, 3) := dA_87.2.2.2.1
theorem dL_law_1301 : decode code 1301 = .ok (.pop, 1) := dA_87.2.2.2.2.1
theorem dL_law_1302 : decode code 1302 = .ok (.goto 177, 3) := dA_87.2.2.2.2.2.1
theorem dL_law_1305 : decode code 1305 = .ok (.aload_n 1, 1) := dA_87.2.2.2.2.2.2.1
theorem dL_law_1306 : decode code 1306 = .ok (.aload_n 0, 1) := dA_87.2.2.2.2.2.2.2
theorem dA_88 : decode code 1307 = .ok (.iload 5, 2) ∧ decode code 1309 = .ok (.iconst 1, 1) ∧ decode code 1310 = .ok (.iadd, 1) ∧ decode code 1311 = .ok (.iaload, 1) ∧ decode code 1312 = .ok (.i2c, 1) ∧ decode code 1313 = .ok (.aload_n 3, 1) ∧ decode code 1314 = .ok (.invokestatic 281, 3) ∧ decode code 1317 = .ok (.istore 6, 2) := by decide +kernel
theorem dL_law_1307 : decode code 1307 = .ok (.iload 5, 2) := dA_88.1
theorem dL_law_1309 : decode code 1309 = .ok (.iconst 1, 1) := dA_88.2.1
theorem dL_law_1310 : decode code 1310 = .ok (.iadd, 1) := dA_88.2.2.1
theorem dL_law_1311 : decode code 1311 = .ok (.iaload, 1) := dA_88.2.2.2.1
theorem dL_law_1312 : decode code 1312 = .ok (.i2c, 1) := dA_88.2.2.2.2.1
theorem dL_law_1313 : decode code 1313 = .ok (.aload_n 3, 1) := dA_88.2.2.2.2.2.1
theorem dL_law_1314 : decode code 1314 = .ok (.invokestatic 281, 3) := dA_88.2.2.2.2.2.2.1
theorem dL_law_1317 : decode code 1317 = .ok (.istore 6, 2) := dA_88.2.2.2.2.2.2.2
theorem dA_89 : decode code 1319 = .ok (.aload_n 2, 1) ∧ decode code 1320 = .ok (.aload_n 0, 1) ∧ decode code 1321 = .ok (.iload 5, 2) ∧ decode code 1323 = .ok (.iconst 1, 1) ∧ decode code 1324 = .ok (.iadd, 1) ∧ decode code 1325 = .ok (.iaload, 1) ∧ decode code 1326 = .ok (.i2c, 1) ∧ decode code 1327 = .ok (.invokevirtual 284, 3) := by decide +kernel
theorem dL_law_1319 : decode code 1319 = .ok (.aload_n 2, 1) := dA_89.1
theorem dL_law_1320 : decode code 1320 = .ok (.aload_n 0, 1) := dA_89.2.1
theorem dL_law_1321 : decode code 1321 = .ok (.iload 5, 2) := dA_89.2.2.1
theorem dL_law_1323 : decode code 1323 = .ok (.iconst 1, 1) := dA_89.2.2.2.1
theorem dL_law_1324 : decode code 1324 = .ok (.iadd, 1) := dA_89.2.2.2.2.1
theorem dL_law_1325 : decode code 1325 = .ok (.iaload, 1) := dA_89.2.2.2.2.2.1
theorem dL_law_1326 : decode code 1326 = .ok (.i2c, 1) := dA_89.2.2.2.2.2.2.1
theorem dL_law_1327 : decode code 1327 = .ok (.invokevirtual 284, 3) := dA_89.2.2.2.2.2.2.2
theorem dA_90 : decode code 1330 = .ok (.istore 7, 2) ∧ decode code 1332 = .ok (.goto 147, 3) ∧ decode code 1335 = .ok (.aload_n 1, 1) ∧ decode code 1336 = .ok (.aload_n 3, 1) ∧ decode code 1337 = .ok (.invokestatic 285, 3) ∧ decode code 1340 = .ok (.istore 6, 2) ∧ decode code 1342 = .ok (.aload_n 2, 1) ∧ decode code 1343 = .ok (.invokevirtual 288, 3) := by decide +kernel
theorem dL_law_1330 : decode code 1330 = .ok (.istore 7, 2) := dA_90.1
theorem dL_law_1332 : decode code 1332 = .ok (.goto 147, 3) := dA_90.2.1
theorem dL_law_1335 : decode code 1335 = .ok (.aload_n 1, 1) := dA_90.2.2.1
theorem dL_law_1336 : decode code 1336 = .ok (.aload_n 3, 1) := dA_90.2.2.2.1
theorem dL_law_1337 : decode code 1337 = .ok (.invokestatic 285, 3) := dA_90.2.2.2.2.1
theorem dL_law_1340 : decode code 1340 = .ok (.istore 6, 2) := dA_90.2.2.2.2.2.1
theorem dL_law_1342 : decode code 1342 = .ok (.aload_n 2, 1) := dA_90.2.2.2.2.2.2.1
theorem dL_law_1343 : decode code 1343 = .ok (.invokevirtual 288, 3) := dA_90.2.2.2.2.2.2.2
theorem dA_91 : decode code 1346 = .ok (.istore 7, 2) ∧ decode code 1348 = .ok (.goto 131, 3) ∧ decode code 1351 = .ok (.aload_n 1, 1) ∧ decode code 1352 = .ok (.aload_n 3, 1) ∧ decode code 1353 = .ok (.invokestatic 289, 3) ∧ decode code 1356 = .ok (.istore 6, 2) ∧ decode code 1358 = .ok (.aload_n 2, 1) ∧ decode code 1359 = .ok (.invokevirtual 291, 3) := by decide +kernel
theorem dL_law_1346 : decode code 1346 = .ok (.istore 7, 2) := dA_91.1
theorem dL_law_1348 : decode code 1348 = .ok (.goto 131, 3) := dA_91.2.1
theorem dL_law_1351 : decode code 1351 = .ok (.aload_n 1, 1) := dA_91.2.2.1
theorem dL_law_1352 : decode code 1352 = .ok (.aload_n 3, 1) := dA_91.2.2.2.1
theorem dL_law_1353 : decode code 1353 = .ok (.invokestatic 289, 3) := dA_91.2.2.2.2.1
theorem dL_law_1356 : decode code 1356 = .ok (.istore 6, 2) := dA_91.2.2.2.2.2.1
theorem dL_law_1358 : decode code 1358 = .ok (.aload_n 2, 1) := dA_91.2.2.2.2.2.2.1
theorem dL_law_1359 : decode code 1359 = .ok (.invokevirtual 291, 3) := dA_91.2.2.2.2.2.2.2
theorem dA_92 : decode code 1362 = .ok (.istore 7, 2) ∧ decode code 1364 = .ok (.goto 115, 3) ∧ decode code 1367 = .ok (.aload_n 1, 1) ∧ decode code 1368 = .ok (.aload_n 3, 1) ∧ decode code 1369 = .ok (.invokestatic 292, 3) ∧ decode code 1372 = .ok (.istore 6, 2) ∧ decode code 1374 = .ok (.aload_n 2, 1) ∧ decode code 1375 = .ok (.invokevirtual 294, 3) := by decide +kernel
theorem dL_law_1362 : decode code 1362 = .ok (.istore 7, 2) := dA_92.1
theorem dL_law_1364 : decode code 1364 = .ok (.goto 115, 3) := dA_92.2.1
theorem dL_law_1367 : decode code 1367 = .ok (.aload_n 1, 1) := dA_92.2.2.1
theorem dL_law_1368 : decode code 1368 = .ok (.aload_n 3, 1) := dA_92.2.2.2.1
theorem dL_law_1369 : decode code 1369 = .ok (.invokestatic 292, 3) := dA_92.2.2.2.2.1
theorem dL_law_1372 : decode code 1372 = .ok (.istore 6, 2) := dA_92.2.2.2.2.2.1
theorem dL_law_1374 : decode code 1374 = .ok (.aload_n 2, 1) := dA_92.2.2.2.2.2.2.1
theorem dL_law_1375 : decode code 1375 = .ok (.invokevirtual 294, 3) := dA_92.2.2.2.2.2.2.2
theorem dA_93 : decode code 1378 = .ok (.istore 7, 2) ∧ decode code 1380 = .ok (.goto 99, 3) ∧ decode code 1383 = .ok (.aload_n 1, 1) ∧ decode code 1384 = .ok (.aload_n 0, 1) ∧ decode code 1385 = .ok (.iload 5, 2) ∧ decode code 1387 = .ok (.iconst 1, 1) ∧ decode code 1388 = .ok (.iadd, 1) ∧ decode code 1389 = .ok (.iaload, 1) := by decide +kernel
theorem dL_law_1378 : decode code 1378 = .ok (.istore 7, 2) := dA_93.1
theorem dL_law_1380 : decode code 1380 = .ok (.goto 99, 3) := dA_93.2.1
theorem dL_law_1383 : decode code 1383 = .ok (.aload_n 1, 1) := dA_93.2.2.1
theorem dL_law_1384 : decode code 1384 = .ok (.aload_n 0, 1) := dA_93.2.2.2.1
theorem dL_law_1385 : decode code 1385 = .ok (.iload 5, 2) := dA_93.2.2.2.2.1
theorem dL_law_1387 : decode code 1387 = .ok (.iconst 1, 1) := dA_93.2.2.2.2.2.1
theorem dL_law_1388 : decode code 1388 = .ok (.iadd, 1) := dA_93.2.2.2.2.2.2.1
theorem dL_law_1389 : decode code 1389 = .ok (.iaload, 1) := dA_93.2.2.2.2.2.2.2
theorem dA_94 : decode code 1390 = .ok (.aload_n 3, 1) ∧ decode code 1391 = .ok (.invokestatic 295, 3) ∧ decode code 1394 = .ok (.istore 6, 2) ∧ decode code 1396 = .ok (.aload_n 2, 1) ∧ decode code 1397 = .ok (.aload_n 0, 1) ∧ decode code 1398 = .ok (.iload 5, 2) ∧ decode code 1400 = .ok (.iconst 1, 1) ∧ decode code 1401 = .ok (.iadd, 1) := by decide +kernel
theorem dL_law_1390 : decode code 1390 = .ok (.aload_n 3, 1) := dA_94.1
theorem dL_law_1391 : decode code 1391 = .ok (.invokestatic 295, 3) := dA_94.2.1
theorem dL_law_1394 : decode code 1394 = .ok (.istore 6, 2) := dA_94.2.2.1
theorem dL_law_1396 : decode code 1396 = .ok (.aload_n 2, 1) := dA_94.2.2.2.1
theorem dL_law_1397 : decode code 1397 = .ok (.aload_n 0, 1) := dA_94.2.2.2.2.1
theorem dL_law_1398 : decode code 1398 = .ok (.iload 5, 2) := dA_94.2.2.2.2.2.1
theorem dL_law_1400 : decode code 1400 = .ok (.iconst 1, 1) := dA_94.2.2.2.2.2.2.1
theorem dL_law_1401 : decode code 1401 = .ok (.iadd, 1) := dA_94.2.2.2.2.2.2.2
theorem dA_95 : decode code 1402 = .ok (.iaload, 1) ∧ decode code 1403 = .ok (.invokevirtual 297, 3) ∧ decode code 1406 = .ok (.istore 7, 2) ∧ decode code 1408 = .ok (.goto 71, 3) ∧ decode code 1411 = .ok (.aload_n 1, 1) ∧ decode code 1412 = .ok (.aload_n 0, 1) ∧ decode code 1413 = .ok (.iload 5, 2) ∧ decode code 1415 = .ok (.iconst 1, 1) := by decide +kernel
theorem dL_law_1402 : decode code 1402 = .ok (.iaload, 1) := dA_95.1
theorem dL_law_1403 : decode code 1403 = .ok (.invokevirtual 297, 3) := dA_95.2.1
theorem dL_law_1406 : decode code 1406 = .ok (.istore 7, 2) := dA_95.2.2.1
theorem dL_law_1408 : decode code 1408 = .ok (.goto 71, 3) := dA_95.2.2.2.1
theorem dL_law_1411 : decode code 1411 = .ok (.aload_n 1, 1) := dA_95.2.2.2.2.1
theorem dL_law_1412 : decode code 1412 = .ok (.aload_n 0, 1) := dA_95.2.2.2.2.2.1
theorem dL_law_1413 : decode code 1413 = .ok (.iload 5, 2) := dA_95.2.2.2.2.2.2.1
theorem dL_law_1415 : decode code 1415 = .ok (.iconst 1, 1) := dA_95.2.2.2.2.2.2.2
theorem dA_96 : decode code 1416 = .ok (.iadd, 1) ∧ decode code 1417 = .ok (.iaload, 1) ∧ decode code 1418 = .ok (.aload_n 3, 1) ∧ decode code 1419 = .ok (.invokestatic 298, 3) ∧ decode code 1422 = .ok (.istore 6, 2) ∧ decode code 1424 = .ok (.aload_n 2, 1) ∧ decode code 1425 = .ok (.aload_n 0, 1) ∧ decode code 1426 = .ok (.iload 5, 2) := by decide +kernel
theorem dL_law_1416 : decode code 1416 = .ok (.iadd, 1) := dA_96.1
theorem dL_law_1417 : decode code 1417 = .ok (.iaload, 1) := dA_96.2.1
theorem dL_law_1418 : decode code 1418 = .ok (.aload_n 3, 1) := dA_96.2.2.1
theorem dL_law_1419 : decode code 1419 = .ok (.invokestatic 298, 3) := dA_96.2.2.2.1
theorem dL_law_1422 : decode code 1422 = .ok (.istore 6, 2) := dA_96.2.2.2.2.1
theorem dL_law_1424 : decode code 1424 = .ok (.aload_n 2, 1) := dA_96.2.2.2.2.2.1
theorem dL_law_1425 : decode code 1425 = .ok (.aload_n 0, 1) := dA_96.2.2.2.2.2.2.1
theorem dL_law_1426 : decode code 1426 = .ok (.iload 5, 2) := dA_96.2.2.2.2.2.2.2
theorem dA_97 : decode code 1428 = .ok (.iconst 1, 1) ∧ decode code 1429 = .ok (.iadd, 1) ∧ decode code 1430 = .ok (.iaload, 1) ∧ decode code 1431 = .ok (.invokevirtual 300, 3) ∧ decode code 1434 = .ok (.istore 7, 2) ∧ decode code 1436 = .ok (.goto 43, 3) ∧ decode code 1439 = .ok (.aload_n 1, 1) ∧ decode code 1440 = .ok (.aload_n 3, 1) := by decide +kernel
theorem dL_law_1428 : decode code 1428 = .ok (.iconst 1, 1) := dA_97.1
theorem dL_law_1429 : decode code 1429 = .ok (.iadd, 1) := dA_97.2.1
theorem dL_law_1430 : decode code 1430 = .ok (.iaload, 1) := dA_97.2.2.1
theorem dL_law_1431 : decode code 1431 = .ok (.invokevirtual 300, 3) := dA_97.2.2.2.1
theorem dL_law_1434 : decode code 1434 = .ok (.istore 7, 2) := dA_97.2.2.2.2.1
theorem dL_law_1436 : decode code 1436 = .ok (.goto 43, 3) := dA_97.2.2.2.2.2.1
theorem dL_law_1439 : decode code 1439 = .ok (.aload_n 1, 1) := dA_97.2.2.2.2.2.2.1
theorem dL_law_1440 : decode code 1440 = .ok (.aload_n 3, 1) := dA_97.2.2.2.2.2.2.2
theorem dA_98 : decode code 1441 = .ok (.invokestatic 301, 3) ∧ decode code 1444 = .ok (.istore 6, 2) ∧ decode code 1446 = .ok (.aload_n 2, 1) ∧ decode code 1447 = .ok (.invokevirtual 303, 3) ∧ decode code 1450 = .ok (.istore 7, 2) ∧ decode code 1452 = .ok (.goto 27, 3) ∧ decode code 1455 = .ok (.aload_n 1, 1) ∧ decode code 1456 = .ok (.invokevirtual 304, 3) := by decide +kernel
theorem dL_law_1441 : decode code 1441 = .ok (.invokestatic 301, 3) := dA_98.1
theorem dL_law_1444 : decode code 1444 = .ok (.istore 6, 2) := dA_98.2.1
theorem dL_law_1446 : decode code 1446 = .ok (.aload_n 2, 1) := dA_98.2.2.1
theorem dL_law_1447 : decode code 1447 = .ok (.invokevirtual 303, 3) := dA_98.2.2.2.1
theorem dL_law_1450 : decode code 1450 = .ok (.istore 7, 2) := dA_98.2.2.2.2.1
theorem dL_law_1452 : decode code 1452 = .ok (.goto 27, 3) := dA_98.2.2.2.2.2.1
theorem dL_law_1455 : decode code 1455 = .ok (.aload_n 1, 1) := dA_98.2.2.2.2.2.2.1
theorem dL_law_1456 : decode code 1456 = .ok (.invokevirtual 304, 3) := dA_98.2.2.2.2.2.2.2
theorem dA_99 : decode code 1459 = .ok (.aload_n 2, 1) ∧ decode code 1460 = .ok (.invokevirtual 307, 3) ∧ decode code 1463 = .ok (.goto 16, 3) ∧ decode code 1466 = .ok (.aload_n 1, 1) ∧ decode code 1467 = .ok (.invokestatic 308, 3) ∧ decode code 1470 = .ok (.istore 6, 2) ∧ decode code 1472 = .ok (.aload_n 2, 1) ∧ decode code 1473 = .ok (.invokevirtual 311, 3) := by decide +kernel
theorem dL_law_1459 : decode code 1459 = .ok (.aload_n 2, 1) := dA_99.1
theorem dL_law_1460 : decode code 1460 = .ok (.invokevirtual 307, 3) := dA_99.2.1
theorem dL_law_1463 : decode code 1463 = .ok (.goto 16, 3) := dA_99.2.2.1
theorem dL_law_1466 : decode code 1466 = .ok (.aload_n 1, 1) := dA_99.2.2.2.1
theorem dL_law_1467 : decode code 1467 = .ok (.invokestatic 308, 3) := dA_99.2.2.2.2.1
theorem dL_law_1470 : decode code 1470 = .ok (.istore 6, 2) := dA_99.2.2.2.2.2.1
theorem dL_law_1472 : decode code 1472 = .ok (.aload_n 2, 1) := dA_99.2.2.2.2.2.2.1
theorem dL_law_1473 : decode code 1473 = .ok (.invokevirtual 311, 3) := dA_99.2.2.2.2.2.2.2
theorem dA_100 : decode code 1476 = .ok (.goto 3, 3) ∧ decode code 1479 = .ok (.iinc 5 4, 3) ∧ decode code 1482 = .ok (.goto (-1454), 3) ∧ decode code 1485 = .ok (.iconst 1, 1) ∧ decode code 1486 = .ok (.ireturn, 1) := by decide +kernel
theorem dL_law_1476 : decode code 1476 = .ok (.goto 3, 3) := dA_100.1
theorem dL_law_1479 : decode code 1479 = .ok (.iinc 5 4, 3) := dA_100.2.1
theorem dL_law_1482 : decode code 1482 = .ok (.goto (-1454), 3) := dA_100.2.2.1
theorem dL_law_1485 : decode code 1485 = .ok (.iconst 1, 1) := dA_100.2.2.2.1
theorem dL_law_1486 : decode code 1486 = .ok (.ireturn, 1) := dA_100.2.2.2.2
