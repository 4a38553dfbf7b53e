section CXH
/-- a helper of the law: a static method with a table of handlers, that returns an int -/
def CxH (l : Launch) (y : MethodName) (b : ByteArray) (L : Nat) (hh : List (Nat × Nat × Nat × Nat)) (fr mc ms lo : Nat) (D : va_G) (aT : Nat → ClassId) (As : List Value) (Wd : va_W) (post : Int32 → va_W → Prop) : Prop :=
  ∀ sz, Met l y (Cond.codeWith y b L (some .int) hh :: gw) (cxR fr mc ms lo) (va_Pc As (cxB1 D aT Wd sz)) (qI D aT post (va_A Wd sz)) mc ms (va_A Wd sz)
theorem CxH.of {l : Launch} {D : va_G} {aT : Nat → ClassId} {y : MethodName} {b : ByteArray} {L : Nat} {hh : List (Nat × Nat × Nat × Nat)} {fr mc ms lo : Nat} {As : List Value} {Wd : va_W} {post : Int32 → va_W → Prop} (own : String) (hy : plainName y.cls = true) (hcls : y.cls = own) (hL : (lg_sl As).length ≤ L)
    (body : ∀ (p : Program) (e : Env) (s : State) (m : MethodId) (below : List Frame) (meth : Method) (c : Code) (A : Nat → Prop) (ls : Array Slot), CxX p c b s As.toArray m D aT own → c.maxLocals = L → lv_has ls L (lv_args 0 As) → (∀ q, s.heap.size ≤ q → A q) → meth.sig.returnType = some .int → meth.locks = false → c.exceptionTable.toList = tableOf hh → cZ A s s.heap → CxB D Wd A s.heap s.heap [] →
      W p l e (cxR fr mc ms lo) s m As.toArray below meth c s.heap [] 0 0 (MQ below (qI D aT post A) As.toArray s mc ms A) (F0 m 0 ls [])) : CxH l y b L hh fr mc ms lo D aT As Wd post := by
  intro sz
  refine va_MetW (cc := b) (maxL := L) (ret := some .int) (hh := hh) hy rfl ?_
  intro p e s m args below meth c s₁ B hml hv
  obtain ⟨rfl, hsz, hP, hK, hD0, hZ⟩ := hv
  have hts := atoms_spec (ws := Cond.codeWith y b L (some .int) hh :: gw) B.pre
  have hown : s.vm.findClass y.cls = some m.cls := findClass_of_methodNamed B.named
  rw [hcls] at hown
  subst hsz
  have hl := lv_entry As (n := L) hL
  rw [lg_entry_eq]
  exact body p e s m below meth c _ _ ⟨B.exec, B.bytes, fun w hw => hts w (List.mem_cons_of_mem _ hw), hown, hK⟩ hml hl (fun q h => Or.inr h) B.returns B.notSynchronized (vx_table (x := y) B (hts _ List.mem_cons_self)) hZ ⟨hP, hD0.self (sz := s.heap.size), va_S.rf⟩
variable {p : Program} {l : Launch} {e : Env} {R : Room} {s : State} {m : MethodId} {args : Array Value} {below : List Frame} {meth : Method} {c : Code} {H : Heap} {locs : List Loc} {cells slots : Nat} {Q : State → Prop} {cc : ByteArray} {pc : Nat} {ls : Array Slot} {rest : List Value} {D : va_G} {aT : Nat → ClassId} {Wd : va_W} {A : Nat → Prop} {H0 : Heap} {own : String} {a nL mc ms : Nat}
theorem cx_nil (h : va_S A H0 H locs) : CxB D [] A H0 H locs := ⟨fun k q hq => by simp at hq, ⟨fun i j x y hx => by simp at hx, fun k q hq => by simp at hq⟩, h⟩
theorem cx_iretM (C : CxX p c cc s args m D aT own) (hr : meth.sig.returnType = some .int) (hlocks : meth.locks = false) {post : Int32 → va_W → Prop} {v : Int32} (hW : CxB D Wd A s.heap H locs) (hc : cells ≤ mc ∧ slots ≤ ms) (hq : post v Wd) (hdg : decode cc pc = .ok (.ireturn, 1)) : W p l e R s m args below meth c H locs cells slots (MQ below (qI D aT post A) args s mc ms A) (F0 m pc ls [.int v]) := by
  obtain ⟨hx, hb, hg, hown, hK⟩ := C
  refine W.widen (k := mc) (n := ms) hc.1 hc.2 ?_
  exact W.zret (v := v) hx hb hr rfl (fun t ht hW' => ⟨⟨v, Wd, rfl, hq, by rw [ht]; exact hW.1, va_K.moved hW'.alike hK, hW.2.1⟩, hW.2.2.F ht⟩) hW.2.2.2.2 hdg hlocks
/-- caught by the table's first row -/
theorem cx_catch (C : CxX p c cc s args m D aT own) (hZ : cZ A s s.heap) {E : String} {ce : Cell} {q9 : Addr} (x : ExceptionTableEntry) (suf : List ExceptionTableEntry) (htb : c.exceptionTable.toList = x :: suf) (hx : covers x pc = true) (h0 : x.catchType ≠ 0) (hlk : Cond.classLink own x.catchType E ∈ gw) (hcast : Cond.castable E E ∈ nw) (hS : va_S A s.heap H locs) (hcell : H[q9]? = some ce) (hv : ce.vm = .none) (hcl : s.vm.findClass E = some ce.cls) (kk : CxB D [] A s.heap H locs → W p l e R s m args below meth c H locs cells slots Q (F0 m x.handlerPc ls [.ref q9])) : vx_W p l e R s m args below meth c H locs cells slots Q (F0 m pc ls rest) q9 :=
  vx_catch C.2.2.2.1 [] x suf htb (fun z hz => by cases hz) hx h0 (C.2.2.1 _ hlk) (va_Nw.use (nw_tab hcast) (hZ.1 _ hcast)) hcell hv hcl (kk (cx_nil hS))
/-- a call of a helper -/
theorem cx_runH {y : MethodName} {b : ByteArray} {L : Nat} {hh : List (Nat × Nat × Nat × Nat)} {fr mc1 ms1 lo idx n : Nat} {As st : List Value} {Wc : va_W} {post : Int32 → va_W → Prop} (C : CxX p c cc s args m D aT own) (hml : c.maxLocals = nL) (hls : ls.size = nL) (hZ : cZ A s s.heap) (hW : CxB D Wd A s.heap H locs) (hA : ∀ q, s.heap.size ≤ q → A q) (hM : CxH l y b L hh fr mc1 ms1 lo D aT As Wc post)
    (hT : GoodIn gw (va_wsS own idx y (Cond.codeWith y b L (some .int) hh :: gw))) (hd : y.cls ≠ "java/lang/invoke/MethodHandle" ∧ y.cls ≠ "java/lang/invoke/VarHandle" ∧ (parseMethodDescriptor y.desc).map (fun d => d.parameters.length) = some n) (hn : As.length = n)
    (hR : fr + 1 ≤ R.frames ∧ 8 + (L + 11) + lo ≤ R.locals) (hcs : cells + mc1 ≤ R.cells ∧ slots + ms1 ≤ R.slots) (is : List Nat) (his : is.map (fun i => Wd[i]?) = Wc.map some) (hnd : va_nd is = true)
    (hst : st = As.reverse ++ rest) (hw : (rest.map fun v => v.category).sum ≤ 8) (hdg : decode cc pc = .ok (.invokestatic idx, 3)) : va_Run p l e R s m args below meth c H locs cells slots mc1 ms1 (F0 m pc ls st) rest (qI D aT post (va_A Wc H.size) As.toArray) (va_A Wc H.size) := by
  have C' := C
  obtain ⟨hx, hb, hg, hown, hK⟩ := C
  subst hst
  exact vx_runSW (As := As) (rest := rest) ⟨hx, hb, hml, hown, hg⟩ (hM H.size) (vx_cwSW n hg hT rfl rfl rfl hd hR) ⟨cx_blind _ _, fun U hU hw => ⟨rfl, cx_sub C' hZ hW hA is his hnd hU hw⟩⟩ rfl hn hls rfl (lv_room hw) hdg hcs
theorem cx_callh {L mc1 ms1 : Nat} {st : List Value} {Wc Wr : va_W} {a' : Array Value} {post : Int32 → va_W → Prop} (hr : va_Run p l e R s m args below meth c H locs cells slots mc1 ms1 (F0 m pc ls st) rest (qI D aT post (va_A Wc H.size) a') (va_A Wc H.size)) (hW : CxB D Wd A s.heap H locs) (hA : ∀ q, s.heap.size ≤ q → A q) (is isR : List Nat) (his : is.map (fun i => Wd[i]?) = Wc.map some) (hR : isR.map (fun i => Wd[i]?) = Wr.map some) (hn : va_nd isR = true) (hdis : ∀ i ∈ isR, i ∉ is)
    (kk : ∀ (r : Int32) (W1 : va_W) (H1 : Heap) (locs1 : List Loc), post r W1 → CxB D (Wr ++ W1) A s.heap H1 locs1 → W p l e R s m args below meth c H1 locs1 (cells + mc1) (slots + ms1) Q (F0 m (pc + 3) ls (.int r :: rest))) : W p l e R s m args below meth c H locs cells slots Q (F0 m pc ls st) := by
  have hF := va_free hW.2.1 hW.2.2 hA is his
  exact va_calli hr hW.2.2 (fun q _ h => hF q h) hF (fun r u t H1 locs1 ht _ hp hB _ hk hS1 => kk r u H1 locs1 hp (cx_back hW hA is isR his hR hn hdis ht hB hk hS1))
theorem gdSW {own : String} {idx : Nat} {y : MethodName} {b : ByteArray} {L : Nat} {ret : Option FieldType} {hh : List (Nat × Nat × Nat × Nat)} (h1 : Cond.methodLink own idx y ∈ gw) (h2 : Cond.static y ∈ gw) (h4 : Cond.initialized y.cls ∈ gw) (h5 : Cond.codeWith y b L ret hh ∈ gw) : GoodIn gw (va_wsS own idx y (Cond.codeWith y b L ret hh :: gw)) := by
  intro w hw
  have h : w ∈ gw := by
    unfold va_wsS at hw
    simp only [List.cons_append, List.nil_append, List.mem_cons] at hw
    rcases hw with rfl | rfl | rfl | rfl | hw
    · exact h1
    · exact h2
    · exact h4
    · exact h5
    · exact hw
  exact ⟨h, gw_good w h⟩
end CXH
theorem dL_addHedge_0 : decode cL_addHedge 0 = .ok (.aload 4, 2) := by decide +kernel
theorem dL_addHedge_2 : decode cL_addHedge 2 = .ok (.iconst 0, 1) := by decide +kernel
theorem dL_addHedge_3 : decode cL_addHedge 3 = .ok (.aload_n 0, 1) := by decide +kernel
theorem dL_addHedge_4 : decode cL_addHedge 4 = .ok (.iload_n 1, 1) := by decide +kernel
theorem dL_addHedge_5 : decode cL_addHedge 5 = .ok (.iload_n 2, 1) := by decide +kernel
theorem dL_addHedge_6 : decode cL_addHedge 6 = .ok (.iload_n 3, 1) := by decide +kernel
theorem dL_addHedge_7 : decode cL_addHedge 7 = .ok (.invokevirtual 7, 3) := by decide +kernel
theorem dL_addHedge_10 : decode cL_addHedge 10 = .ok (.i2l, 1) := by decide +kernel
theorem dL_addHedge_11 : decode cL_addHedge 11 = .ok (.lastore, 1) := by decide +kernel
theorem dL_addHedge_12 : decode cL_addHedge 12 = .ok (.goto 11, 3) := by decide +kernel
theorem dL_addHedge_15 : decode cL_addHedge 15 = .ok (.astore 5, 2) := by decide +kernel
theorem dL_addHedge_17 : decode cL_addHedge 17 = .ok (.iconst 1, 1) := by decide +kernel
theorem dL_addHedge_18 : decode cL_addHedge 18 = .ok (.ireturn, 1) := by decide +kernel
theorem dL_addHedge_19 : decode cL_addHedge 19 = .ok (.astore 5, 2) := by decide +kernel
theorem dL_addHedge_21 : decode cL_addHedge 21 = .ok (.iconst 2, 1) := by decide +kernel
theorem dL_addHedge_22 : decode cL_addHedge 22 = .ok (.ireturn, 1) := by decide +kernel
theorem dL_addHedge_23 : decode cL_addHedge 23 = .ok (.iconst 0, 1) := by decide +kernel
theorem dL_addHedge_24 : decode cL_addHedge 24 = .ok (.ireturn, 1) := by decide +kernel
theorem gV_L_X9_addHedge_7 : GoodIn gw (wsV RL 7 RX9 yX9_addHedge (Cond.code yX9_addHedge cX9_addHedge 5 (some .int) :: gw)) := gdV gw_548 gw_549 gw_550 gw_67 gw_551
theorem hV_X9_addHedge : yX9_addHedge.cls = RX9 ∧ yX9_addHedge.cls ≠ "java/lang/invoke/MethodHandle" ∧ yX9_addHedge.cls ≠ "java/lang/invoke/VarHandle" ∧ (parseMethodDescriptor yX9_addHedge.desc).map (fun d => d.parameters.length) = some 3 := ⟨rfl, by decide +kernel, by decide +kernel, by decide +kernel⟩
set_option maxHeartbeats 2000000 in
set_option maxRecDepth 20000 in
theorem k_L_addHedge (l : Launch) (hfl : l.stackTraces = false) (D : va_G) (aT : Nat → ClassId) (u0 : Nat) (x0 : Nat) (v0 : Nat) (h0 : Nat) (t0 : Nat) (p0 : Nat) (o0 : Nat) (a0 : Nat) (a1 : Nat) (a5 : Nat) (a10 : Nat) (a2 : Nat) (a3 : Nat) (a4 : Nat) (a6 : Nat) (a7 : Nat) (a8 : Nat) (a9 : Nat) (h1 : Nat) (f : Nat → Option Nat) (b0 : Nat) (b1 : Nat) (b5 : Nat) (b10 : Nat) (b2 : Nat) (b3 : Nat) (b4 : Nat) (b6 : Nat) (b7 : Nat) (b8 : Nat) (b9 : Nat) (x : Int32) (y : Int32) (z : Int32) (hf : f 0 = some b0) (o : Nat → Int64) : CxH l yL_addHedge cL_addHedge 6 [(0, 12, 15, 13), (0, 12, 19, 15)] 8 1 6 147 D aT [.ref x0, .int x, .int y, .int z, .ref u0] [(u0, .inl (aT 2, 1, .inr (.inl o))), (x0, .inr (12, [.ref a0, .ref v0, .ref h0, .ref t0, .ref p0, .ref o0, .int (nI 0), .int (-1), .int (-1)])), (a0, .inr (10, [.ref a1, .ref a5, .ref a10, .int (nI 0), .int (nI 0), .int (nI 0), .int (nI 0), .int (nI 0), .int (nI 0), .int (nI 0), .int (nI 0)])), (a1, .inr (6, [.ref a2, .ref a3, .ref a4, .int (nI 0)])), (a2, .inl (aT 0, 6, .inl (fun _ => nI 0))), (a3, .inl (aT 0, 6, .inl (fun _ => nI 0))), (a4, .inl (aT 0, 6, .inl (fun _ => nI 0))), (a5, .inr (8, [.ref a6, .ref a7, .ref a8, .ref a9, .int (nI 0), .int (nI 0)])), (a6, .inl (aT 0, 12, .inl (fun _ => nI 0))), (a7, .inl (aT 0, 12, .inl (fun _ => nI 0))), (a8, .inl (aT 0, 12, .inl (fun _ => nI 0))), (a9, .inl (aT 0, 12, .inl (fun _ => nI 0))), (a10, .inl (aT 0, 4, .inl (fun _ => nI 0))), (h0, .inr (7, [.ref h1, .int (nI 0)])), (h1, .inl (aT 5, 9, .inr (.inr (.inr (.inr f))))), (b0, .inr (10, [.ref b1, .ref b5, .ref b10, .int (nI 0), .int (nI 0), .int (nI 0), .int (nI 0), .int (nI 0), .int (nI 0), .int (nI 0), .int (nI 0)])), (b1, .inr (6, [.ref b2, .ref b3, .ref b4, .int (nI 0)])), (b2, .inl (aT 0, 6, .inl (fun _ => nI 0))), (b3, .inl (aT 0, 6, .inl (fun _ => nI 0))), (b4, .inl (aT 0, 6, .inl (fun _ => nI 0))), (b5, .inr (8, [.ref b6, .ref b7, .ref b8, .ref b9, .int (nI 0), .int (nI 0)])), (b6, .inl (aT 0, 12, .inl (fun _ => nI 0))), (b7, .inl (aT 0, 12, .inl (fun _ => nI 0))), (b8, .inl (aT 0, 12, .inl (fun _ => nI 0))), (b9, .inl (aT 0, 12, .inl (fun _ => nI 0))), (b10, .inl (aT 0, 4, .inl (fun _ => nI 0)))] (fun r W1 => ((rgB 1 99 x && rgB 0 9 y && rgB 0 9 z) = false ∧ r = nI 1) ∨ ((rgB 1 99 x && rgB 0 9 y && rgB 0 9 z) = true ∧ r = nI 0 ∧ ∃ o : Nat → Int64, o 0 = (nI 0).toInt64 ∧ W1 = [(u0, .inl (aT 2, 1, .inr (.inl o)))])) := by
  refine CxH.of RL (by decide +kernel) rfl (Nat.le_of_ble_eq_true rfl) ?_
  intro p e s m below meth c A ls C hml hl hA hr hlocks htb hZ hW
  have hl : lv_has ls 6 [(0, .ref x0), (1, .int x), (2, .int y), (3, .int z), (4, .ref u0)] := hl
  have hx := C.1
  have hb := C.2.1
  refine lv_aload hx hb dL_addHedge_0 (lv_at hl 4 rfl) ?_
  refine lv_iconst (v := nI 0) hx hb dL_addHedge_2 (by decide) ?_
  refine lv_aload_n hx hb dL_addHedge_3 rfl (lv_at hl 0 rfl) ?_
  refine lv_iload_n hx hb dL_addHedge_4 rfl (lv_at hl 1 rfl) ?_
  refine lv_iload_n hx hb dL_addHedge_5 rfl (lv_at hl 2 rfl) ?_
  refine lv_iload_n hx hb dL_addHedge_6 rfl (lv_at hl 3 rfl) ?_
  refine cx_calli (Wr := [(u0, .inl (aT 2, 1, .inr (.inl o)))]) (cx_runV C hml hl.1 hZ hW hA (As := [.int x, .int y, .int z]) (rest := [.int (nI 0), .ref u0]) (k_X9_addHedge l hfl D aT x0 v0 h0 t0 p0 o0 a0 a1 a5 a10 a2 a3 a4 a6 a7 a8 a9 h1 f b0 b1 b5 b10 b2 b3 b4 b6 b7 b8 b9 x y z hf) gV_L_X9_addHedge_7 hV_X9_addHedge rfl ⟨Nat.le_of_ble_eq_true rfl, Nat.le_of_ble_eq_true rfl⟩ ⟨Nat.le_of_ble_eq_true rfl, Nat.le_of_ble_eq_true rfl⟩ [1, 2, 3, 4, 5, 6, 7, 8, 9, 10, 11, 12, 13, 14, 15, 16, 17, 18, 19, 20, 21, 22, 23, 24, 25] rfl (by decide) 1 12 rfl rfl rfl rfl (Nat.le_of_ble_eq_true rfl) dL_addHedge_7) hW hA [1, 2, 3, 4, 5, 6, 7, 8, 9, 10, 11, 12, 13, 14, 15, 16, 17, 18, 19, 20, 21, 22, 23, 24, 25] [0] rfl rfl (by decide) (by decide) ?_ (fun r_7 W_7 H locs hq hW => ?_)
  · intro E ce q9 H locs hE hS h7 h8 h9
    obtain ⟨hno, rfl⟩ := hE
    refine cx_catch C hZ ⟨0, 12, 15, 13⟩ (tableOf [(0, 12, 19, 15)]) htb (by decide) (by decide) gw_546 nw_561 hS h7 h8 h9 (fun hW => ?_)
    refine lv_astore (lv' := [(5, .ref q9), (0, .ref x0), (1, .int x), (2, .int y), (3, .int z), (4, .ref u0)]) hx hb dL_addHedge_15 hl (by decide) rfl (fun ls hl => ?_)
    refine lv_iconst (v := nI 1) hx hb dL_addHedge_17 (by decide) ?_
    exact cx_iretM C hr hlocks hW ⟨Nat.le_of_ble_eq_true rfl, Nat.le_of_ble_eq_true rfl⟩ (Or.inl ⟨hno, rfl⟩) dL_addHedge_18
  · obtain ⟨hok, rfl⟩ := hq
    have hW := cx_left hW
    have hW : CxB D [(u0, .inl (aT 2, 1, .inr (.inl o)))] A s.heap H _ := hW
    refine lv_i2l (v := ((nI 0)).toInt64) hx hb dL_addHedge_10 rfl ?_
    refine cx_last C hW 0 2 (j := 0) (W1 := [(u0, .inl (aT 2, 1, .inr (.inl (vp_updL o 0 (((nI 0)).toInt64)))))]) rfl rfl rfl (by decide) (by decide) rfl dL_addHedge_11 (fun H locs hW => ?_)
    refine lv_goto (tgt := 23) hx hb dL_addHedge_12 (by decide) ?_
    refine lv_iconst (v := nI 0) hx hb dL_addHedge_23 (by decide) ?_
    exact cx_iretM C hr hlocks hW ⟨Nat.le_of_ble_eq_true rfl, Nat.le_of_ble_eq_true rfl⟩ (Or.inr ⟨hok, rfl, _, rfl, rfl⟩) dL_addHedge_24
theorem dL_propose_0 : decode cL_propose 0 = .ok (.aload_n 3, 1) := by decide +kernel
theorem dL_propose_1 : decode cL_propose 1 = .ok (.iconst 0, 1) := by decide +kernel
theorem dL_propose_2 : decode cL_propose 2 = .ok (.aload_n 0, 1) := by decide +kernel
theorem dL_propose_3 : decode cL_propose 3 = .ok (.iload_n 1, 1) := by decide +kernel
theorem dL_propose_4 : decode cL_propose 4 = .ok (.iload_n 2, 1) := by decide +kernel
theorem dL_propose_5 : decode cL_propose 5 = .ok (.invokevirtual 17, 3) := by decide +kernel
theorem dL_propose_8 : decode cL_propose 8 = .ok (.i2l, 1) := by decide +kernel
theorem dL_propose_9 : decode cL_propose 9 = .ok (.lastore, 1) := by decide +kernel
theorem dL_propose_10 : decode cL_propose 10 = .ok (.goto 11, 3) := by decide +kernel
theorem dL_propose_13 : decode cL_propose 13 = .ok (.astore 4, 2) := by decide +kernel
theorem dL_propose_15 : decode cL_propose 15 = .ok (.iconst 1, 1) := by decide +kernel
theorem dL_propose_16 : decode cL_propose 16 = .ok (.ireturn, 1) := by decide +kernel
theorem dL_propose_17 : decode cL_propose 17 = .ok (.astore 4, 2) := by decide +kernel
theorem dL_propose_19 : decode cL_propose 19 = .ok (.iconst 2, 1) := by decide +kernel
theorem dL_propose_20 : decode cL_propose 20 = .ok (.ireturn, 1) := by decide +kernel
theorem dL_propose_21 : decode cL_propose 21 = .ok (.iconst 0, 1) := by decide +kernel
theorem dL_propose_22 : decode cL_propose 22 = .ok (.ireturn, 1) := by decide +kernel
theorem gV_L_X9_propose_17 : GoodIn gw (wsV RL 17 RX9 yX9_propose (Cond.code yX9_propose cX9_propose 4 (some .int) :: gw)) := gdV gw_658 gw_659 gw_660 gw_67 gw_661
theorem hV_X9_propose : yX9_propose.cls = RX9 ∧ yX9_propose.cls ≠ "java/lang/invoke/MethodHandle" ∧ yX9_propose.cls ≠ "java/lang/invoke/VarHandle" ∧ (parseMethodDescriptor yX9_propose.desc).map (fun d => d.parameters.length) = some 2 := ⟨rfl, by decide +kernel, by decide +kernel, by decide +kernel⟩
set_option maxHeartbeats 2000000 in
set_option maxRecDepth 20000 in
theorem k_L_propose (l : Launch) (hfl : l.stackTraces = false) (D : va_G) (aT : Nat → ClassId) (u0 : Nat) (x0 : Nat) (v0 : Nat) (h0 : Nat) (t0 : Nat) (p0 : Nat) (o0 : Nat) (a0 : Nat) (a1 : Nat) (a5 : Nat) (a10 : Nat) (a2 : Nat) (a3 : Nat) (a4 : Nat) (a6 : Nat) (a7 : Nat) (a8 : Nat) (a9 : Nat) (h1 : Nat) (f : Nat → Option Nat) (b0 : Nat) (b1 : Nat) (b5 : Nat) (b10 : Nat) (b2 : Nat) (b3 : Nat) (b4 : Nat) (b6 : Nat) (b7 : Nat) (b8 : Nat) (b9 : Nat) (x : Int32) (y : Int32) (hf : f 0 = some b0) (o : Nat → Int64) : CxH l yL_propose cL_propose 5 [(0, 10, 13, 13), (0, 10, 17, 15)] 9 1 6 156 D aT [.ref x0, .int x, .int y, .ref u0] [(u0, .inl (aT 2, 1, .inr (.inl o))), (x0, .inr (12, [.ref a0, .ref v0, .ref h0, .ref t0, .ref p0, .ref o0, .int (nI 0), .int (-1), .int (-1)])), (a0, .inr (10, [.ref a1, .ref a5, .ref a10, .int (nI 0), .int (nI 0), .int (nI 0), .int (nI 0), .int (nI 0), .int (nI 0), .int (nI 0), .int (nI 0)])), (a1, .inr (6, [.ref a2, .ref a3, .ref a4, .int (nI 0)])), (a2, .inl (aT 0, 6, .inl (fun _ => nI 0))), (a3, .inl (aT 0, 6, .inl (fun _ => nI 0))), (a4, .inl (aT 0, 6, .inl (fun _ => nI 0))), (a5, .inr (8, [.ref a6, .ref a7, .ref a8, .ref a9, .int (nI 0), .int (nI 0)])), (a6, .inl (aT 0, 12, .inl (fun _ => nI 0))), (a7, .inl (aT 0, 12, .inl (fun _ => nI 0))), (a8, .inl (aT 0, 12, .inl (fun _ => nI 0))), (a9, .inl (aT 0, 12, .inl (fun _ => nI 0))), (a10, .inl (aT 0, 4, .inl (fun _ => nI 0))), (h0, .inr (7, [.ref h1, .int (nI 0)])), (h1, .inl (aT 5, 9, .inr (.inr (.inr (.inr f))))), (b0, .inr (10, [.ref b1, .ref b5, .ref b10, .int (nI 0), .int (nI 0), .int (nI 0), .int (nI 0), .int (nI 0), .int (nI 0), .int (nI 0), .int (nI 0)])), (b1, .inr (6, [.ref b2, .ref b3, .ref b4, .int (nI 0)])), (b2, .inl (aT 0, 6, .inl (fun _ => nI 0))), (b3, .inl (aT 0, 6, .inl (fun _ => nI 0))), (b4, .inl (aT 0, 6, .inl (fun _ => nI 0))), (b5, .inr (8, [.ref b6, .ref b7, .ref b8, .ref b9, .int (nI 0), .int (nI 0)])), (b6, .inl (aT 0, 12, .inl (fun _ => nI 0))), (b7, .inl (aT 0, 12, .inl (fun _ => nI 0))), (b8, .inl (aT 0, 12, .inl (fun _ => nI 0))), (b9, .inl (aT 0, 12, .inl (fun _ => nI 0))), (b10, .inl (aT 0, 4, .inl (fun _ => nI 0)))] (fun r W1 => ((rgB 0 9 x && rgB 1 20 y) = false ∧ r = nI 1) ∨ ((rgB 0 9 x && rgB 1 20 y) = true ∧ r = nI 0 ∧ ∃ o : Nat → Int64, o 0 = (nI 0).toInt64 ∧ W1 = [(u0, .inl (aT 2, 1, .inr (.inl o)))])) := by
  refine CxH.of RL (by decide +kernel) rfl (Nat.le_of_ble_eq_true rfl) ?_
  intro p e s m below meth c A ls C hml hl hA hr hlocks htb hZ hW
  have hl : lv_has ls 5 [(0, .ref x0), (1, .int x), (2, .int y), (3, .ref u0)] := hl
  have hx := C.1
  have hb := C.2.1
  refine lv_aload_n hx hb dL_propose_0 rfl (lv_at hl 3 rfl) ?_
  refine lv_iconst (v := nI 0) hx hb dL_propose_1 (by decide) ?_
  refine lv_aload_n hx hb dL_propose_2 rfl (lv_at hl 0 rfl) ?_
  refine lv_iload_n hx hb dL_propose_3 rfl (lv_at hl 1 rfl) ?_
  refine lv_iload_n hx hb dL_propose_4 rfl (lv_at hl 2 rfl) ?_
  refine cx_calli (Wr := [(u0, .inl (aT 2, 1, .inr (.inl o)))]) (cx_runV C hml hl.1 hZ hW hA (As := [.int x, .int y]) (rest := [.int (nI 0), .ref u0]) (k_X9_propose l hfl D aT x0 v0 h0 t0 p0 o0 a0 a1 a5 a10 a2 a3 a4 a6 a7 a8 a9 h1 f b0 b1 b5 b10 b2 b3 b4 b6 b7 b8 b9 x y hf) gV_L_X9_propose_17 hV_X9_propose rfl ⟨Nat.le_of_ble_eq_true rfl, Nat.le_of_ble_eq_true rfl⟩ ⟨Nat.le_of_ble_eq_true rfl, Nat.le_of_ble_eq_true rfl⟩ [1, 2, 3, 4, 5, 6, 7, 8, 9, 10, 11, 12, 13, 14, 15, 16, 17, 18, 19, 20, 21, 22, 23, 24, 25] rfl (by decide) 1 12 rfl rfl rfl rfl (Nat.le_of_ble_eq_true rfl) dL_propose_5) hW hA [1, 2, 3, 4, 5, 6, 7, 8, 9, 10, 11, 12, 13, 14, 15, 16, 17, 18, 19, 20, 21, 22, 23, 24, 25] [0] rfl rfl (by decide) (by decide) ?_ (fun r_5 W_5 H locs hq hW => ?_)
  · intro E ce q9 H locs hE hS h7 h8 h9
    obtain ⟨hno, rfl⟩ := hE
    refine cx_catch C hZ ⟨0, 10, 13, 13⟩ (tableOf [(0, 10, 17, 15)]) htb (by decide) (by decide) gw_546 nw_561 hS h7 h8 h9 (fun hW => ?_)
    refine lv_astore (lv' := [(4, .ref q9), (0, .ref x0), (1, .int x), (2, .int y), (3, .ref u0)]) hx hb dL_propose_13 hl (by decide) rfl (fun ls hl => ?_)
    refine lv_iconst (v := nI 1) hx hb dL_propose_15 (by decide) ?_
    exact cx_iretM C hr hlocks hW ⟨Nat.le_of_ble_eq_true rfl, Nat.le_of_ble_eq_true rfl⟩ (Or.inl ⟨hno, rfl⟩) dL_propose_16
  · obtain ⟨hok, rfl⟩ := hq
    have hW := cx_left hW
    have hW : CxB D [(u0, .inl (aT 2, 1, .inr (.inl o)))] A s.heap H _ := hW
    refine lv_i2l (v := ((nI 0)).toInt64) hx hb dL_propose_8 rfl ?_
    refine cx_last C hW 0 2 (j := 0) (W1 := [(u0, .inl (aT 2, 1, .inr (.inl (vp_updL o 0 (((nI 0)).toInt64)))))]) rfl rfl rfl (by decide) (by decide) rfl dL_propose_9 (fun H locs hW => ?_)
    refine lv_goto (tgt := 21) hx hb dL_propose_10 (by decide) ?_
    refine lv_iconst (v := nI 0) hx hb dL_propose_21 (by decide) ?_
    exact cx_iretM C hr hlocks hW ⟨Nat.le_of_ble_eq_true rfl, Nat.le_of_ble_eq_true rfl⟩ (Or.inr ⟨hok, rfl, _, rfl, rfl⟩) dL_propose_22
theorem dL_amend_0 : decode cL_amend 0 = .ok (.aload 4, 2) := by decide +kernel
theorem dL_amend_2 : decode cL_amend 2 = .ok (.iconst 0, 1) := by decide +kernel
theorem dL_amend_3 : decode cL_amend 3 = .ok (.aload_n 0, 1) := by decide +kernel
theorem dL_amend_4 : decode cL_amend 4 = .ok (.iload_n 1, 1) := by decide +kernel
theorem dL_amend_5 : decode cL_amend 5 = .ok (.iload_n 2, 1) := by decide +kernel
theorem dL_amend_6 : decode cL_amend 6 = .ok (.iload_n 3, 1) := by decide +kernel
theorem dL_amend_7 : decode cL_amend 7 = .ok (.invokevirtual 21, 3) := by decide +kernel
theorem dL_amend_10 : decode cL_amend 10 = .ok (.i2l, 1) := by decide +kernel
theorem dL_amend_11 : decode cL_amend 11 = .ok (.lastore, 1) := by decide +kernel
theorem dL_amend_12 : decode cL_amend 12 = .ok (.goto 15, 3) := by decide +kernel
theorem dL_amend_15 : decode cL_amend 15 = .ok (.astore 5, 2) := by decide +kernel
theorem dL_amend_17 : decode cL_amend 17 = .ok (.iconst 1, 1) := by decide +kernel
theorem dL_amend_18 : decode cL_amend 18 = .ok (.ireturn, 1) := by decide +kernel
theorem dL_amend_19 : decode cL_amend 19 = .ok (.astore 5, 2) := by decide +kernel
theorem dL_amend_21 : decode cL_amend 21 = .ok (.iconst 2, 1) := by decide +kernel
theorem dL_amend_22 : decode cL_amend 22 = .ok (.ireturn, 1) := by decide +kernel
theorem dL_amend_23 : decode cL_amend 23 = .ok (.astore 5, 2) := by decide +kernel
theorem dL_amend_25 : decode cL_amend 25 = .ok (.iconst 3, 1) := by decide +kernel
theorem dL_amend_26 : decode cL_amend 26 = .ok (.ireturn, 1) := by decide +kernel
theorem dL_amend_27 : decode cL_amend 27 = .ok (.iconst 0, 1) := by decide +kernel
theorem dL_amend_28 : decode cL_amend 28 = .ok (.ireturn, 1) := by decide +kernel
theorem gV_L_X9_amend_21 : GoodIn gw (wsV RL 21 RX9 yX9_amend (Cond.code yX9_amend cX9_amend 5 (some .int) :: gw)) := gdV gw_691 gw_692 gw_693 gw_67 gw_694
theorem hV_X9_amend : yX9_amend.cls = RX9 ∧ yX9_amend.cls ≠ "java/lang/invoke/MethodHandle" ∧ yX9_amend.cls ≠ "java/lang/invoke/VarHandle" ∧ (parseMethodDescriptor yX9_amend.desc).map (fun d => d.parameters.length) = some 3 := ⟨rfl, by decide +kernel, by decide +kernel, by decide +kernel⟩
set_option maxHeartbeats 2000000 in
set_option maxRecDepth 20000 in
theorem k_L_amend (l : Launch) (hfl : l.stackTraces = false) (D : va_G) (aT : Nat → ClassId) (u0 : Nat) (x0 : Nat) (v0 : Nat) (h0 : Nat) (t0 : Nat) (p0 : Nat) (o0 : Nat) (a0 : Nat) (a1 : Nat) (a5 : Nat) (a10 : Nat) (a2 : Nat) (a3 : Nat) (a4 : Nat) (a6 : Nat) (a7 : Nat) (a8 : Nat) (a9 : Nat) (h1 : Nat) (f : Nat → Option Nat) (b0 : Nat) (b1 : Nat) (b5 : Nat) (b10 : Nat) (b2 : Nat) (b3 : Nat) (b4 : Nat) (b6 : Nat) (b7 : Nat) (b8 : Nat) (b9 : Nat) (x : Int32) (y : Int32) (z : Int32) (hf : f 0 = some b0) (o : Nat → Int64) : CxH l yL_amend cL_amend 6 [(0, 12, 15, 24), (0, 12, 19, 13), (0, 12, 23, 15)] 9 1 6 160 D aT [.ref x0, .int x, .int y, .int z, .ref u0] [(u0, .inl (aT 2, 1, .inr (.inl o))), (x0, .inr (12, [.ref a0, .ref v0, .ref h0, .ref t0, .ref p0, .ref o0, .int (nI 0), .int (-1), .int (-1)])), (a0, .inr (10, [.ref a1, .ref a5, .ref a10, .int (nI 0), .int (nI 0), .int (nI 0), .int (nI 0), .int (nI 0), .int (nI 0), .int (nI 0), .int (nI 0)])), (a1, .inr (6, [.ref a2, .ref a3, .ref a4, .int (nI 0)])), (a2, .inl (aT 0, 6, .inl (fun _ => nI 0))), (a3, .inl (aT 0, 6, .inl (fun _ => nI 0))), (a4, .inl (aT 0, 6, .inl (fun _ => nI 0))), (a5, .inr (8, [.ref a6, .ref a7, .ref a8, .ref a9, .int (nI 0), .int (nI 0)])), (a6, .inl (aT 0, 12, .inl (fun _ => nI 0))), (a7, .inl (aT 0, 12, .inl (fun _ => nI 0))), (a8, .inl (aT 0, 12, .inl (fun _ => nI 0))), (a9, .inl (aT 0, 12, .inl (fun _ => nI 0))), (a10, .inl (aT 0, 4, .inl (fun _ => nI 0))), (h0, .inr (7, [.ref h1, .int (nI 0)])), (h1, .inl (aT 5, 9, .inr (.inr (.inr (.inr f))))), (b0, .inr (10, [.ref b1, .ref b5, .ref b10, .int (nI 0), .int (nI 0), .int (nI 0), .int (nI 0), .int (nI 0), .int (nI 0), .int (nI 0), .int (nI 0)])), (b1, .inr (6, [.ref b2, .ref b3, .ref b4, .int (nI 0)])), (b2, .inl (aT 0, 6, .inl (fun _ => nI 0))), (b3, .inl (aT 0, 6, .inl (fun _ => nI 0))), (b4, .inl (aT 0, 6, .inl (fun _ => nI 0))), (b5, .inr (8, [.ref b6, .ref b7, .ref b8, .ref b9, .int (nI 0), .int (nI 0)])), (b6, .inl (aT 0, 12, .inl (fun _ => nI 0))), (b7, .inl (aT 0, 12, .inl (fun _ => nI 0))), (b8, .inl (aT 0, 12, .inl (fun _ => nI 0))), (b9, .inl (aT 0, 12, .inl (fun _ => nI 0))), (b10, .inl (aT 0, 4, .inl (fun _ => nI 0)))] (fun r W1 => r = nI 1) := by
  refine CxH.of RL (by decide +kernel) rfl (Nat.le_of_ble_eq_true rfl) ?_
  intro p e s m below meth c A ls C hml hl hA hr hlocks htb hZ hW
  have hl : lv_has ls 6 [(0, .ref x0), (1, .int x), (2, .int y), (3, .int z), (4, .ref u0)] := hl
  have hx := C.1
  have hb := C.2.1
  refine lv_aload hx hb dL_amend_0 (lv_at hl 4 rfl) ?_
  refine lv_iconst (v := nI 0) hx hb dL_amend_2 (by decide) ?_
  refine lv_aload_n hx hb dL_amend_3 rfl (lv_at hl 0 rfl) ?_
  refine lv_iload_n hx hb dL_amend_4 rfl (lv_at hl 1 rfl) ?_
  refine lv_iload_n hx hb dL_amend_5 rfl (lv_at hl 2 rfl) ?_
  refine lv_iload_n hx hb dL_amend_6 rfl (lv_at hl 3 rfl) ?_
  refine cx_calli (Wr := [(u0, .inl (aT 2, 1, .inr (.inl o)))]) (cx_runV C hml hl.1 hZ hW hA (As := [.int x, .int y, .int z]) (rest := [.int (nI 0), .ref u0]) (k_X9_amend l hfl D aT x0 v0 h0 t0 p0 o0 a0 a1 a5 a10 a2 a3 a4 a6 a7 a8 a9 h1 f b0 b1 b5 b10 b2 b3 b4 b6 b7 b8 b9 x y z hf) gV_L_X9_amend_21 hV_X9_amend rfl ⟨Nat.le_of_ble_eq_true rfl, Nat.le_of_ble_eq_true rfl⟩ ⟨Nat.le_of_ble_eq_true rfl, Nat.le_of_ble_eq_true rfl⟩ [1, 2, 3, 4, 5, 6, 7, 8, 9, 10, 11, 12, 13, 14, 15, 16, 17, 18, 19, 20, 21, 22, 23, 24, 25] rfl (by decide) 1 12 rfl rfl rfl rfl (Nat.le_of_ble_eq_true rfl) dL_amend_7) hW hA [1, 2, 3, 4, 5, 6, 7, 8, 9, 10, 11, 12, 13, 14, 15, 16, 17, 18, 19, 20, 21, 22, 23, 24, 25] [0] rfl rfl (by decide) (by decide) ?_ (fun r_7 W_7 H locs hq hW => ?_)
  · intro E ce q9 H locs hE hS h7 h8 h9
    have hE : E = _ := hE
    subst hE
    refine cx_catch C hZ ⟨0, 12, 15, 24⟩ (tableOf [(0, 12, 19, 13), (0, 12, 23, 15)]) htb (by decide) (by decide) gw_690 nw_705 hS h7 h8 h9 (fun hW => ?_)
    refine lv_astore (lv' := [(5, .ref q9), (0, .ref x0), (1, .int x), (2, .int y), (3, .int z), (4, .ref u0)]) hx hb dL_amend_15 hl (by decide) rfl (fun ls hl => ?_)
    refine lv_iconst (v := nI 1) hx hb dL_amend_17 (by decide) ?_
    exact cx_iretM C hr hlocks hW ⟨Nat.le_of_ble_eq_true rfl, Nat.le_of_ble_eq_true rfl⟩ (rfl) dL_amend_18
  · exact hq.elim
theorem dL_prune_0 : decode cL_prune 0 = .ok (.aload_n 3, 1) := by decide +kernel
theorem dL_prune_1 : decode cL_prune 1 = .ok (.iconst 0, 1) := by decide +kernel
theorem dL_prune_2 : decode cL_prune 2 = .ok (.aload_n 0, 1) := by decide +kernel
theorem dL_prune_3 : decode cL_prune 3 = .ok (.iload_n 1, 1) := by decide +kernel
theorem dL_prune_4 : decode cL_prune 4 = .ok (.iload_n 2, 1) := by decide +kernel
theorem dL_prune_5 : decode cL_prune 5 = .ok (.invokevirtual 26, 3) := by decide +kernel
theorem dL_prune_8 : decode cL_prune 8 = .ok (.i2l, 1) := by decide +kernel
theorem dL_prune_9 : decode cL_prune 9 = .ok (.lastore, 1) := by decide +kernel
theorem dL_prune_10 : decode cL_prune 10 = .ok (.goto 11, 3) := by decide +kernel
theorem dL_prune_13 : decode cL_prune 13 = .ok (.astore 4, 2) := by decide +kernel
theorem dL_prune_15 : decode cL_prune 15 = .ok (.iconst 1, 1) := by decide +kernel
theorem dL_prune_16 : decode cL_prune 16 = .ok (.ireturn, 1) := by decide +kernel
theorem dL_prune_17 : decode cL_prune 17 = .ok (.astore 4, 2) := by decide +kernel
theorem dL_prune_19 : decode cL_prune 19 = .ok (.iconst 2, 1) := by decide +kernel
theorem dL_prune_20 : decode cL_prune 20 = .ok (.ireturn, 1) := by decide +kernel
theorem dL_prune_21 : decode cL_prune 21 = .ok (.iconst 0, 1) := by decide +kernel
theorem dL_prune_22 : decode cL_prune 22 = .ok (.ireturn, 1) := by decide +kernel
theorem gV_L_X9_prune_26 : GoodIn gw (wsV RL 26 RX9 yX9_prune (Cond.code yX9_prune cX9_prune 4 (some .int) :: gw)) := gdV gw_722 gw_723 gw_724 gw_67 gw_725
theorem hV_X9_prune : yX9_prune.cls = RX9 ∧ yX9_prune.cls ≠ "java/lang/invoke/MethodHandle" ∧ yX9_prune.cls ≠ "java/lang/invoke/VarHandle" ∧ (parseMethodDescriptor yX9_prune.desc).map (fun d => d.parameters.length) = some 2 := ⟨rfl, by decide +kernel, by decide +kernel, by decide +kernel⟩
set_option maxHeartbeats 2000000 in
set_option maxRecDepth 20000 in
theorem k_L_prune (l : Launch) (hfl : l.stackTraces = false) (D : va_G) (aT : Nat → ClassId) (u0 : Nat) (x0 : Nat) (v0 : Nat) (h0 : Nat) (t0 : Nat) (p0 : Nat) (o0 : Nat) (a0 : Nat) (a1 : Nat) (a5 : Nat) (a10 : Nat) (a2 : Nat) (a3 : Nat) (a4 : Nat) (a6 : Nat) (a7 : Nat) (a8 : Nat) (a9 : Nat) (h1 : Nat) (f : Nat → Option Nat) (b0 : Nat) (b1 : Nat) (b5 : Nat) (b10 : Nat) (b2 : Nat) (b3 : Nat) (b4 : Nat) (b6 : Nat) (b7 : Nat) (b8 : Nat) (b9 : Nat) (x : Int32) (y : Int32) (hf : f 0 = some b0) (o : Nat → Int64) : CxH l yL_prune cL_prune 5 [(0, 10, 13, 24), (0, 10, 17, 13)] 9 1 6 161 D aT [.ref x0, .int x, .int y, .ref u0] [(u0, .inl (aT 2, 1, .inr (.inl o))), (x0, .inr (12, [.ref a0, .ref v0, .ref h0, .ref t0, .ref p0, .ref o0, .int (nI 0), .int (-1), .int (-1)])), (a0, .inr (10, [.ref a1, .ref a5, .ref a10, .int (nI 0), .int (nI 0), .int (nI 0), .int (nI 0), .int (nI 0), .int (nI 0), .int (nI 0), .int (nI 0)])), (a1, .inr (6, [.ref a2, .ref a3, .ref a4, .int (nI 0)])), (a2, .inl (aT 0, 6, .inl (fun _ => nI 0))), (a3, .inl (aT 0, 6, .inl (fun _ => nI 0))), (a4, .inl (aT 0, 6, .inl (fun _ => nI 0))), (a5, .inr (8, [.ref a6, .ref a7, .ref a8, .ref a9, .int (nI 0), .int (nI 0)])), (a6, .inl (aT 0, 12, .inl (fun _ => nI 0))), (a7, .inl (aT 0, 12, .inl (fun _ => nI 0))), (a8, .inl (aT 0, 12, .inl (fun _ => nI 0))), (a9, .inl (aT 0, 12, .inl (fun _ => nI 0))), (a10, .inl (aT 0, 4, .inl (fun _ => nI 0))), (h0, .inr (7, [.ref h1, .int (nI 0)])), (h1, .inl (aT 5, 9, .inr (.inr (.inr (.inr f))))), (b0, .inr (10, [.ref b1, .ref b5, .ref b10, .int (nI 0), .int (nI 0), .int (nI 0), .int (nI 0), .int (nI 0), .int (nI 0), .int (nI 0), .int (nI 0)])), (b1, .inr (6, [.ref b2, .ref b3, .ref b4, .int (nI 0)])), (b2, .inl (aT 0, 6, .inl (fun _ => nI 0))), (b3, .inl (aT 0, 6, .inl (fun _ => nI 0))), (b4, .inl (aT 0, 6, .inl (fun _ => nI 0))), (b5, .inr (8, [.ref b6, .ref b7, .ref b8, .ref b9, .int (nI 0), .int (nI 0)])), (b6, .inl (aT 0, 12, .inl (fun _ => nI 0))), (b7, .inl (aT 0, 12, .inl (fun _ => nI 0))), (b8, .inl (aT 0, 12, .inl (fun _ => nI 0))), (b9, .inl (aT 0, 12, .inl (fun _ => nI 0))), (b10, .inl (aT 0, 4, .inl (fun _ => nI 0)))] (fun r W1 => r = nI 1) := by
  refine CxH.of RL (by decide +kernel) rfl (Nat.le_of_ble_eq_true rfl) ?_
  intro p e s m below meth c A ls C hml hl hA hr hlocks htb hZ hW
  have hl : lv_has ls 5 [(0, .ref x0), (1, .int x), (2, .int y), (3, .ref u0)] := hl
  have hx := C.1
  have hb := C.2.1
  refine lv_aload_n hx hb dL_prune_0 rfl (lv_at hl 3 rfl) ?_
  refine lv_iconst (v := nI 0) hx hb dL_prune_1 (by decide) ?_
  refine lv_aload_n hx hb dL_prune_2 rfl (lv_at hl 0 rfl) ?_
  refine lv_iload_n hx hb dL_prune_3 rfl (lv_at hl 1 rfl) ?_
  refine lv_iload_n hx hb dL_prune_4 rfl (lv_at hl 2 rfl) ?_
  refine cx_calli (Wr := [(u0, .inl (aT 2, 1, .inr (.inl o)))]) (cx_runV C hml hl.1 hZ hW hA (As := [.int x, .int y]) (rest := [.int (nI 0), .ref u0]) (k_X9_prune l hfl D aT x0 v0 h0 t0 p0 o0 a0 a1 a5 a10 a2 a3 a4 a6 a7 a8 a9 h1 f b0 b1 b5 b10 b2 b3 b4 b6 b7 b8 b9 x y hf) gV_L_X9_prune_26 hV_X9_prune rfl ⟨Nat.le_of_ble_eq_true rfl, Nat.le_of_ble_eq_true rfl⟩ ⟨Nat.le_of_ble_eq_true rfl, Nat.le_of_ble_eq_true rfl⟩ [1, 2, 3, 4, 5, 6, 7, 8, 9, 10, 11, 12, 13, 14, 15, 16, 17, 18, 19, 20, 21, 22, 23, 24, 25] rfl (by decide) 1 12 rfl rfl rfl rfl (Nat.le_of_ble_eq_true rfl) dL_prune_5) hW hA [1, 2, 3, 4, 5, 6, 7, 8, 9, 10, 11, 12, 13, 14, 15, 16, 17, 18, 19, 20, 21, 22, 23, 24, 25] [0] rfl rfl (by decide) (by decide) ?_ (fun r_5 W_5 H locs hq hW => ?_)
  · intro E ce q9 H locs hE hS h7 h8 h9
    have hE : E = _ := hE
    subst hE
    refine cx_catch C hZ ⟨0, 10, 13, 24⟩ (tableOf [(0, 10, 17, 13)]) htb (by decide) (by decide) gw_690 nw_705 hS h7 h8 h9 (fun hW => ?_)
    refine lv_astore (lv' := [(4, .ref q9), (0, .ref x0), (1, .int x), (2, .int y), (3, .ref u0)]) hx hb dL_prune_13 hl (by decide) rfl (fun ls hl => ?_)
    refine lv_iconst (v := nI 1) hx hb dL_prune_15 (by decide) ?_
    exact cx_iretM C hr hlocks hW ⟨Nat.le_of_ble_eq_true rfl, Nat.le_of_ble_eq_true rfl⟩ (rfl) dL_prune_16
  · exact hq.elim
theorem dL_regrow_0 : decode cL_regrow 0 = .ok (.aload_n 2, 1) := by decide +kernel
theorem dL_regrow_1 : decode cL_regrow 1 = .ok (.iconst 0, 1) := by decide +kernel
theorem dL_regrow_2 : decode cL_regrow 2 = .ok (.aload_n 0, 1) := by decide +kernel
theorem dL_regrow_3 : decode cL_regrow 3 = .ok (.iload_n 1, 1) := by decide +kernel
theorem dL_regrow_4 : decode cL_regrow 4 = .ok (.invokevirtual 29, 3) := by decide +kernel
theorem dL_regrow_7 : decode cL_regrow 7 = .ok (.i2l, 1) := by decide +kernel
theorem dL_regrow_8 : decode cL_regrow 8 = .ok (.lastore, 1) := by decide +kernel
theorem dL_regrow_9 : decode cL_regrow 9 = .ok (.goto 9, 3) := by decide +kernel
theorem dL_regrow_12 : decode cL_regrow 12 = .ok (.astore_n 3, 1) := by decide +kernel
theorem dL_regrow_13 : decode cL_regrow 13 = .ok (.iconst 1, 1) := by decide +kernel
theorem dL_regrow_14 : decode cL_regrow 14 = .ok (.ireturn, 1) := by decide +kernel
theorem dL_regrow_15 : decode cL_regrow 15 = .ok (.astore_n 3, 1) := by decide +kernel
theorem dL_regrow_16 : decode cL_regrow 16 = .ok (.iconst 2, 1) := by decide +kernel
theorem dL_regrow_17 : decode cL_regrow 17 = .ok (.ireturn, 1) := by decide +kernel
theorem dL_regrow_18 : decode cL_regrow 18 = .ok (.iconst 0, 1) := by decide +kernel
theorem dL_regrow_19 : decode cL_regrow 19 = .ok (.ireturn, 1) := by decide +kernel
theorem gV_L_X9_regrow_29 : GoodIn gw (wsV RL 29 RX9 yX9_regrow (Cond.code yX9_regrow cX9_regrow 3 (some .int) :: gw)) := gdV gw_740 gw_741 gw_742 gw_67 gw_743
theorem hV_X9_regrow : yX9_regrow.cls = RX9 ∧ yX9_regrow.cls ≠ "java/lang/invoke/MethodHandle" ∧ yX9_regrow.cls ≠ "java/lang/invoke/VarHandle" ∧ (parseMethodDescriptor yX9_regrow.desc).map (fun d => d.parameters.length) = some 1 := ⟨rfl, by decide +kernel, by decide +kernel, by decide +kernel⟩
set_option maxHeartbeats 2000000 in
set_option maxRecDepth 20000 in
theorem k_L_regrow (l : Launch) (hfl : l.stackTraces = false) (D : va_G) (aT : Nat → ClassId) (u0 : Nat) (x0 : Nat) (v0 : Nat) (h0 : Nat) (t0 : Nat) (p0 : Nat) (o0 : Nat) (a0 : Nat) (a1 : Nat) (a5 : Nat) (a10 : Nat) (a2 : Nat) (a3 : Nat) (a4 : Nat) (a6 : Nat) (a7 : Nat) (a8 : Nat) (a9 : Nat) (h1 : Nat) (f : Nat → Option Nat) (b0 : Nat) (b1 : Nat) (b5 : Nat) (b10 : Nat) (b2 : Nat) (b3 : Nat) (b4 : Nat) (b6 : Nat) (b7 : Nat) (b8 : Nat) (b9 : Nat) (x : Int32) (hf : f 0 = some b0) (o : Nat → Int64) : CxH l yL_regrow cL_regrow 4 [(0, 9, 12, 24), (0, 9, 15, 15)] 9 1 6 157 D aT [.ref x0, .int x, .ref u0] [(u0, .inl (aT 2, 1, .inr (.inl o))), (x0, .inr (12, [.ref a0, .ref v0, .ref h0, .ref t0, .ref p0, .ref o0, .int (nI 0), .int (-1), .int (-1)])), (a0, .inr (10, [.ref a1, .ref a5, .ref a10, .int (nI 0), .int (nI 0), .int (nI 0), .int (nI 0), .int (nI 0), .int (nI 0), .int (nI 0), .int (nI 0)])), (a1, .inr (6, [.ref a2, .ref a3, .ref a4, .int (nI 0)])), (a2, .inl (aT 0, 6, .inl (fun _ => nI 0))), (a3, .inl (aT 0, 6, .inl (fun _ => nI 0))), (a4, .inl (aT 0, 6, .inl (fun _ => nI 0))), (a5, .inr (8, [.ref a6, .ref a7, .ref a8, .ref a9, .int (nI 0), .int (nI 0)])), (a6, .inl (aT 0, 12, .inl (fun _ => nI 0))), (a7, .inl (aT 0, 12, .inl (fun _ => nI 0))), (a8, .inl (aT 0, 12, .inl (fun _ => nI 0))), (a9, .inl (aT 0, 12, .inl (fun _ => nI 0))), (a10, .inl (aT 0, 4, .inl (fun _ => nI 0))), (h0, .inr (7, [.ref h1, .int (nI 0)])), (h1, .inl (aT 5, 9, .inr (.inr (.inr (.inr f))))), (b0, .inr (10, [.ref b1, .ref b5, .ref b10, .int (nI 0), .int (nI 0), .int (nI 0), .int (nI 0), .int (nI 0), .int (nI 0), .int (nI 0), .int (nI 0)])), (b1, .inr (6, [.ref b2, .ref b3, .ref b4, .int (nI 0)])), (b2, .inl (aT 0, 6, .inl (fun _ => nI 0))), (b3, .inl (aT 0, 6, .inl (fun _ => nI 0))), (b4, .inl (aT 0, 6, .inl (fun _ => nI 0))), (b5, .inr (8, [.ref b6, .ref b7, .ref b8, .ref b9, .int (nI 0), .int (nI 0)])), (b6, .inl (aT 0, 12, .inl (fun _ => nI 0))), (b7, .inl (aT 0, 12, .inl (fun _ => nI 0))), (b8, .inl (aT 0, 12, .inl (fun _ => nI 0))), (b9, .inl (aT 0, 12, .inl (fun _ => nI 0))), (b10, .inl (aT 0, 4, .inl (fun _ => nI 0)))] (fun r W1 => r = nI 1) := by
  refine CxH.of RL (by decide +kernel) rfl (Nat.le_of_ble_eq_true rfl) ?_
  intro p e s m below meth c A ls C hml hl hA hr hlocks htb hZ hW
  have hl : lv_has ls 4 [(0, .ref x0), (1, .int x), (2, .ref u0)] := hl
  have hx := C.1
  have hb := C.2.1
  refine lv_aload_n hx hb dL_regrow_0 rfl (lv_at hl 2 rfl) ?_
  refine lv_iconst (v := nI 0) hx hb dL_regrow_1 (by decide) ?_
  refine lv_aload_n hx hb dL_regrow_2 rfl (lv_at hl 0 rfl) ?_
  refine lv_iload_n hx hb dL_regrow_3 rfl (lv_at hl 1 rfl) ?_
  refine cx_calli (Wr := [(u0, .inl (aT 2, 1, .inr (.inl o)))]) (cx_runV C hml hl.1 hZ hW hA (As := [.int x]) (rest := [.int (nI 0), .ref u0]) (k_X9_regrow l hfl D aT x0 v0 h0 t0 p0 o0 a0 a1 a5 a10 a2 a3 a4 a6 a7 a8 a9 h1 f b0 b1 b5 b10 b2 b3 b4 b6 b7 b8 b9 x hf) gV_L_X9_regrow_29 hV_X9_regrow rfl ⟨Nat.le_of_ble_eq_true rfl, Nat.le_of_ble_eq_true rfl⟩ ⟨Nat.le_of_ble_eq_true rfl, Nat.le_of_ble_eq_true rfl⟩ [1, 2, 3, 4, 5, 6, 7, 8, 9, 10, 11, 12, 13, 14, 15, 16, 17, 18, 19, 20, 21, 22, 23, 24, 25] rfl (by decide) 1 12 rfl rfl rfl rfl (Nat.le_of_ble_eq_true rfl) dL_regrow_4) hW hA [1, 2, 3, 4, 5, 6, 7, 8, 9, 10, 11, 12, 13, 14, 15, 16, 17, 18, 19, 20, 21, 22, 23, 24, 25] [0] rfl rfl (by decide) (by decide) ?_ (fun r_4 W_4 H locs hq hW => ?_)
  · intro E ce q9 H locs hE hS h7 h8 h9
    have hE : E = _ := hE
    subst hE
    refine cx_catch C hZ ⟨0, 9, 12, 24⟩ (tableOf [(0, 9, 15, 15)]) htb (by decide) (by decide) gw_690 nw_705 hS h7 h8 h9 (fun hW => ?_)
    refine lv_astore_n (lv' := [(3, .ref q9), (0, .ref x0), (1, .int x), (2, .ref u0)]) hx hb dL_regrow_12 rfl hl (by decide) rfl (fun ls hl => ?_)
    refine lv_iconst (v := nI 1) hx hb dL_regrow_13 (by decide) ?_
    exact cx_iretM C hr hlocks hW ⟨Nat.le_of_ble_eq_true rfl, Nat.le_of_ble_eq_true rfl⟩ (rfl) dL_regrow_14
  · exact hq.elim
theorem dL_vote_0 : decode cL_vote 0 = .ok (.aload_n 2, 1) := by decide +kernel
theorem dL_vote_1 : decode cL_vote 1 = .ok (.iconst 0, 1) := by decide +kernel
theorem dL_vote_2 : decode cL_vote 2 = .ok (.aload_n 0, 1) := by decide +kernel
theorem dL_vote_3 : decode cL_vote 3 = .ok (.iload_n 1, 1) := by decide +kernel
theorem dL_vote_4 : decode cL_vote 4 = .ok (.invokevirtual 33, 3) := by decide +kernel
theorem dL_vote_7 : decode cL_vote 7 = .ok (.i2l, 1) := by decide +kernel
theorem dL_vote_8 : decode cL_vote 8 = .ok (.lastore, 1) := by decide +kernel
theorem dL_vote_9 : decode cL_vote 9 = .ok (.goto 9, 3) := by decide +kernel
theorem dL_vote_12 : decode cL_vote 12 = .ok (.astore_n 3, 1) := by decide +kernel
theorem dL_vote_13 : decode cL_vote 13 = .ok (.iconst 1, 1) := by decide +kernel
theorem dL_vote_14 : decode cL_vote 14 = .ok (.ireturn, 1) := by decide +kernel
theorem dL_vote_15 : decode cL_vote 15 = .ok (.astore_n 3, 1) := by decide +kernel
theorem dL_vote_16 : decode cL_vote 16 = .ok (.iconst 2, 1) := by decide +kernel
theorem dL_vote_17 : decode cL_vote 17 = .ok (.ireturn, 1) := by decide +kernel
theorem dL_vote_18 : decode cL_vote 18 = .ok (.iconst 0, 1) := by decide +kernel
theorem dL_vote_19 : decode cL_vote 19 = .ok (.ireturn, 1) := by decide +kernel
theorem gV_L_X9_vote_33 : GoodIn gw (wsV RL 33 RX9 yX9_vote (Cond.code yX9_vote cX9_vote 3 (some .char) :: gw)) := gdV gw_761 gw_762 gw_763 gw_67 gw_764
theorem hV_X9_vote : yX9_vote.cls = RX9 ∧ yX9_vote.cls ≠ "java/lang/invoke/MethodHandle" ∧ yX9_vote.cls ≠ "java/lang/invoke/VarHandle" ∧ (parseMethodDescriptor yX9_vote.desc).map (fun d => d.parameters.length) = some 1 := ⟨rfl, by decide +kernel, by decide +kernel, by decide +kernel⟩
set_option maxHeartbeats 2000000 in
set_option maxRecDepth 20000 in
theorem k_L_vote (l : Launch) (hfl : l.stackTraces = false) (D : va_G) (aT : Nat → ClassId) (u0 : Nat) (x0 : Nat) (v0 : Nat) (h0 : Nat) (t0 : Nat) (p0 : Nat) (o0 : Nat) (a0 : Nat) (a1 : Nat) (a5 : Nat) (a10 : Nat) (a2 : Nat) (a3 : Nat) (a4 : Nat) (a6 : Nat) (a7 : Nat) (a8 : Nat) (a9 : Nat) (h1 : Nat) (f : Nat → Option Nat) (b0 : Nat) (b1 : Nat) (b5 : Nat) (b10 : Nat) (b2 : Nat) (b3 : Nat) (b4 : Nat) (b6 : Nat) (b7 : Nat) (b8 : Nat) (b9 : Nat) (x : Int32) (hf : f 0 = some b0) (o : Nat → Int64) : CxH l yL_vote cL_vote 4 [(0, 9, 12, 24), (0, 9, 15, 15)] 9 1 6 157 D aT [.ref x0, .int x, .ref u0] [(u0, .inl (aT 2, 1, .inr (.inl o))), (x0, .inr (12, [.ref a0, .ref v0, .ref h0, .ref t0, .ref p0, .ref o0, .int (nI 0), .int (-1), .int (-1)])), (a0, .inr (10, [.ref a1, .ref a5, .ref a10, .int (nI 0), .int (nI 0), .int (nI 0), .int (nI 0), .int (nI 0), .int (nI 0), .int (nI 0), .int (nI 0)])), (a1, .inr (6, [.ref a2, .ref a3, .ref a4, .int (nI 0)])), (a2, .inl (aT 0, 6, .inl (fun _ => nI 0))), (a3, .inl (aT 0, 6, .inl (fun _ => nI 0))), (a4, .inl (aT 0, 6, .inl (fun _ => nI 0))), (a5, .inr (8, [.ref a6, .ref a7, .ref a8, .ref a9, .int (nI 0), .int (nI 0)])), (a6, .inl (aT 0, 12, .inl (fun _ => nI 0))), (a7, .inl (aT 0, 12, .inl (fun _ => nI 0))), (a8, .inl (aT 0, 12, .inl (fun _ => nI 0))), (a9, .inl (aT 0, 12, .inl (fun _ => nI 0))), (a10, .inl (aT 0, 4, .inl (fun _ => nI 0))), (h0, .inr (7, [.ref h1, .int (nI 0)])), (h1, .inl (aT 5, 9, .inr (.inr (.inr (.inr f))))), (b0, .inr (10, [.ref b1, .ref b5, .ref b10, .int (nI 0), .int (nI 0), .int (nI 0), .int (nI 0), .int (nI 0), .int (nI 0), .int (nI 0), .int (nI 0)])), (b1, .inr (6, [.ref b2, .ref b3, .ref b4, .int (nI 0)])), (b2, .inl (aT 0, 6, .inl (fun _ => nI 0))), (b3, .inl (aT 0, 6, .inl (fun _ => nI 0))), (b4, .inl (aT 0, 6, .inl (fun _ => nI 0))), (b5, .inr (8, [.ref b6, .ref b7, .ref b8, .ref b9, .int (nI 0), .int (nI 0)])), (b6, .inl (aT 0, 12, .inl (fun _ => nI 0))), (b7, .inl (aT 0, 12, .inl (fun _ => nI 0))), (b8, .inl (aT 0, 12, .inl (fun _ => nI 0))), (b9, .inl (aT 0, 12, .inl (fun _ => nI 0))), (b10, .inl (aT 0, 4, .inl (fun _ => nI 0)))] (fun r W1 => r = nI 1) := by
  refine CxH.of RL (by decide +kernel) rfl (Nat.le_of_ble_eq_true rfl) ?_
  intro p e s m below meth c A ls C hml hl hA hr hlocks htb hZ hW
  have hl : lv_has ls 4 [(0, .ref x0), (1, .int x), (2, .ref u0)] := hl
  have hx := C.1
  have hb := C.2.1
  refine lv_aload_n hx hb dL_vote_0 rfl (lv_at hl 2 rfl) ?_
  refine lv_iconst (v := nI 0) hx hb dL_vote_1 (by decide) ?_
  refine lv_aload_n hx hb dL_vote_2 rfl (lv_at hl 0 rfl) ?_
  refine lv_iload_n hx hb dL_vote_3 rfl (lv_at hl 1 rfl) ?_
  refine cx_calli (Wr := [(u0, .inl (aT 2, 1, .inr (.inl o)))]) (cx_runV C hml hl.1 hZ hW hA (As := [.int x]) (rest := [.int (nI 0), .ref u0]) (k_X9_vote l hfl D aT x0 v0 h0 t0 p0 o0 a0 a1 a5 a10 a2 a3 a4 a6 a7 a8 a9 h1 f b0 b1 b5 b10 b2 b3 b4 b6 b7 b8 b9 x hf) gV_L_X9_vote_33 hV_X9_vote rfl ⟨Nat.le_of_ble_eq_true rfl, Nat.le_of_ble_eq_true rfl⟩ ⟨Nat.le_of_ble_eq_true rfl, Nat.le_of_ble_eq_true rfl⟩ [1, 2, 3, 4, 5, 6, 7, 8, 9, 10, 11, 12, 13, 14, 15, 16, 17, 18, 19, 20, 21, 22, 23, 24, 25] rfl (by decide) 1 12 rfl rfl rfl rfl (Nat.le_of_ble_eq_true rfl) dL_vote_4) hW hA [1, 2, 3, 4, 5, 6, 7, 8, 9, 10, 11, 12, 13, 14, 15, 16, 17, 18, 19, 20, 21, 22, 23, 24, 25] [0] rfl rfl (by decide) (by decide) ?_ (fun r_4 W_4 H locs hq hW => ?_)
  · intro E ce q9 H locs hE hS h7 h8 h9
    have hE : E = _ := hE
    subst hE
    refine cx_catch C hZ ⟨0, 9, 12, 24⟩ (tableOf [(0, 9, 15, 15)]) htb (by decide) (by decide) gw_690 nw_705 hS h7 h8 h9 (fun hW => ?_)
    refine lv_astore_n (lv' := [(3, .ref q9), (0, .ref x0), (1, .int x), (2, .ref u0)]) hx hb dL_vote_12 rfl hl (by decide) rfl (fun ls hl => ?_)
    refine lv_iconst (v := nI 1) hx hb dL_vote_13 (by decide) ?_
    exact cx_iretM C hr hlocks hW ⟨Nat.le_of_ble_eq_true rfl, Nat.le_of_ble_eq_true rfl⟩ (rfl) dL_vote_14
  · exact hq.elim
theorem dL_leaves_0 : decode cL_leaves 0 = .ok (.aload_n 2, 1) := by decide +kernel
theorem dL_leaves_1 : decode cL_leaves 1 = .ok (.iconst 0, 1) := by decide +kernel
theorem dL_leaves_2 : decode cL_leaves 2 = .ok (.aload_n 0, 1) := by decide +kernel
theorem dL_leaves_3 : decode cL_leaves 3 = .ok (.iload_n 1, 1) := by decide +kernel
theorem dL_leaves_4 : decode cL_leaves 4 = .ok (.invokevirtual 37, 3) := by decide +kernel
theorem dL_leaves_7 : decode cL_leaves 7 = .ok (.i2l, 1) := by decide +kernel
theorem dL_leaves_8 : decode cL_leaves 8 = .ok (.lastore, 1) := by decide +kernel
theorem dL_leaves_9 : decode cL_leaves 9 = .ok (.goto 6, 3) := by decide +kernel
theorem dL_leaves_12 : decode cL_leaves 12 = .ok (.astore_n 3, 1) := by decide +kernel
theorem dL_leaves_13 : decode cL_leaves 13 = .ok (.iconst 1, 1) := by decide +kernel
theorem dL_leaves_14 : decode cL_leaves 14 = .ok (.ireturn, 1) := by decide +kernel
theorem dL_leaves_15 : decode cL_leaves 15 = .ok (.iconst 0, 1) := by decide +kernel
theorem dL_leaves_16 : decode cL_leaves 16 = .ok (.ireturn, 1) := by decide +kernel
theorem gV_L_X9_leaves_37 : GoodIn gw (wsV RL 37 RX9 yX9_leaves (Cond.code yX9_leaves cX9_leaves 2 (some .int) :: gw)) := gdV gw_823 gw_824 gw_825 gw_67 gw_826
theorem hV_X9_leaves : yX9_leaves.cls = RX9 ∧ yX9_leaves.cls ≠ "java/lang/invoke/MethodHandle" ∧ yX9_leaves.cls ≠ "java/lang/invoke/VarHandle" ∧ (parseMethodDescriptor yX9_leaves.desc).map (fun d => d.parameters.length) = some 1 := ⟨rfl, by decide +kernel, by decide +kernel, by decide +kernel⟩
set_option maxHeartbeats 2000000 in
set_option maxRecDepth 20000 in
theorem k_L_leaves (l : Launch) (hfl : l.stackTraces = false) (D : va_G) (aT : Nat → ClassId) (u0 : Nat) (x0 : Nat) (v0 : Nat) (h0 : Nat) (t0 : Nat) (p0 : Nat) (o0 : Nat) (a0 : Nat) (a1 : Nat) (a5 : Nat) (a10 : Nat) (a2 : Nat) (a3 : Nat) (a4 : Nat) (a6 : Nat) (a7 : Nat) (a8 : Nat) (a9 : Nat) (x : Int32) (o : Nat → Int64) : CxH l yL_leaves cL_leaves 4 [(0, 9, 12, 40)] 8 1 6 132 D aT [.ref x0, .int x, .ref u0] [(u0, .inl (aT 2, 1, .inr (.inl o))), (x0, .inr (12, [.ref a0, .ref v0, .ref h0, .ref t0, .ref p0, .ref o0, .int (nI 0), .int (-1), .int (-1)])), (a0, .inr (10, [.ref a1, .ref a5, .ref a10, .int (nI 0), .int (nI 0), .int (nI 0), .int (nI 0), .int (nI 0), .int (nI 0), .int (nI 0), .int (nI 0)])), (a1, .inr (6, [.ref a2, .ref a3, .ref a4, .int (nI 0)])), (a2, .inl (aT 0, 6, .inl (fun _ => nI 0))), (a3, .inl (aT 0, 6, .inl (fun _ => nI 0))), (a4, .inl (aT 0, 6, .inl (fun _ => nI 0))), (a5, .inr (8, [.ref a6, .ref a7, .ref a8, .ref a9, .int (nI 0), .int (nI 0)])), (a6, .inl (aT 0, 12, .inl (fun _ => nI 0))), (a7, .inl (aT 0, 12, .inl (fun _ => nI 0))), (a8, .inl (aT 0, 12, .inl (fun _ => nI 0))), (a9, .inl (aT 0, 12, .inl (fun _ => nI 0))), (a10, .inl (aT 0, 4, .inl (fun _ => nI 0)))] (fun r W1 => r = nI 1) := by
  refine CxH.of RL (by decide +kernel) rfl (Nat.le_of_ble_eq_true rfl) ?_
  intro p e s m below meth c A ls C hml hl hA hr hlocks htb hZ hW
  have hl : lv_has ls 4 [(0, .ref x0), (1, .int x), (2, .ref u0)] := hl
  have hx := C.1
  have hb := C.2.1
  refine lv_aload_n hx hb dL_leaves_0 rfl (lv_at hl 2 rfl) ?_
  refine lv_iconst (v := nI 0) hx hb dL_leaves_1 (by decide) ?_
  refine lv_aload_n hx hb dL_leaves_2 rfl (lv_at hl 0 rfl) ?_
  refine lv_iload_n hx hb dL_leaves_3 rfl (lv_at hl 1 rfl) ?_
  refine cx_calli (Wr := [(u0, .inl (aT 2, 1, .inr (.inl o)))]) (cx_runV C hml hl.1 hZ hW hA (As := [.int x]) (rest := [.int (nI 0), .ref u0]) (k_X9_leaves l hfl D aT x0 v0 h0 t0 p0 o0 a0 a1 a5 a10 a2 a3 a4 a6 a7 a8 a9 x) gV_L_X9_leaves_37 hV_X9_leaves rfl ⟨Nat.le_of_ble_eq_true rfl, Nat.le_of_ble_eq_true rfl⟩ ⟨Nat.le_of_ble_eq_true rfl, Nat.le_of_ble_eq_true rfl⟩ [1, 2, 3, 4, 5, 6, 7, 8, 9, 10, 11, 12] rfl (by decide) 1 12 rfl rfl rfl rfl (Nat.le_of_ble_eq_true rfl) dL_leaves_4) hW hA [1, 2, 3, 4, 5, 6, 7, 8, 9, 10, 11, 12] [0] rfl rfl (by decide) (by decide) ?_ (fun r_4 W_4 H locs hq hW => ?_)
  · intro E ce q9 H locs hE hS h7 h8 h9
    have hE : E = _ := hE
    subst hE
    refine cx_catch C hZ ⟨0, 9, 12, 40⟩ (tableOf []) htb (by decide) (by decide) gw_799 nw_837 hS h7 h8 h9 (fun hW => ?_)
    refine lv_astore_n (lv' := [(3, .ref q9), (0, .ref x0), (1, .int x), (2, .ref u0)]) hx hb dL_leaves_12 rfl hl (by decide) rfl (fun ls hl => ?_)
    refine lv_iconst (v := nI 1) hx hb dL_leaves_13 (by decide) ?_
    exact cx_iretM C hr hlocks hW ⟨Nat.le_of_ble_eq_true rfl, Nat.le_of_ble_eq_true rfl⟩ (rfl) dL_leaves_14
  · exact hq.elim
theorem dL_thorns_0 : decode cL_thorns 0 = .ok (.aload_n 2, 1) := by decide +kernel
theorem dL_thorns_1 : decode cL_thorns 1 = .ok (.iconst 0, 1) := by decide +kernel
theorem dL_thorns_2 : decode cL_thorns 2 = .ok (.aload_n 0, 1) := by decide +kernel
theorem dL_thorns_3 : decode cL_thorns 3 = .ok (.iload_n 1, 1) := by decide +kernel
theorem dL_thorns_4 : decode cL_thorns 4 = .ok (.invokevirtual 42, 3) := by decide +kernel
theorem dL_thorns_7 : decode cL_thorns 7 = .ok (.i2l, 1) := by decide +kernel
theorem dL_thorns_8 : decode cL_thorns 8 = .ok (.lastore, 1) := by decide +kernel
theorem dL_thorns_9 : decode cL_thorns 9 = .ok (.goto 6, 3) := by decide +kernel
theorem dL_thorns_12 : decode cL_thorns 12 = .ok (.astore_n 3, 1) := by decide +kernel
theorem dL_thorns_13 : decode cL_thorns 13 = .ok (.iconst 1, 1) := by decide +kernel
theorem dL_thorns_14 : decode cL_thorns 14 = .ok (.ireturn, 1) := by decide +kernel
theorem dL_thorns_15 : decode cL_thorns 15 = .ok (.iconst 0, 1) := by decide +kernel
theorem dL_thorns_16 : decode cL_thorns 16 = .ok (.ireturn, 1) := by decide +kernel
theorem gV_L_X9_thorns_42 : GoodIn gw (wsV RL 42 RX9 yX9_thorns (Cond.code yX9_thorns cX9_thorns 2 (some .int) :: gw)) := gdV gw_851 gw_852 gw_853 gw_67 gw_854
theorem hV_X9_thorns : yX9_thorns.cls = RX9 ∧ yX9_thorns.cls ≠ "java/lang/invoke/MethodHandle" ∧ yX9_thorns.cls ≠ "java/lang/invoke/VarHandle" ∧ (parseMethodDescriptor yX9_thorns.desc).map (fun d => d.parameters.length) = some 1 := ⟨rfl, by decide +kernel, by decide +kernel, by decide +kernel⟩
set_option maxHeartbeats 2000000 in
set_option maxRecDepth 20000 in
theorem k_L_thorns (l : Launch) (hfl : l.stackTraces = false) (D : va_G) (aT : Nat → ClassId) (u0 : Nat) (x0 : Nat) (v0 : Nat) (h0 : Nat) (t0 : Nat) (p0 : Nat) (o0 : Nat) (a0 : Nat) (a1 : Nat) (a5 : Nat) (a10 : Nat) (a2 : Nat) (a3 : Nat) (a4 : Nat) (a6 : Nat) (a7 : Nat) (a8 : Nat) (a9 : Nat) (x : Int32) (o : Nat → Int64) : CxH l yL_thorns cL_thorns 4 [(0, 9, 12, 40)] 8 1 6 132 D aT [.ref x0, .int x, .ref u0] [(u0, .inl (aT 2, 1, .inr (.inl o))), (x0, .inr (12, [.ref a0, .ref v0, .ref h0, .ref t0, .ref p0, .ref o0, .int (nI 0), .int (-1), .int (-1)])), (a0, .inr (10, [.ref a1, .ref a5, .ref a10, .int (nI 0), .int (nI 0), .int (nI 0), .int (nI 0), .int (nI 0), .int (nI 0), .int (nI 0), .int (nI 0)])), (a1, .inr (6, [.ref a2, .ref a3, .ref a4, .int (nI 0)])), (a2, .inl (aT 0, 6, .inl (fun _ => nI 0))), (a3, .inl (aT 0, 6, .inl (fun _ => nI 0))), (a4, .inl (aT 0, 6, .inl (fun _ => nI 0))), (a5, .inr (8, [.ref a6, .ref a7, .ref a8, .ref a9, .int (nI 0), .int (nI 0)])), (a6, .inl (aT 0, 12, .inl (fun _ => nI 0))), (a7, .inl (aT 0, 12, .inl (fun _ => nI 0))), (a8, .inl (aT 0, 12, .inl (fun _ => nI 0))), (a9, .inl (aT 0, 12, .inl (fun _ => nI 0))), (a10, .inl (aT 0, 4, .inl (fun _ => nI 0)))] (fun r W1 => r = nI 1) := by
  refine CxH.of RL (by decide +kernel) rfl (Nat.le_of_ble_eq_true rfl) ?_
  intro p e s m below meth c A ls C hml hl hA hr hlocks htb hZ hW
  have hl : lv_has ls 4 [(0, .ref x0), (1, .int x), (2, .ref u0)] := hl
  have hx := C.1
  have hb := C.2.1
  refine lv_aload_n hx hb dL_thorns_0 rfl (lv_at hl 2 rfl) ?_
  refine lv_iconst (v := nI 0) hx hb dL_thorns_1 (by decide) ?_
  refine lv_aload_n hx hb dL_thorns_2 rfl (lv_at hl 0 rfl) ?_
  refine lv_iload_n hx hb dL_thorns_3 rfl (lv_at hl 1 rfl) ?_
  refine cx_calli (Wr := [(u0, .inl (aT 2, 1, .inr (.inl o)))]) (cx_runV C hml hl.1 hZ hW hA (As := [.int x]) (rest := [.int (nI 0), .ref u0]) (k_X9_thorns l hfl D aT x0 v0 h0 t0 p0 o0 a0 a1 a5 a10 a2 a3 a4 a6 a7 a8 a9 x) gV_L_X9_thorns_42 hV_X9_thorns rfl ⟨Nat.le_of_ble_eq_true rfl, Nat.le_of_ble_eq_true rfl⟩ ⟨Nat.le_of_ble_eq_true rfl, Nat.le_of_ble_eq_true rfl⟩ [1, 2, 3, 4, 5, 6, 7, 8, 9, 10, 11, 12] rfl (by decide) 1 12 rfl rfl rfl rfl (Nat.le_of_ble_eq_true rfl) dL_thorns_4) hW hA [1, 2, 3, 4, 5, 6, 7, 8, 9, 10, 11, 12] [0] rfl rfl (by decide) (by decide) ?_ (fun r_4 W_4 H locs hq hW => ?_)
  · intro E ce q9 H locs hE hS h7 h8 h9
    have hE : E = _ := hE
    subst hE
    refine cx_catch C hZ ⟨0, 9, 12, 40⟩ (tableOf []) htb (by decide) (by decide) gw_799 nw_837 hS h7 h8 h9 (fun hW => ?_)
    refine lv_astore_n (lv' := [(3, .ref q9), (0, .ref x0), (1, .int x), (2, .ref u0)]) hx hb dL_thorns_12 rfl hl (by decide) rfl (fun ls hl => ?_)
    refine lv_iconst (v := nI 1) hx hb dL_thorns_13 (by decide) ?_
    exact cx_iretM C hr hlocks hW ⟨Nat.le_of_ble_eq_true rfl, Nat.le_of_ble_eq_true rfl⟩ (rfl) dL_thorns_14
  · exact hq.elim
theorem dL_hedgeAtRank_0 : decode cL_hedgeAtRank 0 = .ok (.aload_n 2, 1) := by decide +kernel
theorem dL_hedgeAtRank_1 : decode cL_hedgeAtRank 1 = .ok (.iconst 0, 1) := by decide +kernel
theorem dL_hedgeAtRank_2 : decode cL_hedgeAtRank 2 = .ok (.aload_n 0, 1) := by decide +kernel
theorem dL_hedgeAtRank_3 : decode cL_hedgeAtRank 3 = .ok (.iload_n 1, 1) := by decide +kernel
theorem dL_hedgeAtRank_4 : decode cL_hedgeAtRank 4 = .ok (.invokevirtual 45, 3) := by decide +kernel
theorem dL_hedgeAtRank_7 : decode cL_hedgeAtRank 7 = .ok (.i2l, 1) := by decide +kernel
theorem dL_hedgeAtRank_8 : decode cL_hedgeAtRank 8 = .ok (.lastore, 1) := by decide +kernel
theorem dL_hedgeAtRank_9 : decode cL_hedgeAtRank 9 = .ok (.goto 6, 3) := by decide +kernel
theorem dL_hedgeAtRank_12 : decode cL_hedgeAtRank 12 = .ok (.astore_n 3, 1) := by decide +kernel
theorem dL_hedgeAtRank_13 : decode cL_hedgeAtRank 13 = .ok (.iconst 1, 1) := by decide +kernel
theorem dL_hedgeAtRank_14 : decode cL_hedgeAtRank 14 = .ok (.ireturn, 1) := by decide +kernel
theorem dL_hedgeAtRank_15 : decode cL_hedgeAtRank 15 = .ok (.iconst 0, 1) := by decide +kernel
theorem dL_hedgeAtRank_16 : decode cL_hedgeAtRank 16 = .ok (.ireturn, 1) := by decide +kernel
theorem gV_L_X9_hedgeAtRank_45 : GoodIn gw (wsV RL 45 RX9 yX9_hedgeAtRank (Cond.code yX9_hedgeAtRank cX9_hedgeAtRank 2 (some .int) :: gw)) := gdV gw_858 gw_859 gw_860 gw_67 gw_861
theorem hV_X9_hedgeAtRank : yX9_hedgeAtRank.cls = RX9 ∧ yX9_hedgeAtRank.cls ≠ "java/lang/invoke/MethodHandle" ∧ yX9_hedgeAtRank.cls ≠ "java/lang/invoke/VarHandle" ∧ (parseMethodDescriptor yX9_hedgeAtRank.desc).map (fun d => d.parameters.length) = some 1 := ⟨rfl, by decide +kernel, by decide +kernel, by decide +kernel⟩
set_option maxHeartbeats 2000000 in
set_option maxRecDepth 20000 in
theorem k_L_hedgeAtRank (l : Launch) (hfl : l.stackTraces = false) (D : va_G) (aT : Nat → ClassId) (u0 : Nat) (x0 : Nat) (v0 : Nat) (h0 : Nat) (t0 : Nat) (p0 : Nat) (o0 : Nat) (a0 : Nat) (a1 : Nat) (a5 : Nat) (a10 : Nat) (a2 : Nat) (a3 : Nat) (a4 : Nat) (a6 : Nat) (a7 : Nat) (a8 : Nat) (a9 : Nat) (x : Int32) (o : Nat → Int64) : CxH l yL_hedgeAtRank cL_hedgeAtRank 4 [(0, 9, 12, 24)] 7 1 6 111 D aT [.ref x0, .int x, .ref u0] [(u0, .inl (aT 2, 1, .inr (.inl o))), (x0, .inr (12, [.ref a0, .ref v0, .ref h0, .ref t0, .ref p0, .ref o0, .int (nI 0), .int (-1), .int (-1)])), (a0, .inr (10, [.ref a1, .ref a5, .ref a10, .int (nI 0), .int (nI 0), .int (nI 0), .int (nI 0), .int (nI 0), .int (nI 0), .int (nI 0), .int (nI 0)])), (a1, .inr (6, [.ref a2, .ref a3, .ref a4, .int (nI 0)])), (a2, .inl (aT 0, 6, .inl (fun _ => nI 0))), (a3, .inl (aT 0, 6, .inl (fun _ => nI 0))), (a4, .inl (aT 0, 6, .inl (fun _ => nI 0))), (a5, .inr (8, [.ref a6, .ref a7, .ref a8, .ref a9, .int (nI 0), .int (nI 0)])), (a6, .inl (aT 0, 12, .inl (fun _ => nI 0))), (a7, .inl (aT 0, 12, .inl (fun _ => nI 0))), (a8, .inl (aT 0, 12, .inl (fun _ => nI 0))), (a9, .inl (aT 0, 12, .inl (fun _ => nI 0))), (a10, .inl (aT 0, 4, .inl (fun _ => nI 0)))] (fun r W1 => r = nI 1) := by
  refine CxH.of RL (by decide +kernel) rfl (Nat.le_of_ble_eq_true rfl) ?_
  intro p e s m below meth c A ls C hml hl hA hr hlocks htb hZ hW
  have hl : lv_has ls 4 [(0, .ref x0), (1, .int x), (2, .ref u0)] := hl
  have hx := C.1
  have hb := C.2.1
  refine lv_aload_n hx hb dL_hedgeAtRank_0 rfl (lv_at hl 2 rfl) ?_
  refine lv_iconst (v := nI 0) hx hb dL_hedgeAtRank_1 (by decide) ?_
  refine lv_aload_n hx hb dL_hedgeAtRank_2 rfl (lv_at hl 0 rfl) ?_
  refine lv_iload_n hx hb dL_hedgeAtRank_3 rfl (lv_at hl 1 rfl) ?_
  refine cx_calli (Wr := [(u0, .inl (aT 2, 1, .inr (.inl o)))]) (cx_runV C hml hl.1 hZ hW hA (As := [.int x]) (rest := [.int (nI 0), .ref u0]) (k_X9_hedgeAtRank l hfl D aT x0 v0 h0 t0 p0 o0 a0 a1 a5 a10 a2 a3 a4 a6 a7 a8 a9 x) gV_L_X9_hedgeAtRank_45 hV_X9_hedgeAtRank rfl ⟨Nat.le_of_ble_eq_true rfl, Nat.le_of_ble_eq_true rfl⟩ ⟨Nat.le_of_ble_eq_true rfl, Nat.le_of_ble_eq_true rfl⟩ [1, 2, 3, 4, 5, 6, 7, 8, 9, 10, 11, 12] rfl (by decide) 1 12 rfl rfl rfl rfl (Nat.le_of_ble_eq_true rfl) dL_hedgeAtRank_4) hW hA [1, 2, 3, 4, 5, 6, 7, 8, 9, 10, 11, 12] [0] rfl rfl (by decide) (by decide) ?_ (fun r_4 W_4 H locs hq hW => ?_)
  · intro E ce q9 H locs hE hS h7 h8 h9
    have hE : E = _ := hE
    subst hE
    refine cx_catch C hZ ⟨0, 9, 12, 24⟩ (tableOf []) htb (by decide) (by decide) gw_690 nw_705 hS h7 h8 h9 (fun hW => ?_)
    refine lv_astore_n (lv' := [(3, .ref q9), (0, .ref x0), (1, .int x), (2, .ref u0)]) hx hb dL_hedgeAtRank_12 rfl hl (by decide) rfl (fun ls hl => ?_)
    refine lv_iconst (v := nI 1) hx hb dL_hedgeAtRank_13 (by decide) ?_
    exact cx_iretM C hr hlocks hW ⟨Nat.le_of_ble_eq_true rfl, Nat.le_of_ble_eq_true rfl⟩ (rfl) dL_hedgeAtRank_14
  · exact hq.elim
theorem dL_leavesInFavour_0 : decode cL_leavesInFavour 0 = .ok (.aload_n 2, 1) := by decide +kernel
theorem dL_leavesInFavour_1 : decode cL_leavesInFavour 1 = .ok (.iconst 0, 1) := by decide +kernel
theorem dL_leavesInFavour_2 : decode cL_leavesInFavour 2 = .ok (.aload_n 0, 1) := by decide +kernel
theorem dL_leavesInFavour_3 : decode cL_leavesInFavour 3 = .ok (.iload_n 1, 1) := by decide +kernel
theorem dL_leavesInFavour_4 : decode cL_leavesInFavour 4 = .ok (.invokevirtual 48, 3) := by decide +kernel
theorem dL_leavesInFavour_7 : decode cL_leavesInFavour 7 = .ok (.i2l, 1) := by decide +kernel
theorem dL_leavesInFavour_8 : decode cL_leavesInFavour 8 = .ok (.lastore, 1) := by decide +kernel
theorem dL_leavesInFavour_9 : decode cL_leavesInFavour 9 = .ok (.goto 6, 3) := by decide +kernel
theorem dL_leavesInFavour_12 : decode cL_leavesInFavour 12 = .ok (.astore_n 3, 1) := by decide +kernel
theorem dL_leavesInFavour_13 : decode cL_leavesInFavour 13 = .ok (.iconst 1, 1) := by decide +kernel
theorem dL_leavesInFavour_14 : decode cL_leavesInFavour 14 = .ok (.ireturn, 1) := by decide +kernel
theorem dL_leavesInFavour_15 : decode cL_leavesInFavour 15 = .ok (.iconst 0, 1) := by decide +kernel
theorem dL_leavesInFavour_16 : decode cL_leavesInFavour 16 = .ok (.ireturn, 1) := by decide +kernel
theorem gV_L_X9_leavesInFavour_48 : GoodIn gw (wsV RL 48 RX9 yX9_leavesInFavour (Cond.code yX9_leavesInFavour cX9_leavesInFavour 3 (some .int) :: gw)) := gdV gw_880 gw_881 gw_882 gw_67 gw_883
theorem hV_X9_leavesInFavour : yX9_leavesInFavour.cls = RX9 ∧ yX9_leavesInFavour.cls ≠ "java/lang/invoke/MethodHandle" ∧ yX9_leavesInFavour.cls ≠ "java/lang/invoke/VarHandle" ∧ (parseMethodDescriptor yX9_leavesInFavour.desc).map (fun d => d.parameters.length) = some 1 := ⟨rfl, by decide +kernel, by decide +kernel, by decide +kernel⟩
set_option maxHeartbeats 2000000 in
set_option maxRecDepth 20000 in
theorem k_L_leavesInFavour (l : Launch) (hfl : l.stackTraces = false) (D : va_G) (aT : Nat → ClassId) (u0 : Nat) (x0 : Nat) (v0 : Nat) (h0 : Nat) (t0 : Nat) (p0 : Nat) (o0 : Nat) (a0 : Nat) (a1 : Nat) (a5 : Nat) (a10 : Nat) (a2 : Nat) (a3 : Nat) (a4 : Nat) (a6 : Nat) (a7 : Nat) (a8 : Nat) (a9 : Nat) (x : Int32) (o : Nat → Int64) : CxH l yL_leavesInFavour cL_leavesInFavour 4 [(0, 9, 12, 24)] 8 1 6 134 D aT [.ref x0, .int x, .ref u0] [(u0, .inl (aT 2, 1, .inr (.inl o))), (x0, .inr (12, [.ref a0, .ref v0, .ref h0, .ref t0, .ref p0, .ref o0, .int (nI 0), .int (-1), .int (-1)])), (a0, .inr (10, [.ref a1, .ref a5, .ref a10, .int (nI 0), .int (nI 0), .int (nI 0), .int (nI 0), .int (nI 0), .int (nI 0), .int (nI 0), .int (nI 0)])), (a1, .inr (6, [.ref a2, .ref a3, .ref a4, .int (nI 0)])), (a2, .inl (aT 0, 6, .inl (fun _ => nI 0))), (a3, .inl (aT 0, 6, .inl (fun _ => nI 0))), (a4, .inl (aT 0, 6, .inl (fun _ => nI 0))), (a5, .inr (8, [.ref a6, .ref a7, .ref a8, .ref a9, .int (nI 0), .int (nI 0)])), (a6, .inl (aT 0, 12, .inl (fun _ => nI 0))), (a7, .inl (aT 0, 12, .inl (fun _ => nI 0))), (a8, .inl (aT 0, 12, .inl (fun _ => nI 0))), (a9, .inl (aT 0, 12, .inl (fun _ => nI 0))), (a10, .inl (aT 0, 4, .inl (fun _ => nI 0)))] (fun r W1 => r = nI 1) := by
  refine CxH.of RL (by decide +kernel) rfl (Nat.le_of_ble_eq_true rfl) ?_
  intro p e s m below meth c A ls C hml hl hA hr hlocks htb hZ hW
  have hl : lv_has ls 4 [(0, .ref x0), (1, .int x), (2, .ref u0)] := hl
  have hx := C.1
  have hb := C.2.1
  refine lv_aload_n hx hb dL_leavesInFavour_0 rfl (lv_at hl 2 rfl) ?_
  refine lv_iconst (v := nI 0) hx hb dL_leavesInFavour_1 (by decide) ?_
  refine lv_aload_n hx hb dL_leavesInFavour_2 rfl (lv_at hl 0 rfl) ?_
  refine lv_iload_n hx hb dL_leavesInFavour_3 rfl (lv_at hl 1 rfl) ?_
  refine cx_calli (Wr := [(u0, .inl (aT 2, 1, .inr (.inl o)))]) (cx_runV C hml hl.1 hZ hW hA (As := [.int x]) (rest := [.int (nI 0), .ref u0]) (k_X9_leavesInFavour l hfl D aT x0 v0 h0 t0 p0 o0 a0 a1 a5 a10 a2 a3 a4 a6 a7 a8 a9 x) gV_L_X9_leavesInFavour_48 hV_X9_leavesInFavour rfl ⟨Nat.le_of_ble_eq_true rfl, Nat.le_of_ble_eq_true rfl⟩ ⟨Nat.le_of_ble_eq_true rfl, Nat.le_of_ble_eq_true rfl⟩ [1, 2, 3, 4, 5, 6, 7, 8, 9, 10, 11, 12] rfl (by decide) 1 12 rfl rfl rfl rfl (Nat.le_of_ble_eq_true rfl) dL_leavesInFavour_4) hW hA [1, 2, 3, 4, 5, 6, 7, 8, 9, 10, 11, 12] [0] rfl rfl (by decide) (by decide) ?_ (fun r_4 W_4 H locs hq hW => ?_)
  · intro E ce q9 H locs hE hS h7 h8 h9
    have hE : E = _ := hE
    subst hE
    refine cx_catch C hZ ⟨0, 9, 12, 24⟩ (tableOf []) htb (by decide) (by decide) gw_690 nw_705 hS h7 h8 h9 (fun hW => ?_)
    refine lv_astore_n (lv' := [(3, .ref q9), (0, .ref x0), (1, .int x), (2, .ref u0)]) hx hb dL_leavesInFavour_12 rfl hl (by decide) rfl (fun ls hl => ?_)
    refine lv_iconst (v := nI 1) hx hb dL_leavesInFavour_13 (by decide) ?_
    exact cx_iretM C hr hlocks hW ⟨Nat.le_of_ble_eq_true rfl, Nat.le_of_ble_eq_true rfl⟩ (rfl) dL_leavesInFavour_14
  · exact hq.elim
theorem dL_wouldVeto_0 : decode cL_wouldVeto 0 = .ok (.aload_n 3, 1) := by decide +kernel
theorem dL_wouldVeto_1 : decode cL_wouldVeto 1 = .ok (.iconst 0, 1) := by decide +kernel
theorem dL_wouldVeto_2 : decode cL_wouldVeto 2 = .ok (.aload_n 0, 1) := by decide +kernel
theorem dL_wouldVeto_3 : decode cL_wouldVeto 3 = .ok (.iload_n 1, 1) := by decide +kernel
theorem dL_wouldVeto_4 : decode cL_wouldVeto 4 = .ok (.iload_n 2, 1) := by decide +kernel
theorem dL_wouldVeto_5 : decode cL_wouldVeto 5 = .ok (.invokevirtual 51, 3) := by decide +kernel
theorem dL_wouldVeto_8 : decode cL_wouldVeto 8 = .ok (.ifCond .eq 7, 3) := by decide +kernel
theorem dL_wouldVeto_11 : decode cL_wouldVeto 11 = .ok (.lconst 1, 1) := by decide +kernel
theorem dL_wouldVeto_12 : decode cL_wouldVeto 12 = .ok (.goto 4, 3) := by decide +kernel
theorem dL_wouldVeto_15 : decode cL_wouldVeto 15 = .ok (.lconst 0, 1) := by decide +kernel
theorem dL_wouldVeto_16 : decode cL_wouldVeto 16 = .ok (.lastore, 1) := by decide +kernel
theorem dL_wouldVeto_17 : decode cL_wouldVeto 17 = .ok (.goto 11, 3) := by decide +kernel
theorem dL_wouldVeto_20 : decode cL_wouldVeto 20 = .ok (.astore 4, 2) := by decide +kernel
theorem dL_wouldVeto_22 : decode cL_wouldVeto 22 = .ok (.iconst 1, 1) := by decide +kernel
theorem dL_wouldVeto_23 : decode cL_wouldVeto 23 = .ok (.ireturn, 1) := by decide +kernel
theorem dL_wouldVeto_24 : decode cL_wouldVeto 24 = .ok (.astore 4, 2) := by decide +kernel
theorem dL_wouldVeto_26 : decode cL_wouldVeto 26 = .ok (.iconst 2, 1) := by decide +kernel
theorem dL_wouldVeto_27 : decode cL_wouldVeto 27 = .ok (.ireturn, 1) := by decide +kernel
theorem dL_wouldVeto_28 : decode cL_wouldVeto 28 = .ok (.iconst 0, 1) := by decide +kernel
theorem dL_wouldVeto_29 : decode cL_wouldVeto 29 = .ok (.ireturn, 1) := by decide +kernel
theorem gV_L_X9_wouldVeto_51 : GoodIn gw (wsV RL 51 RX9 yX9_wouldVeto (Cond.code yX9_wouldVeto cX9_wouldVeto 4 (some .boolean) :: gw)) := gdV gw_889 gw_890 gw_891 gw_67 gw_892
theorem hV_X9_wouldVeto : yX9_wouldVeto.cls = RX9 ∧ yX9_wouldVeto.cls ≠ "java/lang/invoke/MethodHandle" ∧ yX9_wouldVeto.cls ≠ "java/lang/invoke/VarHandle" ∧ (parseMethodDescriptor yX9_wouldVeto.desc).map (fun d => d.parameters.length) = some 2 := ⟨rfl, by decide +kernel, by decide +kernel, by decide +kernel⟩
set_option maxHeartbeats 2000000 in
set_option maxRecDepth 20000 in
theorem k_L_wouldVeto (l : Launch) (hfl : l.stackTraces = false) (D : va_G) (aT : Nat → ClassId) (u0 : Nat) (x0 : Nat) (v0 : Nat) (h0 : Nat) (t0 : Nat) (p0 : Nat) (o0 : Nat) (a0 : Nat) (a1 : Nat) (a5 : Nat) (a10 : Nat) (a2 : Nat) (a3 : Nat) (a4 : Nat) (a6 : Nat) (a7 : Nat) (a8 : Nat) (a9 : Nat) (x : Int32) (y : Int32) (o : Nat → Int64) : CxH l yL_wouldVeto cL_wouldVeto 5 [(0, 17, 20, 40), (0, 17, 24, 24)] 8 1 6 134 D aT [.ref x0, .int x, .int y, .ref u0] [(u0, .inl (aT 2, 1, .inr (.inl o))), (x0, .inr (12, [.ref a0, .ref v0, .ref h0, .ref t0, .ref p0, .ref o0, .int (nI 0), .int (-1), .int (-1)])), (a0, .inr (10, [.ref a1, .ref a5, .ref a10, .int (nI 0), .int (nI 0), .int (nI 0), .int (nI 0), .int (nI 0), .int (nI 0), .int (nI 0), .int (nI 0)])), (a1, .inr (6, [.ref a2, .ref a3, .ref a4, .int (nI 0)])), (a2, .inl (aT 0, 6, .inl (fun _ => nI 0))), (a3, .inl (aT 0, 6, .inl (fun _ => nI 0))), (a4, .inl (aT 0, 6, .inl (fun _ => nI 0))), (a5, .inr (8, [.ref a6, .ref a7, .ref a8, .ref a9, .int (nI 0), .int (nI 0)])), (a6, .inl (aT 0, 12, .inl (fun _ => nI 0))), (a7, .inl (aT 0, 12, .inl (fun _ => nI 0))), (a8, .inl (aT 0, 12, .inl (fun _ => nI 0))), (a9, .inl (aT 0, 12, .inl (fun _ => nI 0))), (a10, .inl (aT 0, 4, .inl (fun _ => nI 0)))] (fun r W1 => r = nI 1) := by
  refine CxH.of RL (by decide +kernel) rfl (Nat.le_of_ble_eq_true rfl) ?_
  intro p e s m below meth c A ls C hml hl hA hr hlocks htb hZ hW
  have hl : lv_has ls 5 [(0, .ref x0), (1, .int x), (2, .int y), (3, .ref u0)] := hl
  have hx := C.1
  have hb := C.2.1
  refine lv_aload_n hx hb dL_wouldVeto_0 rfl (lv_at hl 3 rfl) ?_
  refine lv_iconst (v := nI 0) hx hb dL_wouldVeto_1 (by decide) ?_
  refine lv_aload_n hx hb dL_wouldVeto_2 rfl (lv_at hl 0 rfl) ?_
  refine lv_iload_n hx hb dL_wouldVeto_3 rfl (lv_at hl 1 rfl) ?_
  refine lv_iload_n hx hb dL_wouldVeto_4 rfl (lv_at hl 2 rfl) ?_
  refine cx_calli (Wr := [(u0, .inl (aT 2, 1, .inr (.inl o)))]) (cx_runV C hml hl.1 hZ hW hA (As := [.int x, .int y]) (rest := [.int (nI 0), .ref u0]) (k_X9_wouldVeto l hfl D aT x0 v0 h0 t0 p0 o0 a0 a1 a5 a10 a2 a3 a4 a6 a7 a8 a9 x y) gV_L_X9_wouldVeto_51 hV_X9_wouldVeto rfl ⟨Nat.le_of_ble_eq_true rfl, Nat.le_of_ble_eq_true rfl⟩ ⟨Nat.le_of_ble_eq_true rfl, Nat.le_of_ble_eq_true rfl⟩ [1, 2, 3, 4, 5, 6, 7, 8, 9, 10, 11, 12] rfl (by decide) 1 12 rfl rfl rfl rfl (Nat.le_of_ble_eq_true rfl) dL_wouldVeto_5) hW hA [1, 2, 3, 4, 5, 6, 7, 8, 9, 10, 11, 12] [0] rfl rfl (by decide) (by decide) ?_ (fun r_5 W_5 H locs hq hW => ?_)
  · intro E ce q9 H locs hE hS h7 h8 h9
    have hE : E = _ := hE
    subst hE
    refine cx_catch C hZ ⟨0, 17, 20, 40⟩ (tableOf [(0, 17, 24, 24)]) htb (by decide) (by decide) gw_799 nw_837 hS h7 h8 h9 (fun hW => ?_)
    refine lv_astore (lv' := [(4, .ref q9), (0, .ref x0), (1, .int x), (2, .int y), (3, .ref u0)]) hx hb dL_wouldVeto_20 hl (by decide) rfl (fun ls hl => ?_)
    refine lv_iconst (v := nI 1) hx hb dL_wouldVeto_22 (by decide) ?_
    exact cx_iretM C hr hlocks hW ⟨Nat.le_of_ble_eq_true rfl, Nat.le_of_ble_eq_true rfl⟩ (rfl) dL_wouldVeto_23
  · exact hq.elim
theorem dL_motionAt_0 : decode cL_motionAt 0 = .ok (.aload_n 2, 1) := by decide +kernel
theorem dL_motionAt_1 : decode cL_motionAt 1 = .ok (.iconst 0, 1) := by decide +kernel
theorem dL_motionAt_2 : decode cL_motionAt 2 = .ok (.aload_n 0, 1) := by decide +kernel
theorem dL_motionAt_3 : decode cL_motionAt 3 = .ok (.iload_n 1, 1) := by decide +kernel
theorem dL_motionAt_4 : decode cL_motionAt 4 = .ok (.invokevirtual 55, 3) := by decide +kernel
theorem dL_motionAt_7 : decode cL_motionAt 7 = .ok (.i2l, 1) := by decide +kernel
theorem dL_motionAt_8 : decode cL_motionAt 8 = .ok (.lastore, 1) := by decide +kernel
theorem dL_motionAt_9 : decode cL_motionAt 9 = .ok (.goto 6, 3) := by decide +kernel
theorem dL_motionAt_12 : decode cL_motionAt 12 = .ok (.astore_n 3, 1) := by decide +kernel
theorem dL_motionAt_13 : decode cL_motionAt 13 = .ok (.iconst 1, 1) := by decide +kernel
theorem dL_motionAt_14 : decode cL_motionAt 14 = .ok (.ireturn, 1) := by decide +kernel
theorem dL_motionAt_15 : decode cL_motionAt 15 = .ok (.iconst 0, 1) := by decide +kernel
theorem dL_motionAt_16 : decode cL_motionAt 16 = .ok (.ireturn, 1) := by decide +kernel
theorem gV_L_X9_motionAt_55 : GoodIn gw (wsV RL 55 RX9 yX9_motionAt (Cond.code yX9_motionAt cX9_motionAt 2 (some .int) :: gw)) := gdV gw_897 gw_898 gw_899 gw_67 gw_900
theorem hV_X9_motionAt : yX9_motionAt.cls = RX9 ∧ yX9_motionAt.cls ≠ "java/lang/invoke/MethodHandle" ∧ yX9_motionAt.cls ≠ "java/lang/invoke/VarHandle" ∧ (parseMethodDescriptor yX9_motionAt.desc).map (fun d => d.parameters.length) = some 1 := ⟨rfl, by decide +kernel, by decide +kernel, by decide +kernel⟩
set_option maxHeartbeats 2000000 in
set_option maxRecDepth 20000 in
theorem k_L_motionAt (l : Launch) (hfl : l.stackTraces = false) (D : va_G) (aT : Nat → ClassId) (u0 : Nat) (x0 : Nat) (v0 : Nat) (h0 : Nat) (t0 : Nat) (p0 : Nat) (o0 : Nat) (a0 : Nat) (a1 : Nat) (a5 : Nat) (a10 : Nat) (a2 : Nat) (a3 : Nat) (a4 : Nat) (a6 : Nat) (a7 : Nat) (a8 : Nat) (a9 : Nat) (x : Int32) (o : Nat → Int64) : CxH l yL_motionAt cL_motionAt 4 [(0, 9, 12, 40)] 8 1 6 132 D aT [.ref x0, .int x, .ref u0] [(u0, .inl (aT 2, 1, .inr (.inl o))), (x0, .inr (12, [.ref a0, .ref v0, .ref h0, .ref t0, .ref p0, .ref o0, .int (nI 0), .int (-1), .int (-1)])), (a0, .inr (10, [.ref a1, .ref a5, .ref a10, .int (nI 0), .int (nI 0), .int (nI 0), .int (nI 0), .int (nI 0), .int (nI 0), .int (nI 0), .int (nI 0)])), (a1, .inr (6, [.ref a2, .ref a3, .ref a4, .int (nI 0)])), (a2, .inl (aT 0, 6, .inl (fun _ => nI 0))), (a3, .inl (aT 0, 6, .inl (fun _ => nI 0))), (a4, .inl (aT 0, 6, .inl (fun _ => nI 0))), (a5, .inr (8, [.ref a6, .ref a7, .ref a8, .ref a9, .int (nI 0), .int (nI 0)])), (a6, .inl (aT 0, 12, .inl (fun _ => nI 0))), (a7, .inl (aT 0, 12, .inl (fun _ => nI 0))), (a8, .inl (aT 0, 12, .inl (fun _ => nI 0))), (a9, .inl (aT 0, 12, .inl (fun _ => nI 0))), (a10, .inl (aT 0, 4, .inl (fun _ => nI 0)))] (fun r W1 => r = nI 1) := by
  refine CxH.of RL (by decide +kernel) rfl (Nat.le_of_ble_eq_true rfl) ?_
  intro p e s m below meth c A ls C hml hl hA hr hlocks htb hZ hW
  have hl : lv_has ls 4 [(0, .ref x0), (1, .int x), (2, .ref u0)] := hl
  have hx := C.1
  have hb := C.2.1
  refine lv_aload_n hx hb dL_motionAt_0 rfl (lv_at hl 2 rfl) ?_
  refine lv_iconst (v := nI 0) hx hb dL_motionAt_1 (by decide) ?_
  refine lv_aload_n hx hb dL_motionAt_2 rfl (lv_at hl 0 rfl) ?_
  refine lv_iload_n hx hb dL_motionAt_3 rfl (lv_at hl 1 rfl) ?_
  refine cx_calli (Wr := [(u0, .inl (aT 2, 1, .inr (.inl o)))]) (cx_runV C hml hl.1 hZ hW hA (As := [.int x]) (rest := [.int (nI 0), .ref u0]) (k_X9_motionAt l hfl D aT x0 v0 h0 t0 p0 o0 a0 a1 a5 a10 a2 a3 a4 a6 a7 a8 a9 x) gV_L_X9_motionAt_55 hV_X9_motionAt rfl ⟨Nat.le_of_ble_eq_true rfl, Nat.le_of_ble_eq_true rfl⟩ ⟨Nat.le_of_ble_eq_true rfl, Nat.le_of_ble_eq_true rfl⟩ [1, 2, 3, 4, 5, 6, 7, 8, 9, 10, 11, 12] rfl (by decide) 1 12 rfl rfl rfl rfl (Nat.le_of_ble_eq_true rfl) dL_motionAt_4) hW hA [1, 2, 3, 4, 5, 6, 7, 8, 9, 10, 11, 12] [0] rfl rfl (by decide) (by decide) ?_ (fun r_4 W_4 H locs hq hW => ?_)
  · intro E ce q9 H locs hE hS h7 h8 h9
    have hE : E = _ := hE
    subst hE
    refine cx_catch C hZ ⟨0, 9, 12, 40⟩ (tableOf []) htb (by decide) (by decide) gw_799 nw_837 hS h7 h8 h9 (fun hW => ?_)
    refine lv_astore_n (lv' := [(3, .ref q9), (0, .ref x0), (1, .int x), (2, .ref u0)]) hx hb dL_motionAt_12 rfl hl (by decide) rfl (fun ls hl => ?_)
    refine lv_iconst (v := nI 1) hx hb dL_motionAt_13 (by decide) ?_
    exact cx_iretM C hr hlocks hW ⟨Nat.le_of_ble_eq_true rfl, Nat.le_of_ble_eq_true rfl⟩ (rfl) dL_motionAt_14
  · exact hq.elim
theorem dL_tone_0 : decode cL_tone 0 = .ok (.aload_n 2, 1) := by decide +kernel
theorem dL_tone_1 : decode cL_tone 1 = .ok (.iconst 0, 1) := by decide +kernel
theorem dL_tone_2 : decode cL_tone 2 = .ok (.aload_n 0, 1) := by decide +kernel
theorem dL_tone_3 : decode cL_tone 3 = .ok (.iload_n 1, 1) := by decide +kernel
theorem dL_tone_4 : decode cL_tone 4 = .ok (.invokevirtual 58, 3) := by decide +kernel
theorem dL_tone_7 : decode cL_tone 7 = .ok (.i2l, 1) := by decide +kernel
theorem dL_tone_8 : decode cL_tone 8 = .ok (.lastore, 1) := by decide +kernel
theorem dL_tone_9 : decode cL_tone 9 = .ok (.goto 6, 3) := by decide +kernel
theorem dL_tone_12 : decode cL_tone 12 = .ok (.astore_n 3, 1) := by decide +kernel
theorem dL_tone_13 : decode cL_tone 13 = .ok (.iconst 1, 1) := by decide +kernel
theorem dL_tone_14 : decode cL_tone 14 = .ok (.ireturn, 1) := by decide +kernel
theorem dL_tone_15 : decode cL_tone 15 = .ok (.iconst 0, 1) := by decide +kernel
theorem dL_tone_16 : decode cL_tone 16 = .ok (.ireturn, 1) := by decide +kernel
theorem gV_L_X9_tone_58 : GoodIn gw (wsV RL 58 RX9 yX9_tone (Cond.code yX9_tone cX9_tone 2 (some .int) :: gw)) := gdV gw_909 gw_910 gw_911 gw_67 gw_912
theorem hV_X9_tone : yX9_tone.cls = RX9 ∧ yX9_tone.cls ≠ "java/lang/invoke/MethodHandle" ∧ yX9_tone.cls ≠ "java/lang/invoke/VarHandle" ∧ (parseMethodDescriptor yX9_tone.desc).map (fun d => d.parameters.length) = some 1 := ⟨rfl, by decide +kernel, by decide +kernel, by decide +kernel⟩
set_option maxHeartbeats 2000000 in
set_option maxRecDepth 20000 in
theorem k_L_tone (l : Launch) (hfl : l.stackTraces = false) (D : va_G) (aT : Nat → ClassId) (u0 : Nat) (x0 : Nat) (v0 : Nat) (h0 : Nat) (t0 : Nat) (p0 : Nat) (o0 : Nat) (a0 : Nat) (a1 : Nat) (a5 : Nat) (a10 : Nat) (a2 : Nat) (a3 : Nat) (a4 : Nat) (a6 : Nat) (a7 : Nat) (a8 : Nat) (a9 : Nat) (x : Int32) (o : Nat → Int64) : CxH l yL_tone cL_tone 4 [(0, 9, 12, 24)] 8 1 6 133 D aT [.ref x0, .int x, .ref u0] [(u0, .inl (aT 2, 1, .inr (.inl o))), (x0, .inr (12, [.ref a0, .ref v0, .ref h0, .ref t0, .ref p0, .ref o0, .int (nI 0), .int (-1), .int (-1)])), (a0, .inr (10, [.ref a1, .ref a5, .ref a10, .int (nI 0), .int (nI 0), .int (nI 0), .int (nI 0), .int (nI 0), .int (nI 0), .int (nI 0), .int (nI 0)])), (a1, .inr (6, [.ref a2, .ref a3, .ref a4, .int (nI 0)])), (a2, .inl (aT 0, 6, .inl (fun _ => nI 0))), (a3, .inl (aT 0, 6, .inl (fun _ => nI 0))), (a4, .inl (aT 0, 6, .inl (fun _ => nI 0))), (a5, .inr (8, [.ref a6, .ref a7, .ref a8, .ref a9, .int (nI 0), .int (nI 0)])), (a6, .inl (aT 0, 12, .inl (fun _ => nI 0))), (a7, .inl (aT 0, 12, .inl (fun _ => nI 0))), (a8, .inl (aT 0, 12, .inl (fun _ => nI 0))), (a9, .inl (aT 0, 12, .inl (fun _ => nI 0))), (a10, .inl (aT 0, 4, .inl (fun _ => nI 0)))] (fun r W1 => r = nI 1) := by
  refine CxH.of RL (by decide +kernel) rfl (Nat.le_of_ble_eq_true rfl) ?_
  intro p e s m below meth c A ls C hml hl hA hr hlocks htb hZ hW
  have hl : lv_has ls 4 [(0, .ref x0), (1, .int x), (2, .ref u0)] := hl
  have hx := C.1
  have hb := C.2.1
  refine lv_aload_n hx hb dL_tone_0 rfl (lv_at hl 2 rfl) ?_
  refine lv_iconst (v := nI 0) hx hb dL_tone_1 (by decide) ?_
  refine lv_aload_n hx hb dL_tone_2 rfl (lv_at hl 0 rfl) ?_
  refine lv_iload_n hx hb dL_tone_3 rfl (lv_at hl 1 rfl) ?_
  refine cx_calli (Wr := [(u0, .inl (aT 2, 1, .inr (.inl o)))]) (cx_runV C hml hl.1 hZ hW hA (As := [.int x]) (rest := [.int (nI 0), .ref u0]) (k_X9_tone l hfl D aT x0 v0 h0 t0 p0 o0 a0 a1 a5 a10 a2 a3 a4 a6 a7 a8 a9 x) gV_L_X9_tone_58 hV_X9_tone rfl ⟨Nat.le_of_ble_eq_true rfl, Nat.le_of_ble_eq_true rfl⟩ ⟨Nat.le_of_ble_eq_true rfl, Nat.le_of_ble_eq_true rfl⟩ [1, 2, 3, 4, 5, 6, 7, 8, 9, 10, 11, 12] rfl (by decide) 1 12 rfl rfl rfl rfl (Nat.le_of_ble_eq_true rfl) dL_tone_4) hW hA [1, 2, 3, 4, 5, 6, 7, 8, 9, 10, 11, 12] [0] rfl rfl (by decide) (by decide) ?_ (fun r_4 W_4 H locs hq hW => ?_)
  · intro E ce q9 H locs hE hS h7 h8 h9
    have hE : E = _ := hE
    subst hE
    refine cx_catch C hZ ⟨0, 9, 12, 24⟩ (tableOf []) htb (by decide) (by decide) gw_690 nw_705 hS h7 h8 h9 (fun hW => ?_)
    refine lv_astore_n (lv' := [(3, .ref q9), (0, .ref x0), (1, .int x), (2, .ref u0)]) hx hb dL_tone_12 rfl hl (by decide) rfl (fun ls hl => ?_)
    refine lv_iconst (v := nI 1) hx hb dL_tone_13 (by decide) ?_
    exact cx_iretM C hr hlocks hW ⟨Nat.le_of_ble_eq_true rfl, Nat.le_of_ble_eq_true rfl⟩ (rfl) dL_tone_14
  · exact hq.elim
theorem dL_weight_0 : decode cL_weight 0 = .ok (.aload_n 2, 1) := by decide +kernel
theorem dL_weight_1 : decode cL_weight 1 = .ok (.iconst 0, 1) := by decide +kernel
theorem dL_weight_2 : decode cL_weight 2 = .ok (.aload_n 0, 1) := by decide +kernel
theorem dL_weight_3 : decode cL_weight 3 = .ok (.iload_n 1, 1) := by decide +kernel
theorem dL_weight_4 : decode cL_weight 4 = .ok (.invokevirtual 61, 3) := by decide +kernel
theorem dL_weight_7 : decode cL_weight 7 = .ok (.i2l, 1) := by decide +kernel
theorem dL_weight_8 : decode cL_weight 8 = .ok (.lastore, 1) := by decide +kernel
theorem dL_weight_9 : decode cL_weight 9 = .ok (.goto 6, 3) := by decide +kernel
theorem dL_weight_12 : decode cL_weight 12 = .ok (.astore_n 3, 1) := by decide +kernel
theorem dL_weight_13 : decode cL_weight 13 = .ok (.iconst 1, 1) := by decide +kernel
theorem dL_weight_14 : decode cL_weight 14 = .ok (.ireturn, 1) := by decide +kernel
theorem dL_weight_15 : decode cL_weight 15 = .ok (.iconst 0, 1) := by decide +kernel
theorem dL_weight_16 : decode cL_weight 16 = .ok (.ireturn, 1) := by decide +kernel
theorem gV_L_X9_weight_61 : GoodIn gw (wsV RL 61 RX9 yX9_weight (Cond.code yX9_weight cX9_weight 2 (some .int) :: gw)) := gdV gw_916 gw_917 gw_918 gw_67 gw_919
theorem hV_X9_weight : yX9_weight.cls = RX9 ∧ yX9_weight.cls ≠ "java/lang/invoke/MethodHandle" ∧ yX9_weight.cls ≠ "java/lang/invoke/VarHandle" ∧ (parseMethodDescriptor yX9_weight.desc).map (fun d => d.parameters.length) = some 1 := ⟨rfl, by decide +kernel, by decide +kernel, by decide +kernel⟩
set_option maxHeartbeats 2000000 in
set_option maxRecDepth 20000 in
theorem k_L_weight (l : Launch) (hfl : l.stackTraces = false) (D : va_G) (aT : Nat → ClassId) (u0 : Nat) (x0 : Nat) (v0 : Nat) (h0 : Nat) (t0 : Nat) (p0 : Nat) (o0 : Nat) (a0 : Nat) (a1 : Nat) (a5 : Nat) (a10 : Nat) (a2 : Nat) (a3 : Nat) (a4 : Nat) (a6 : Nat) (a7 : Nat) (a8 : Nat) (a9 : Nat) (x : Int32) (o : Nat → Int64) : CxH l yL_weight cL_weight 4 [(0, 9, 12, 24)] 8 1 6 133 D aT [.ref x0, .int x, .ref u0] [(u0, .inl (aT 2, 1, .inr (.inl o))), (x0, .inr (12, [.ref a0, .ref v0, .ref h0, .ref t0, .ref p0, .ref o0, .int (nI 0), .int (-1), .int (-1)])), (a0, .inr (10, [.ref a1, .ref a5, .ref a10, .int (nI 0), .int (nI 0), .int (nI 0), .int (nI 0), .int (nI 0), .int (nI 0), .int (nI 0), .int (nI 0)])), (a1, .inr (6, [.ref a2, .ref a3, .ref a4, .int (nI 0)])), (a2, .inl (aT 0, 6, .inl (fun _ => nI 0))), (a3, .inl (aT 0, 6, .inl (fun _ => nI 0))), (a4, .inl (aT 0, 6, .inl (fun _ => nI 0))), (a5, .inr (8, [.ref a6, .ref a7, .ref a8, .ref a9, .int (nI 0), .int (nI 0)])), (a6, .inl (aT 0, 12, .inl (fun _ => nI 0))), (a7, .inl (aT 0, 12, .inl (fun _ => nI 0))), (a8, .inl (aT 0, 12, .inl (fun _ => nI 0))), (a9, .inl (aT 0, 12, .inl (fun _ => nI 0))), (a10, .inl (aT 0, 4, .inl (fun _ => nI 0)))] (fun r W1 => r = nI 1) := by
  refine CxH.of RL (by decide +kernel) rfl (Nat.le_of_ble_eq_true rfl) ?_
  intro p e s m below meth c A ls C hml hl hA hr hlocks htb hZ hW
  have hl : lv_has ls 4 [(0, .ref x0), (1, .int x), (2, .ref u0)] := hl
  have hx := C.1
  have hb := C.2.1
  refine lv_aload_n hx hb dL_weight_0 rfl (lv_at hl 2 rfl) ?_
  refine lv_iconst (v := nI 0) hx hb dL_weight_1 (by decide) ?_
  refine lv_aload_n hx hb dL_weight_2 rfl (lv_at hl 0 rfl) ?_
  refine lv_iload_n hx hb dL_weight_3 rfl (lv_at hl 1 rfl) ?_
  refine cx_calli (Wr := [(u0, .inl (aT 2, 1, .inr (.inl o)))]) (cx_runV C hml hl.1 hZ hW hA (As := [.int x]) (rest := [.int (nI 0), .ref u0]) (k_X9_weight l hfl D aT x0 v0 h0 t0 p0 o0 a0 a1 a5 a10 a2 a3 a4 a6 a7 a8 a9 x) gV_L_X9_weight_61 hV_X9_weight rfl ⟨Nat.le_of_ble_eq_true rfl, Nat.le_of_ble_eq_true rfl⟩ ⟨Nat.le_of_ble_eq_true rfl, Nat.le_of_ble_eq_true rfl⟩ [1, 2, 3, 4, 5, 6, 7, 8, 9, 10, 11, 12] rfl (by decide) 1 12 rfl rfl rfl rfl (Nat.le_of_ble_eq_true rfl) dL_weight_4) hW hA [1, 2, 3, 4, 5, 6, 7, 8, 9, 10, 11, 12] [0] rfl rfl (by decide) (by decide) ?_ (fun r_4 W_4 H locs hq hW => ?_)
  · intro E ce q9 H locs hE hS h7 h8 h9
    have hE : E = _ := hE
    subst hE
    refine cx_catch C hZ ⟨0, 9, 12, 24⟩ (tableOf []) htb (by decide) (by decide) gw_690 nw_705 hS h7 h8 h9 (fun hW => ?_)
    refine lv_astore_n (lv' := [(3, .ref q9), (0, .ref x0), (1, .int x), (2, .ref u0)]) hx hb dL_weight_12 rfl hl (by decide) rfl (fun ls hl => ?_)
    refine lv_iconst (v := nI 1) hx hb dL_weight_13 (by decide) ?_
    exact cx_iretM C hr hlocks hW ⟨Nat.le_of_ble_eq_true rfl, Nat.le_of_ble_eq_true rfl⟩ (rfl) dL_weight_14
  · exact hq.elim
theorem dL_parent_0 : decode cL_parent 0 = .ok (.aload_n 2, 1) := by decide +kernel
theorem dL_parent_1 : decode cL_parent 1 = .ok (.iconst 0, 1) := by decide +kernel
theorem dL_parent_2 : decode cL_parent 2 = .ok (.aload_n 0, 1) := by decide +kernel
theorem dL_parent_3 : decode cL_parent 3 = .ok (.iload_n 1, 1) := by decide +kernel
theorem dL_parent_4 : decode cL_parent 4 = .ok (.invokevirtual 64, 3) := by decide +kernel
theorem dL_parent_7 : decode cL_parent 7 = .ok (.i2l, 1) := by decide +kernel
theorem dL_parent_8 : decode cL_parent 8 = .ok (.lastore, 1) := by decide +kernel
theorem dL_parent_9 : decode cL_parent 9 = .ok (.goto 6, 3) := by decide +kernel
theorem dL_parent_12 : decode cL_parent 12 = .ok (.astore_n 3, 1) := by decide +kernel
theorem dL_parent_13 : decode cL_parent 13 = .ok (.iconst 1, 1) := by decide +kernel
theorem dL_parent_14 : decode cL_parent 14 = .ok (.ireturn, 1) := by decide +kernel
theorem dL_parent_15 : decode cL_parent 15 = .ok (.iconst 0, 1) := by decide +kernel
theorem dL_parent_16 : decode cL_parent 16 = .ok (.ireturn, 1) := by decide +kernel
theorem gV_L_X9_parent_64 : GoodIn gw (wsV RL 64 RX9 yX9_parent (Cond.code yX9_parent cX9_parent 3 (some .int) :: gw)) := gdV gw_923 gw_924 gw_925 gw_67 gw_926
theorem hV_X9_parent : yX9_parent.cls = RX9 ∧ yX9_parent.cls ≠ "java/lang/invoke/MethodHandle" ∧ yX9_parent.cls ≠ "java/lang/invoke/VarHandle" ∧ (parseMethodDescriptor yX9_parent.desc).map (fun d => d.parameters.length) = some 1 := ⟨rfl, by decide +kernel, by decide +kernel, by decide +kernel⟩
set_option maxHeartbeats 2000000 in
set_option maxRecDepth 20000 in
theorem k_L_parent (l : Launch) (hfl : l.stackTraces = false) (D : va_G) (aT : Nat → ClassId) (u0 : Nat) (x0 : Nat) (v0 : Nat) (h0 : Nat) (t0 : Nat) (p0 : Nat) (o0 : Nat) (a0 : Nat) (a1 : Nat) (a5 : Nat) (a10 : Nat) (a2 : Nat) (a3 : Nat) (a4 : Nat) (a6 : Nat) (a7 : Nat) (a8 : Nat) (a9 : Nat) (x : Int32) (o : Nat → Int64) : CxH l yL_parent cL_parent 4 [(0, 9, 12, 24)] 8 1 6 134 D aT [.ref x0, .int x, .ref u0] [(u0, .inl (aT 2, 1, .inr (.inl o))), (x0, .inr (12, [.ref a0, .ref v0, .ref h0, .ref t0, .ref p0, .ref o0, .int (nI 0), .int (-1), .int (-1)])), (a0, .inr (10, [.ref a1, .ref a5, .ref a10, .int (nI 0), .int (nI 0), .int (nI 0), .int (nI 0), .int (nI 0), .int (nI 0), .int (nI 0), .int (nI 0)])), (a1, .inr (6, [.ref a2, .ref a3, .ref a4, .int (nI 0)])), (a2, .inl (aT 0, 6, .inl (fun _ => nI 0))), (a3, .inl (aT 0, 6, .inl (fun _ => nI 0))), (a4, .inl (aT 0, 6, .inl (fun _ => nI 0))), (a5, .inr (8, [.ref a6, .ref a7, .ref a8, .ref a9, .int (nI 0), .int (nI 0)])), (a6, .inl (aT 0, 12, .inl (fun _ => nI 0))), (a7, .inl (aT 0, 12, .inl (fun _ => nI 0))), (a8, .inl (aT 0, 12, .inl (fun _ => nI 0))), (a9, .inl (aT 0, 12, .inl (fun _ => nI 0))), (a10, .inl (aT 0, 4, .inl (fun _ => nI 0)))] (fun r W1 => r = nI 1) := by
  refine CxH.of RL (by decide +kernel) rfl (Nat.le_of_ble_eq_true rfl) ?_
  intro p e s m below meth c A ls C hml hl hA hr hlocks htb hZ hW
  have hl : lv_has ls 4 [(0, .ref x0), (1, .int x), (2, .ref u0)] := hl
  have hx := C.1
  have hb := C.2.1
  refine lv_aload_n hx hb dL_parent_0 rfl (lv_at hl 2 rfl) ?_
  refine lv_iconst (v := nI 0) hx hb dL_parent_1 (by decide) ?_
  refine lv_aload_n hx hb dL_parent_2 rfl (lv_at hl 0 rfl) ?_
  refine lv_iload_n hx hb dL_parent_3 rfl (lv_at hl 1 rfl) ?_
  refine cx_calli (Wr := [(u0, .inl (aT 2, 1, .inr (.inl o)))]) (cx_runV C hml hl.1 hZ hW hA (As := [.int x]) (rest := [.int (nI 0), .ref u0]) (k_X9_parent l hfl D aT x0 v0 h0 t0 p0 o0 a0 a1 a5 a10 a2 a3 a4 a6 a7 a8 a9 x) gV_L_X9_parent_64 hV_X9_parent rfl ⟨Nat.le_of_ble_eq_true rfl, Nat.le_of_ble_eq_true rfl⟩ ⟨Nat.le_of_ble_eq_true rfl, Nat.le_of_ble_eq_true rfl⟩ [1, 2, 3, 4, 5, 6, 7, 8, 9, 10, 11, 12] rfl (by decide) 1 12 rfl rfl rfl rfl (Nat.le_of_ble_eq_true rfl) dL_parent_4) hW hA [1, 2, 3, 4, 5, 6, 7, 8, 9, 10, 11, 12] [0] rfl rfl (by decide) (by decide) ?_ (fun r_4 W_4 H locs hq hW => ?_)
  · intro E ce q9 H locs hE hS h7 h8 h9
    have hE : E = _ := hE
    subst hE
    refine cx_catch C hZ ⟨0, 9, 12, 24⟩ (tableOf []) htb (by decide) (by decide) gw_690 nw_705 hS h7 h8 h9 (fun hW => ?_)
    refine lv_astore_n (lv' := [(3, .ref q9), (0, .ref x0), (1, .int x), (2, .ref u0)]) hx hb dL_parent_12 rfl hl (by decide) rfl (fun ls hl => ?_)
    refine lv_iconst (v := nI 1) hx hb dL_parent_13 (by decide) ?_
    exact cx_iretM C hr hlocks hW ⟨Nat.le_of_ble_eq_true rfl, Nat.le_of_ble_eq_true rfl⟩ (rfl) dL_parent_14
  · exact hq.elim
theorem dL_depth_0 : decode cL_depth 0 = .ok (.aload_n 2, 1) := by decide +kernel
theorem dL_depth_1 : decode cL_depth 1 = .ok (.iconst 0, 1) := by decide +kernel
theorem dL_depth_2 : decode cL_depth 2 = .ok (.aload_n 0, 1) := by decide +kernel
theorem dL_depth_3 : decode cL_depth 3 = .ok (.iload_n 1, 1) := by decide +kernel
theorem dL_depth_4 : decode cL_depth 4 = .ok (.invokevirtual 67, 3) := by decide +kernel
theorem dL_depth_7 : decode cL_depth 7 = .ok (.i2l, 1) := by decide +kernel
theorem dL_depth_8 : decode cL_depth 8 = .ok (.lastore, 1) := by decide +kernel
theorem dL_depth_9 : decode cL_depth 9 = .ok (.goto 6, 3) := by decide +kernel
theorem dL_depth_12 : decode cL_depth 12 = .ok (.astore_n 3, 1) := by decide +kernel
theorem dL_depth_13 : decode cL_depth 13 = .ok (.iconst 1, 1) := by decide +kernel
theorem dL_depth_14 : decode cL_depth 14 = .ok (.ireturn, 1) := by decide +kernel
theorem dL_depth_15 : decode cL_depth 15 = .ok (.iconst 0, 1) := by decide +kernel
theorem dL_depth_16 : decode cL_depth 16 = .ok (.ireturn, 1) := by decide +kernel
theorem gV_L_X9_depth_67 : GoodIn gw (wsV RL 67 RX9 yX9_depth (Cond.code yX9_depth cX9_depth 2 (some .int) :: gw)) := gdV gw_931 gw_932 gw_933 gw_67 gw_934
theorem hV_X9_depth : yX9_depth.cls = RX9 ∧ yX9_depth.cls ≠ "java/lang/invoke/MethodHandle" ∧ yX9_depth.cls ≠ "java/lang/invoke/VarHandle" ∧ (parseMethodDescriptor yX9_depth.desc).map (fun d => d.parameters.length) = some 1 := ⟨rfl, by decide +kernel, by decide +kernel, by decide +kernel⟩
set_option maxHeartbeats 2000000 in
set_option maxRecDepth 20000 in
theorem k_L_depth (l : Launch) (hfl : l.stackTraces = false) (D : va_G) (aT : Nat → ClassId) (u0 : Nat) (x0 : Nat) (v0 : Nat) (h0 : Nat) (t0 : Nat) (p0 : Nat) (o0 : Nat) (a0 : Nat) (a1 : Nat) (a5 : Nat) (a10 : Nat) (a2 : Nat) (a3 : Nat) (a4 : Nat) (a6 : Nat) (a7 : Nat) (a8 : Nat) (a9 : Nat) (x : Int32) (o : Nat → Int64) : CxH l yL_depth cL_depth 4 [(0, 9, 12, 24)] 8 1 6 133 D aT [.ref x0, .int x, .ref u0] [(u0, .inl (aT 2, 1, .inr (.inl o))), (x0, .inr (12, [.ref a0, .ref v0, .ref h0, .ref t0, .ref p0, .ref o0, .int (nI 0), .int (-1), .int (-1)])), (a0, .inr (10, [.ref a1, .ref a5, .ref a10, .int (nI 0), .int (nI 0), .int (nI 0), .int (nI 0), .int (nI 0), .int (nI 0), .int (nI 0), .int (nI 0)])), (a1, .inr (6, [.ref a2, .ref a3, .ref a4, .int (nI 0)])), (a2, .inl (aT 0, 6, .inl (fun _ => nI 0))), (a3, .inl (aT 0, 6, .inl (fun _ => nI 0))), (a4, .inl (aT 0, 6, .inl (fun _ => nI 0))), (a5, .inr (8, [.ref a6, .ref a7, .ref a8, .ref a9, .int (nI 0), .int (nI 0)])), (a6, .inl (aT 0, 12, .inl (fun _ => nI 0))), (a7, .inl (aT 0, 12, .inl (fun _ => nI 0))), (a8, .inl (aT 0, 12, .inl (fun _ => nI 0))), (a9, .inl (aT 0, 12, .inl (fun _ => nI 0))), (a10, .inl (aT 0, 4, .inl (fun _ => nI 0)))] (fun r W1 => r = nI 1) := by
  refine CxH.of RL (by decide +kernel) rfl (Nat.le_of_ble_eq_true rfl) ?_
  intro p e s m below meth c A ls C hml hl hA hr hlocks htb hZ hW
  have hl : lv_has ls 4 [(0, .ref x0), (1, .int x), (2, .ref u0)] := hl
  have hx := C.1
  have hb := C.2.1
  refine lv_aload_n hx hb dL_depth_0 rfl (lv_at hl 2 rfl) ?_
  refine lv_iconst (v := nI 0) hx hb dL_depth_1 (by decide) ?_
  refine lv_aload_n hx hb dL_depth_2 rfl (lv_at hl 0 rfl) ?_
  refine lv_iload_n hx hb dL_depth_3 rfl (lv_at hl 1 rfl) ?_
  refine cx_calli (Wr := [(u0, .inl (aT 2, 1, .inr (.inl o)))]) (cx_runV C hml hl.1 hZ hW hA (As := [.int x]) (rest := [.int (nI 0), .ref u0]) (k_X9_depth l hfl D aT x0 v0 h0 t0 p0 o0 a0 a1 a5 a10 a2 a3 a4 a6 a7 a8 a9 x) gV_L_X9_depth_67 hV_X9_depth rfl ⟨Nat.le_of_ble_eq_true rfl, Nat.le_of_ble_eq_true rfl⟩ ⟨Nat.le_of_ble_eq_true rfl, Nat.le_of_ble_eq_true rfl⟩ [1, 2, 3, 4, 5, 6, 7, 8, 9, 10, 11, 12] rfl (by decide) 1 12 rfl rfl rfl rfl (Nat.le_of_ble_eq_true rfl) dL_depth_4) hW hA [1, 2, 3, 4, 5, 6, 7, 8, 9, 10, 11, 12] [0] rfl rfl (by decide) (by decide) ?_ (fun r_4 W_4 H locs hq hW => ?_)
  · intro E ce q9 H locs hE hS h7 h8 h9
    have hE : E = _ := hE
    subst hE
    refine cx_catch C hZ ⟨0, 9, 12, 24⟩ (tableOf []) htb (by decide) (by decide) gw_690 nw_705 hS h7 h8 h9 (fun hW => ?_)
    refine lv_astore_n (lv' := [(3, .ref q9), (0, .ref x0), (1, .int x), (2, .ref u0)]) hx hb dL_depth_12 rfl hl (by decide) rfl (fun ls hl => ?_)
    refine lv_iconst (v := nI 1) hx hb dL_depth_13 (by decide) ?_
    exact cx_iretM C hr hlocks hW ⟨Nat.le_of_ble_eq_true rfl, Nat.le_of_ble_eq_true rfl⟩ (rfl) dL_depth_14
  · exact hq.elim
theorem dL_isTip_0 : decode cL_isTip 0 = .ok (.aload_n 2, 1) := by decide +kernel
theorem dL_isTip_1 : decode cL_isTip 1 = .ok (.iconst 0, 1) := by decide +kernel
theorem dL_isTip_2 : decode cL_isTip 2 = .ok (.aload_n 0, 1) := by decide +kernel
theorem dL_isTip_3 : decode cL_isTip 3 = .ok (.iload_n 1, 1) := by decide +kernel
theorem dL_isTip_4 : decode cL_isTip 4 = .ok (.invokevirtual 70, 3) := by decide +kernel
theorem dL_isTip_7 : decode cL_isTip 7 = .ok (.ifCond .eq 7, 3) := by decide +kernel
theorem dL_isTip_10 : decode cL_isTip 10 = .ok (.lconst 1, 1) := by decide +kernel
theorem dL_isTip_11 : decode cL_isTip 11 = .ok (.goto 4, 3) := by decide +kernel
theorem dL_isTip_14 : decode cL_isTip 14 = .ok (.lconst 0, 1) := by decide +kernel
theorem dL_isTip_15 : decode cL_isTip 15 = .ok (.lastore, 1) := by decide +kernel
theorem dL_isTip_16 : decode cL_isTip 16 = .ok (.goto 6, 3) := by decide +kernel
theorem dL_isTip_19 : decode cL_isTip 19 = .ok (.astore_n 3, 1) := by decide +kernel
theorem dL_isTip_20 : decode cL_isTip 20 = .ok (.iconst 1, 1) := by decide +kernel
theorem dL_isTip_21 : decode cL_isTip 21 = .ok (.ireturn, 1) := by decide +kernel
theorem dL_isTip_22 : decode cL_isTip 22 = .ok (.iconst 0, 1) := by decide +kernel
theorem dL_isTip_23 : decode cL_isTip 23 = .ok (.ireturn, 1) := by decide +kernel
theorem gV_L_X9_isTip_70 : GoodIn gw (wsV RL 70 RX9 yX9_isTip (Cond.code yX9_isTip cX9_isTip 2 (some .boolean) :: gw)) := gdV gw_939 gw_940 gw_941 gw_67 gw_942
theorem hV_X9_isTip : yX9_isTip.cls = RX9 ∧ yX9_isTip.cls ≠ "java/lang/invoke/MethodHandle" ∧ yX9_isTip.cls ≠ "java/lang/invoke/VarHandle" ∧ (parseMethodDescriptor yX9_isTip.desc).map (fun d => d.parameters.length) = some 1 := ⟨rfl, by decide +kernel, by decide +kernel, by decide +kernel⟩
set_option maxHeartbeats 2000000 in
set_option maxRecDepth 20000 in
theorem k_L_isTip (l : Launch) (hfl : l.stackTraces = false) (D : va_G) (aT : Nat → ClassId) (u0 : Nat) (x0 : Nat) (v0 : Nat) (h0 : Nat) (t0 : Nat) (p0 : Nat) (o0 : Nat) (a0 : Nat) (a1 : Nat) (a5 : Nat) (a10 : Nat) (a2 : Nat) (a3 : Nat) (a4 : Nat) (a6 : Nat) (a7 : Nat) (a8 : Nat) (a9 : Nat) (x : Int32) (o : Nat → Int64) : CxH l yL_isTip cL_isTip 4 [(0, 16, 19, 24)] 8 1 6 133 D aT [.ref x0, .int x, .ref u0] [(u0, .inl (aT 2, 1, .inr (.inl o))), (x0, .inr (12, [.ref a0, .ref v0, .ref h0, .ref t0, .ref p0, .ref o0, .int (nI 0), .int (-1), .int (-1)])), (a0, .inr (10, [.ref a1, .ref a5, .ref a10, .int (nI 0), .int (nI 0), .int (nI 0), .int (nI 0), .int (nI 0), .int (nI 0), .int (nI 0), .int (nI 0)])), (a1, .inr (6, [.ref a2, .ref a3, .ref a4, .int (nI 0)])), (a2, .inl (aT 0, 6, .inl (fun _ => nI 0))), (a3, .inl (aT 0, 6, .inl (fun _ => nI 0))), (a4, .inl (aT 0, 6, .inl (fun _ => nI 0))), (a5, .inr (8, [.ref a6, .ref a7, .ref a8, .ref a9, .int (nI 0), .int (nI 0)])), (a6, .inl (aT 0, 12, .inl (fun _ => nI 0))), (a7, .inl (aT 0, 12, .inl (fun _ => nI 0))), (a8, .inl (aT 0, 12, .inl (fun _ => nI 0))), (a9, .inl (aT 0, 12, .inl (fun _ => nI 0))), (a10, .inl (aT 0, 4, .inl (fun _ => nI 0)))] (fun r W1 => r = nI 1) := by
  refine CxH.of RL (by decide +kernel) rfl (Nat.le_of_ble_eq_true rfl) ?_
  intro p e s m below meth c A ls C hml hl hA hr hlocks htb hZ hW
  have hl : lv_has ls 4 [(0, .ref x0), (1, .int x), (2, .ref u0)] := hl
  have hx := C.1
  have hb := C.2.1
  refine lv_aload_n hx hb dL_isTip_0 rfl (lv_at hl 2 rfl) ?_
  refine lv_iconst (v := nI 0) hx hb dL_isTip_1 (by decide) ?_
  refine lv_aload_n hx hb dL_isTip_2 rfl (lv_at hl 0 rfl) ?_
  refine lv_iload_n hx hb dL_isTip_3 rfl (lv_at hl 1 rfl) ?_
  refine cx_calli (Wr := [(u0, .inl (aT 2, 1, .inr (.inl o)))]) (cx_runV C hml hl.1 hZ hW hA (As := [.int x]) (rest := [.int (nI 0), .ref u0]) (k_X9_isTip l hfl D aT x0 v0 h0 t0 p0 o0 a0 a1 a5 a10 a2 a3 a4 a6 a7 a8 a9 x) gV_L_X9_isTip_70 hV_X9_isTip rfl ⟨Nat.le_of_ble_eq_true rfl, Nat.le_of_ble_eq_true rfl⟩ ⟨Nat.le_of_ble_eq_true rfl, Nat.le_of_ble_eq_true rfl⟩ [1, 2, 3, 4, 5, 6, 7, 8, 9, 10, 11, 12] rfl (by decide) 1 12 rfl rfl rfl rfl (Nat.le_of_ble_eq_true rfl) dL_isTip_4) hW hA [1, 2, 3, 4, 5, 6, 7, 8, 9, 10, 11, 12] [0] rfl rfl (by decide) (by decide) ?_ (fun r_4 W_4 H locs hq hW => ?_)
  · intro E ce q9 H locs hE hS h7 h8 h9
    have hE : E = _ := hE
    subst hE
    refine cx_catch C hZ ⟨0, 16, 19, 24⟩ (tableOf []) htb (by decide) (by decide) gw_690 nw_705 hS h7 h8 h9 (fun hW => ?_)
    refine lv_astore_n (lv' := [(3, .ref q9), (0, .ref x0), (1, .int x), (2, .ref u0)]) hx hb dL_isTip_19 rfl hl (by decide) rfl (fun ls hl => ?_)
    refine lv_iconst (v := nI 1) hx hb dL_isTip_20 (by decide) ?_
    exact cx_iretM C hr hlocks hW ⟨Nat.le_of_ble_eq_true rfl, Nat.le_of_ble_eq_true rfl⟩ (rfl) dL_isTip_21
  · exact hq.elim
theorem dL_branchSize_0 : decode cL_branchSize 0 = .ok (.aload_n 2, 1) := by decide +kernel
theorem dL_branchSize_1 : decode cL_branchSize 1 = .ok (.iconst 0, 1) := by decide +kernel
theorem dL_branchSize_2 : decode cL_branchSize 2 = .ok (.aload_n 0, 1) := by decide +kernel
theorem dL_branchSize_3 : decode cL_branchSize 3 = .ok (.iload_n 1, 1) := by decide +kernel
theorem dL_branchSize_4 : decode cL_branchSize 4 = .ok (.invokevirtual 74, 3) := by decide +kernel
theorem dL_branchSize_7 : decode cL_branchSize 7 = .ok (.i2l, 1) := by decide +kernel
theorem dL_branchSize_8 : decode cL_branchSize 8 = .ok (.lastore, 1) := by decide +kernel
theorem dL_branchSize_9 : decode cL_branchSize 9 = .ok (.goto 6, 3) := by decide +kernel
theorem dL_branchSize_12 : decode cL_branchSize 12 = .ok (.astore_n 3, 1) := by decide +kernel
theorem dL_branchSize_13 : decode cL_branchSize 13 = .ok (.iconst 1, 1) := by decide +kernel
theorem dL_branchSize_14 : decode cL_branchSize 14 = .ok (.ireturn, 1) := by decide +kernel
theorem dL_branchSize_15 : decode cL_branchSize 15 = .ok (.iconst 0, 1) := by decide +kernel
theorem dL_branchSize_16 : decode cL_branchSize 16 = .ok (.ireturn, 1) := by decide +kernel
theorem gV_L_X9_branchSize_74 : GoodIn gw (wsV RL 74 RX9 yX9_branchSize (Cond.code yX9_branchSize cX9_branchSize 2 (some .int) :: gw)) := gdV gw_947 gw_948 gw_949 gw_67 gw_950
theorem hV_X9_branchSize : yX9_branchSize.cls = RX9 ∧ yX9_branchSize.cls ≠ "java/lang/invoke/MethodHandle" ∧ yX9_branchSize.cls ≠ "java/lang/invoke/VarHandle" ∧ (parseMethodDescriptor yX9_branchSize.desc).map (fun d => d.parameters.length) = some 1 := ⟨rfl, by decide +kernel, by decide +kernel, by decide +kernel⟩
set_option maxHeartbeats 2000000 in
set_option maxRecDepth 20000 in
theorem k_L_branchSize (l : Launch) (hfl : l.stackTraces = false) (D : va_G) (aT : Nat → ClassId) (u0 : Nat) (x0 : Nat) (v0 : Nat) (h0 : Nat) (t0 : Nat) (p0 : Nat) (o0 : Nat) (a0 : Nat) (a1 : Nat) (a5 : Nat) (a10 : Nat) (a2 : Nat) (a3 : Nat) (a4 : Nat) (a6 : Nat) (a7 : Nat) (a8 : Nat) (a9 : Nat) (x : Int32) (o : Nat → Int64) : CxH l yL_branchSize cL_branchSize 4 [(0, 9, 12, 24)] 8 1 6 133 D aT [.ref x0, .int x, .ref u0] [(u0, .inl (aT 2, 1, .inr (.inl o))), (x0, .inr (12, [.ref a0, .ref v0, .ref h0, .ref t0, .ref p0, .ref o0, .int (nI 0), .int (-1), .int (-1)])), (a0, .inr (10, [.ref a1, .ref a5, .ref a10, .int (nI 0), .int (nI 0), .int (nI 0), .int (nI 0), .int (nI 0), .int (nI 0), .int (nI 0), .int (nI 0)])), (a1, .inr (6, [.ref a2, .ref a3, .ref a4, .int (nI 0)])), (a2, .inl (aT 0, 6, .inl (fun _ => nI 0))), (a3, .inl (aT 0, 6, .inl (fun _ => nI 0))), (a4, .inl (aT 0, 6, .inl (fun _ => nI 0))), (a5, .inr (8, [.ref a6, .ref a7, .ref a8, .ref a9, .int (nI 0), .int (nI 0)])), (a6, .inl (aT 0, 12, .inl (fun _ => nI 0))), (a7, .inl (aT 0, 12, .inl (fun _ => nI 0))), (a8, .inl (aT 0, 12, .inl (fun _ => nI 0))), (a9, .inl (aT 0, 12, .inl (fun _ => nI 0))), (a10, .inl (aT 0, 4, .inl (fun _ => nI 0)))] (fun r W1 => r = nI 1) := by
  refine CxH.of RL (by decide +kernel) rfl (Nat.le_of_ble_eq_true rfl) ?_
  intro p e s m below meth c A ls C hml hl hA hr hlocks htb hZ hW
  have hl : lv_has ls 4 [(0, .ref x0), (1, .int x), (2, .ref u0)] := hl
  have hx := C.1
  have hb := C.2.1
  refine lv_aload_n hx hb dL_branchSize_0 rfl (lv_at hl 2 rfl) ?_
  refine lv_iconst (v := nI 0) hx hb dL_branchSize_1 (by decide) ?_
  refine lv_aload_n hx hb dL_branchSize_2 rfl (lv_at hl 0 rfl) ?_
  refine lv_iload_n hx hb dL_branchSize_3 rfl (lv_at hl 1 rfl) ?_
  refine cx_calli (Wr := [(u0, .inl (aT 2, 1, .inr (.inl o)))]) (cx_runV C hml hl.1 hZ hW hA (As := [.int x]) (rest := [.int (nI 0), .ref u0]) (k_X9_branchSize l hfl D aT x0 v0 h0 t0 p0 o0 a0 a1 a5 a10 a2 a3 a4 a6 a7 a8 a9 x) gV_L_X9_branchSize_74 hV_X9_branchSize rfl ⟨Nat.le_of_ble_eq_true rfl, Nat.le_of_ble_eq_true rfl⟩ ⟨Nat.le_of_ble_eq_true rfl, Nat.le_of_ble_eq_true rfl⟩ [1, 2, 3, 4, 5, 6, 7, 8, 9, 10, 11, 12] rfl (by decide) 1 12 rfl rfl rfl rfl (Nat.le_of_ble_eq_true rfl) dL_branchSize_4) hW hA [1, 2, 3, 4, 5, 6, 7, 8, 9, 10, 11, 12] [0] rfl rfl (by decide) (by decide) ?_ (fun r_4 W_4 H locs hq hW => ?_)
  · intro E ce q9 H locs hE hS h7 h8 h9
    have hE : E = _ := hE
    subst hE
    refine cx_catch C hZ ⟨0, 9, 12, 24⟩ (tableOf []) htb (by decide) (by decide) gw_690 nw_705 hS h7 h8 h9 (fun hW => ?_)
    refine lv_astore_n (lv' := [(3, .ref q9), (0, .ref x0), (1, .int x), (2, .ref u0)]) hx hb dL_branchSize_12 rfl hl (by decide) rfl (fun ls hl => ?_)
    refine lv_iconst (v := nI 1) hx hb dL_branchSize_13 (by decide) ?_
    exact cx_iretM C hr hlocks hW ⟨Nat.le_of_ble_eq_true rfl, Nat.le_of_ble_eq_true rfl⟩ (rfl) dL_branchSize_14
  · exact hq.elim
theorem dL_lastTip_0 : decode cL_lastTip 0 = .ok (.aload_n 2, 1) := by decide +kernel
theorem dL_lastTip_1 : decode cL_lastTip 1 = .ok (.iconst 0, 1) := by decide +kernel
theorem dL_lastTip_2 : decode cL_lastTip 2 = .ok (.aload_n 0, 1) := by decide +kernel
theorem dL_lastTip_3 : decode cL_lastTip 3 = .ok (.iload_n 1, 1) := by decide +kernel
theorem dL_lastTip_4 : decode cL_lastTip 4 = .ok (.invokevirtual 77, 3) := by decide +kernel
theorem dL_lastTip_7 : decode cL_lastTip 7 = .ok (.i2l, 1) := by decide +kernel
theorem dL_lastTip_8 : decode cL_lastTip 8 = .ok (.lastore, 1) := by decide +kernel
theorem dL_lastTip_9 : decode cL_lastTip 9 = .ok (.goto 6, 3) := by decide +kernel
theorem dL_lastTip_12 : decode cL_lastTip 12 = .ok (.astore_n 3, 1) := by decide +kernel
theorem dL_lastTip_13 : decode cL_lastTip 13 = .ok (.iconst 1, 1) := by decide +kernel
theorem dL_lastTip_14 : decode cL_lastTip 14 = .ok (.ireturn, 1) := by decide +kernel
theorem dL_lastTip_15 : decode cL_lastTip 15 = .ok (.iconst 0, 1) := by decide +kernel
theorem dL_lastTip_16 : decode cL_lastTip 16 = .ok (.ireturn, 1) := by decide +kernel
theorem gV_L_X9_lastTip_77 : GoodIn gw (wsV RL 77 RX9 yX9_lastTip (Cond.code yX9_lastTip cX9_lastTip 3 (some .int) :: gw)) := gdV gw_958 gw_959 gw_960 gw_67 gw_961
theorem hV_X9_lastTip : yX9_lastTip.cls = RX9 ∧ yX9_lastTip.cls ≠ "java/lang/invoke/MethodHandle" ∧ yX9_lastTip.cls ≠ "java/lang/invoke/VarHandle" ∧ (parseMethodDescriptor yX9_lastTip.desc).map (fun d => d.parameters.length) = some 1 := ⟨rfl, by decide +kernel, by decide +kernel, by decide +kernel⟩
set_option maxHeartbeats 2000000 in
set_option maxRecDepth 20000 in
theorem k_L_lastTip (l : Launch) (hfl : l.stackTraces = false) (D : va_G) (aT : Nat → ClassId) (u0 : Nat) (x0 : Nat) (v0 : Nat) (h0 : Nat) (t0 : Nat) (p0 : Nat) (o0 : Nat) (a0 : Nat) (a1 : Nat) (a5 : Nat) (a10 : Nat) (a2 : Nat) (a3 : Nat) (a4 : Nat) (a6 : Nat) (a7 : Nat) (a8 : Nat) (a9 : Nat) (x : Int32) (o : Nat → Int64) : CxH l yL_lastTip cL_lastTip 4 [(0, 9, 12, 24)] 8 1 6 134 D aT [.ref x0, .int x, .ref u0] [(u0, .inl (aT 2, 1, .inr (.inl o))), (x0, .inr (12, [.ref a0, .ref v0, .ref h0, .ref t0, .ref p0, .ref o0, .int (nI 0), .int (-1), .int (-1)])), (a0, .inr (10, [.ref a1, .ref a5, .ref a10, .int (nI 0), .int (nI 0), .int (nI 0), .int (nI 0), .int (nI 0), .int (nI 0), .int (nI 0), .int (nI 0)])), (a1, .inr (6, [.ref a2, .ref a3, .ref a4, .int (nI 0)])), (a2, .inl (aT 0, 6, .inl (fun _ => nI 0))), (a3, .inl (aT 0, 6, .inl (fun _ => nI 0))), (a4, .inl (aT 0, 6, .inl (fun _ => nI 0))), (a5, .inr (8, [.ref a6, .ref a7, .ref a8, .ref a9, .int (nI 0), .int (nI 0)])), (a6, .inl (aT 0, 12, .inl (fun _ => nI 0))), (a7, .inl (aT 0, 12, .inl (fun _ => nI 0))), (a8, .inl (aT 0, 12, .inl (fun _ => nI 0))), (a9, .inl (aT 0, 12, .inl (fun _ => nI 0))), (a10, .inl (aT 0, 4, .inl (fun _ => nI 0)))] (fun r W1 => r = nI 1) := by
  refine CxH.of RL (by decide +kernel) rfl (Nat.le_of_ble_eq_true rfl) ?_
  intro p e s m below meth c A ls C hml hl hA hr hlocks htb hZ hW
  have hl : lv_has ls 4 [(0, .ref x0), (1, .int x), (2, .ref u0)] := hl
  have hx := C.1
  have hb := C.2.1
  refine lv_aload_n hx hb dL_lastTip_0 rfl (lv_at hl 2 rfl) ?_
  refine lv_iconst (v := nI 0) hx hb dL_lastTip_1 (by decide) ?_
  refine lv_aload_n hx hb dL_lastTip_2 rfl (lv_at hl 0 rfl) ?_
  refine lv_iload_n hx hb dL_lastTip_3 rfl (lv_at hl 1 rfl) ?_
  refine cx_calli (Wr := [(u0, .inl (aT 2, 1, .inr (.inl o)))]) (cx_runV C hml hl.1 hZ hW hA (As := [.int x]) (rest := [.int (nI 0), .ref u0]) (k_X9_lastTip l hfl D aT x0 v0 h0 t0 p0 o0 a0 a1 a5 a10 a2 a3 a4 a6 a7 a8 a9 x) gV_L_X9_lastTip_77 hV_X9_lastTip rfl ⟨Nat.le_of_ble_eq_true rfl, Nat.le_of_ble_eq_true rfl⟩ ⟨Nat.le_of_ble_eq_true rfl, Nat.le_of_ble_eq_true rfl⟩ [1, 2, 3, 4, 5, 6, 7, 8, 9, 10, 11, 12] rfl (by decide) 1 12 rfl rfl rfl rfl (Nat.le_of_ble_eq_true rfl) dL_lastTip_4) hW hA [1, 2, 3, 4, 5, 6, 7, 8, 9, 10, 11, 12] [0] rfl rfl (by decide) (by decide) ?_ (fun r_4 W_4 H locs hq hW => ?_)
  · intro E ce q9 H locs hE hS h7 h8 h9
    have hE : E = _ := hE
    subst hE
    refine cx_catch C hZ ⟨0, 9, 12, 24⟩ (tableOf []) htb (by decide) (by decide) gw_690 nw_705 hS h7 h8 h9 (fun hW => ?_)
    refine lv_astore_n (lv' := [(3, .ref q9), (0, .ref x0), (1, .int x), (2, .ref u0)]) hx hb dL_lastTip_12 rfl hl (by decide) rfl (fun ls hl => ?_)
    refine lv_iconst (v := nI 1) hx hb dL_lastTip_13 (by decide) ?_
    exact cx_iretM C hr hlocks hW ⟨Nat.le_of_ble_eq_true rfl, Nat.le_of_ble_eq_true rfl⟩ (rfl) dL_lastTip_14
  · exact hq.elim
theorem dL_motionAtRank_0 : decode cL_motionAtRank 0 = .ok (.aload_n 2, 1) := by decide +kernel
theorem dL_motionAtRank_1 : decode cL_motionAtRank 1 = .ok (.iconst 0, 1) := by decide +kernel
theorem dL_motionAtRank_2 : decode cL_motionAtRank 2 = .ok (.aload_n 0, 1) := by decide +kernel
theorem dL_motionAtRank_3 : decode cL_motionAtRank 3 = .ok (.iload_n 1, 1) := by decide +kernel
theorem dL_motionAtRank_4 : decode cL_motionAtRank 4 = .ok (.invokevirtual 80, 3) := by decide +kernel
theorem dL_motionAtRank_7 : decode cL_motionAtRank 7 = .ok (.i2l, 1) := by decide +kernel
theorem dL_motionAtRank_8 : decode cL_motionAtRank 8 = .ok (.lastore, 1) := by decide +kernel
theorem dL_motionAtRank_9 : decode cL_motionAtRank 9 = .ok (.goto 6, 3) := by decide +kernel
theorem dL_motionAtRank_12 : decode cL_motionAtRank 12 = .ok (.astore_n 3, 1) := by decide +kernel
theorem dL_motionAtRank_13 : decode cL_motionAtRank 13 = .ok (.iconst 1, 1) := by decide +kernel
theorem dL_motionAtRank_14 : decode cL_motionAtRank 14 = .ok (.ireturn, 1) := by decide +kernel
theorem dL_motionAtRank_15 : decode cL_motionAtRank 15 = .ok (.iconst 0, 1) := by decide +kernel
theorem dL_motionAtRank_16 : decode cL_motionAtRank 16 = .ok (.ireturn, 1) := by decide +kernel
theorem gV_L_X9_motionAtRank_80 : GoodIn gw (wsV RL 80 RX9 yX9_motionAtRank (Cond.code yX9_motionAtRank cX9_motionAtRank 2 (some .int) :: gw)) := gdV gw_966 gw_967 gw_968 gw_67 gw_969
theorem hV_X9_motionAtRank : yX9_motionAtRank.cls = RX9 ∧ yX9_motionAtRank.cls ≠ "java/lang/invoke/MethodHandle" ∧ yX9_motionAtRank.cls ≠ "java/lang/invoke/VarHandle" ∧ (parseMethodDescriptor yX9_motionAtRank.desc).map (fun d => d.parameters.length) = some 1 := ⟨rfl, by decide +kernel, by decide +kernel, by decide +kernel⟩
set_option maxHeartbeats 2000000 in
set_option maxRecDepth 20000 in
theorem k_L_motionAtRank (l : Launch) (hfl : l.stackTraces = false) (D : va_G) (aT : Nat → ClassId) (u0 : Nat) (x0 : Nat) (v0 : Nat) (h0 : Nat) (t0 : Nat) (p0 : Nat) (o0 : Nat) (a0 : Nat) (a1 : Nat) (a5 : Nat) (a10 : Nat) (a2 : Nat) (a3 : Nat) (a4 : Nat) (a6 : Nat) (a7 : Nat) (a8 : Nat) (a9 : Nat) (x : Int32) (o : Nat → Int64) : CxH l yL_motionAtRank cL_motionAtRank 4 [(0, 9, 12, 40)] 8 1 6 132 D aT [.ref x0, .int x, .ref u0] [(u0, .inl (aT 2, 1, .inr (.inl o))), (x0, .inr (12, [.ref a0, .ref v0, .ref h0, .ref t0, .ref p0, .ref o0, .int (nI 0), .int (-1), .int (-1)])), (a0, .inr (10, [.ref a1, .ref a5, .ref a10, .int (nI 0), .int (nI 0), .int (nI 0), .int (nI 0), .int (nI 0), .int (nI 0), .int (nI 0), .int (nI 0)])), (a1, .inr (6, [.ref a2, .ref a3, .ref a4, .int (nI 0)])), (a2, .inl (aT 0, 6, .inl (fun _ => nI 0))), (a3, .inl (aT 0, 6, .inl (fun _ => nI 0))), (a4, .inl (aT 0, 6, .inl (fun _ => nI 0))), (a5, .inr (8, [.ref a6, .ref a7, .ref a8, .ref a9, .int (nI 0), .int (nI 0)])), (a6, .inl (aT 0, 12, .inl (fun _ => nI 0))), (a7, .inl (aT 0, 12, .inl (fun _ => nI 0))), (a8, .inl (aT 0, 12, .inl (fun _ => nI 0))), (a9, .inl (aT 0, 12, .inl (fun _ => nI 0))), (a10, .inl (aT 0, 4, .inl (fun _ => nI 0)))] (fun r W1 => r = nI 1) := by
  refine CxH.of RL (by decide +kernel) rfl (Nat.le_of_ble_eq_true rfl) ?_
  intro p e s m below meth c A ls C hml hl hA hr hlocks htb hZ hW
  have hl : lv_has ls 4 [(0, .ref x0), (1, .int x), (2, .ref u0)] := hl
  have hx := C.1
  have hb := C.2.1
  refine lv_aload_n hx hb dL_motionAtRank_0 rfl (lv_at hl 2 rfl) ?_
  refine lv_iconst (v := nI 0) hx hb dL_motionAtRank_1 (by decide) ?_
  refine lv_aload_n hx hb dL_motionAtRank_2 rfl (lv_at hl 0 rfl) ?_
  refine lv_iload_n hx hb dL_motionAtRank_3 rfl (lv_at hl 1 rfl) ?_
  refine cx_calli (Wr := [(u0, .inl (aT 2, 1, .inr (.inl o)))]) (cx_runV C hml hl.1 hZ hW hA (As := [.int x]) (rest := [.int (nI 0), .ref u0]) (k_X9_motionAtRank l hfl D aT x0 v0 h0 t0 p0 o0 a0 a1 a5 a10 a2 a3 a4 a6 a7 a8 a9 x) gV_L_X9_motionAtRank_80 hV_X9_motionAtRank rfl ⟨Nat.le_of_ble_eq_true rfl, Nat.le_of_ble_eq_true rfl⟩ ⟨Nat.le_of_ble_eq_true rfl, Nat.le_of_ble_eq_true rfl⟩ [1, 2, 3, 4, 5, 6, 7, 8, 9, 10, 11, 12] rfl (by decide) 1 12 rfl rfl rfl rfl (Nat.le_of_ble_eq_true rfl) dL_motionAtRank_4) hW hA [1, 2, 3, 4, 5, 6, 7, 8, 9, 10, 11, 12] [0] rfl rfl (by decide) (by decide) ?_ (fun r_4 W_4 H locs hq hW => ?_)
  · intro E ce q9 H locs hE hS h7 h8 h9
    have hE : E = _ := hE
    subst hE
    refine cx_catch C hZ ⟨0, 9, 12, 40⟩ (tableOf []) htb (by decide) (by decide) gw_799 nw_837 hS h7 h8 h9 (fun hW => ?_)
    refine lv_astore_n (lv' := [(3, .ref q9), (0, .ref x0), (1, .int x), (2, .ref u0)]) hx hb dL_motionAtRank_12 rfl hl (by decide) rfl (fun ls hl => ?_)
    refine lv_iconst (v := nI 1) hx hb dL_motionAtRank_13 (by decide) ?_
    exact cx_iretM C hr hlocks hW ⟨Nat.le_of_ble_eq_true rfl, Nat.le_of_ble_eq_true rfl⟩ (rfl) dL_motionAtRank_14
  · exact hq.elim
theorem dL_commonMotion_0 : decode cL_commonMotion 0 = .ok (.aload_n 3, 1) := by decide +kernel
theorem dL_commonMotion_1 : decode cL_commonMotion 1 = .ok (.iconst 0, 1) := by decide +kernel
theorem dL_commonMotion_2 : decode cL_commonMotion 2 = .ok (.aload_n 0, 1) := by decide +kernel
theorem dL_commonMotion_3 : decode cL_commonMotion 3 = .ok (.iload_n 1, 1) := by decide +kernel
theorem dL_commonMotion_4 : decode cL_commonMotion 4 = .ok (.iload_n 2, 1) := by decide +kernel
theorem dL_commonMotion_5 : decode cL_commonMotion 5 = .ok (.invokevirtual 83, 3) := by decide +kernel
theorem dL_commonMotion_8 : decode cL_commonMotion 8 = .ok (.i2l, 1) := by decide +kernel
theorem dL_commonMotion_9 : decode cL_commonMotion 9 = .ok (.lastore, 1) := by decide +kernel
theorem dL_commonMotion_10 : decode cL_commonMotion 10 = .ok (.goto 11, 3) := by decide +kernel
theorem dL_commonMotion_13 : decode cL_commonMotion 13 = .ok (.astore 4, 2) := by decide +kernel
theorem dL_commonMotion_15 : decode cL_commonMotion 15 = .ok (.iconst 1, 1) := by decide +kernel
theorem dL_commonMotion_16 : decode cL_commonMotion 16 = .ok (.ireturn, 1) := by decide +kernel
theorem dL_commonMotion_17 : decode cL_commonMotion 17 = .ok (.astore 4, 2) := by decide +kernel
theorem dL_commonMotion_19 : decode cL_commonMotion 19 = .ok (.iconst 2, 1) := by decide +kernel
theorem dL_commonMotion_20 : decode cL_commonMotion 20 = .ok (.ireturn, 1) := by decide +kernel
theorem dL_commonMotion_21 : decode cL_commonMotion 21 = .ok (.iconst 0, 1) := by decide +kernel
theorem dL_commonMotion_22 : decode cL_commonMotion 22 = .ok (.ireturn, 1) := by decide +kernel
theorem gV_L_X9_commonMotion_83 : GoodIn gw (wsV RL 83 RX9 yX9_commonMotion (Cond.code yX9_commonMotion cX9_commonMotion 5 (some .int) :: gw)) := gdV gw_987 gw_988 gw_989 gw_67 gw_990
theorem hV_X9_commonMotion : yX9_commonMotion.cls = RX9 ∧ yX9_commonMotion.cls ≠ "java/lang/invoke/MethodHandle" ∧ yX9_commonMotion.cls ≠ "java/lang/invoke/VarHandle" ∧ (parseMethodDescriptor yX9_commonMotion.desc).map (fun d => d.parameters.length) = some 2 := ⟨rfl, by decide +kernel, by decide +kernel, by decide +kernel⟩
set_option maxHeartbeats 2000000 in
set_option maxRecDepth 20000 in
theorem k_L_commonMotion (l : Launch) (hfl : l.stackTraces = false) (D : va_G) (aT : Nat → ClassId) (u0 : Nat) (x0 : Nat) (v0 : Nat) (h0 : Nat) (t0 : Nat) (p0 : Nat) (o0 : Nat) (a0 : Nat) (a1 : Nat) (a5 : Nat) (a10 : Nat) (a2 : Nat) (a3 : Nat) (a4 : Nat) (a6 : Nat) (a7 : Nat) (a8 : Nat) (a9 : Nat) (x : Int32) (y : Int32) (o : Nat → Int64) : CxH l yL_commonMotion cL_commonMotion 5 [(0, 10, 13, 24), (0, 10, 17, 86)] 8 1 6 136 D aT [.ref x0, .int x, .int y, .ref u0] [(u0, .inl (aT 2, 1, .inr (.inl o))), (x0, .inr (12, [.ref a0, .ref v0, .ref h0, .ref t0, .ref p0, .ref o0, .int (nI 0), .int (-1), .int (-1)])), (a0, .inr (10, [.ref a1, .ref a5, .ref a10, .int (nI 0), .int (nI 0), .int (nI 0), .int (nI 0), .int (nI 0), .int (nI 0), .int (nI 0), .int (nI 0)])), (a1, .inr (6, [.ref a2, .ref a3, .ref a4, .int (nI 0)])), (a2, .inl (aT 0, 6, .inl (fun _ => nI 0))), (a3, .inl (aT 0, 6, .inl (fun _ => nI 0))), (a4, .inl (aT 0, 6, .inl (fun _ => nI 0))), (a5, .inr (8, [.ref a6, .ref a7, .ref a8, .ref a9, .int (nI 0), .int (nI 0)])), (a6, .inl (aT 0, 12, .inl (fun _ => nI 0))), (a7, .inl (aT 0, 12, .inl (fun _ => nI 0))), (a8, .inl (aT 0, 12, .inl (fun _ => nI 0))), (a9, .inl (aT 0, 12, .inl (fun _ => nI 0))), (a10, .inl (aT 0, 4, .inl (fun _ => nI 0)))] (fun r W1 => r = nI 1) := by
  refine CxH.of RL (by decide +kernel) rfl (Nat.le_of_ble_eq_true rfl) ?_
  intro p e s m below meth c A ls C hml hl hA hr hlocks htb hZ hW
  have hl : lv_has ls 5 [(0, .ref x0), (1, .int x), (2, .int y), (3, .ref u0)] := hl
  have hx := C.1
  have hb := C.2.1
  refine lv_aload_n hx hb dL_commonMotion_0 rfl (lv_at hl 3 rfl) ?_
  refine lv_iconst (v := nI 0) hx hb dL_commonMotion_1 (by decide) ?_
  refine lv_aload_n hx hb dL_commonMotion_2 rfl (lv_at hl 0 rfl) ?_
  refine lv_iload_n hx hb dL_commonMotion_3 rfl (lv_at hl 1 rfl) ?_
  refine lv_iload_n hx hb dL_commonMotion_4 rfl (lv_at hl 2 rfl) ?_
  refine cx_calli (Wr := [(u0, .inl (aT 2, 1, .inr (.inl o)))]) (cx_runV C hml hl.1 hZ hW hA (As := [.int x, .int y]) (rest := [.int (nI 0), .ref u0]) (k_X9_commonMotion l hfl D aT x0 v0 h0 t0 p0 o0 a0 a1 a5 a10 a2 a3 a4 a6 a7 a8 a9 x y) gV_L_X9_commonMotion_83 hV_X9_commonMotion rfl ⟨Nat.le_of_ble_eq_true rfl, Nat.le_of_ble_eq_true rfl⟩ ⟨Nat.le_of_ble_eq_true rfl, Nat.le_of_ble_eq_true rfl⟩ [1, 2, 3, 4, 5, 6, 7, 8, 9, 10, 11, 12] rfl (by decide) 1 12 rfl rfl rfl rfl (Nat.le_of_ble_eq_true rfl) dL_commonMotion_5) hW hA [1, 2, 3, 4, 5, 6, 7, 8, 9, 10, 11, 12] [0] rfl rfl (by decide) (by decide) ?_ (fun r_5 W_5 H locs hq hW => ?_)
  · intro E ce q9 H locs hE hS h7 h8 h9
    have hE : E = _ := hE
    subst hE
    refine cx_catch C hZ ⟨0, 10, 13, 24⟩ (tableOf [(0, 10, 17, 86)]) htb (by decide) (by decide) gw_690 nw_705 hS h7 h8 h9 (fun hW => ?_)
    refine lv_astore (lv' := [(4, .ref q9), (0, .ref x0), (1, .int x), (2, .int y), (3, .ref u0)]) hx hb dL_commonMotion_13 hl (by decide) rfl (fun ls hl => ?_)
    refine lv_iconst (v := nI 1) hx hb dL_commonMotion_15 (by decide) ?_
    exact cx_iretM C hr hlocks hW ⟨Nat.le_of_ble_eq_true rfl, Nat.le_of_ble_eq_true rfl⟩ (rfl) dL_commonMotion_16
  · exact hq.elim
theorem dL_commonMotionByRows_0 : decode cL_commonMotionByRows 0 = .ok (.aload_n 3, 1) := by decide +kernel
theorem dL_commonMotionByRows_1 : decode cL_commonMotionByRows 1 = .ok (.iconst 0, 1) := by decide +kernel
theorem dL_commonMotionByRows_2 : decode cL_commonMotionByRows 2 = .ok (.aload_n 0, 1) := by decide +kernel
theorem dL_commonMotionByRows_3 : decode cL_commonMotionByRows 3 = .ok (.iload_n 1, 1) := by decide +kernel
theorem dL_commonMotionByRows_4 : decode cL_commonMotionByRows 4 = .ok (.iload_n 2, 1) := by decide +kernel
theorem dL_commonMotionByRows_5 : decode cL_commonMotionByRows 5 = .ok (.invokevirtual 88, 3) := by decide +kernel
theorem dL_commonMotionByRows_8 : decode cL_commonMotionByRows 8 = .ok (.i2l, 1) := by decide +kernel
theorem dL_commonMotionByRows_9 : decode cL_commonMotionByRows 9 = .ok (.lastore, 1) := by decide +kernel
theorem dL_commonMotionByRows_10 : decode cL_commonMotionByRows 10 = .ok (.goto 11, 3) := by decide +kernel
theorem dL_commonMotionByRows_13 : decode cL_commonMotionByRows 13 = .ok (.astore 4, 2) := by decide +kernel
theorem dL_commonMotionByRows_15 : decode cL_commonMotionByRows 15 = .ok (.iconst 1, 1) := by decide +kernel
theorem dL_commonMotionByRows_16 : decode cL_commonMotionByRows 16 = .ok (.ireturn, 1) := by decide +kernel
theorem dL_commonMotionByRows_17 : decode cL_commonMotionByRows 17 = .ok (.astore 4, 2) := by decide +kernel
theorem dL_commonMotionByRows_19 : decode cL_commonMotionByRows 19 = .ok (.iconst 2, 1) := by decide +kernel
theorem dL_commonMotionByRows_20 : decode cL_commonMotionByRows 20 = .ok (.ireturn, 1) := by decide +kernel
theorem dL_commonMotionByRows_21 : decode cL_commonMotionByRows 21 = .ok (.iconst 0, 1) := by decide +kernel
theorem dL_commonMotionByRows_22 : decode cL_commonMotionByRows 22 = .ok (.ireturn, 1) := by decide +kernel
theorem gV_L_X9_commonMotionByRows_88 : GoodIn gw (wsV RL 88 RX9 yX9_commonMotionByRows (Cond.code yX9_commonMotionByRows cX9_commonMotionByRows 5 (some .int) :: gw)) := gdV gw_1015 gw_1016 gw_1017 gw_67 gw_1018
theorem hV_X9_commonMotionByRows : yX9_commonMotionByRows.cls = RX9 ∧ yX9_commonMotionByRows.cls ≠ "java/lang/invoke/MethodHandle" ∧ yX9_commonMotionByRows.cls ≠ "java/lang/invoke/VarHandle" ∧ (parseMethodDescriptor yX9_commonMotionByRows.desc).map (fun d => d.parameters.length) = some 2 := ⟨rfl, by decide +kernel, by decide +kernel, by decide +kernel⟩
set_option maxHeartbeats 2000000 in
set_option maxRecDepth 20000 in
theorem k_L_commonMotionByRows (l : Launch) (hfl : l.stackTraces = false) (D : va_G) (aT : Nat → ClassId) (u0 : Nat) (x0 : Nat) (v0 : Nat) (h0 : Nat) (t0 : Nat) (p0 : Nat) (o0 : Nat) (a0 : Nat) (a1 : Nat) (a5 : Nat) (a10 : Nat) (a2 : Nat) (a3 : Nat) (a4 : Nat) (a6 : Nat) (a7 : Nat) (a8 : Nat) (a9 : Nat) (x : Int32) (y : Int32) (o : Nat → Int64) : CxH l yL_commonMotionByRows cL_commonMotionByRows 5 [(0, 10, 13, 24), (0, 10, 17, 86)] 8 1 6 136 D aT [.ref x0, .int x, .int y, .ref u0] [(u0, .inl (aT 2, 1, .inr (.inl o))), (x0, .inr (12, [.ref a0, .ref v0, .ref h0, .ref t0, .ref p0, .ref o0, .int (nI 0), .int (-1), .int (-1)])), (a0, .inr (10, [.ref a1, .ref a5, .ref a10, .int (nI 0), .int (nI 0), .int (nI 0), .int (nI 0), .int (nI 0), .int (nI 0), .int (nI 0), .int (nI 0)])), (a1, .inr (6, [.ref a2, .ref a3, .ref a4, .int (nI 0)])), (a2, .inl (aT 0, 6, .inl (fun _ => nI 0))), (a3, .inl (aT 0, 6, .inl (fun _ => nI 0))), (a4, .inl (aT 0, 6, .inl (fun _ => nI 0))), (a5, .inr (8, [.ref a6, .ref a7, .ref a8, .ref a9, .int (nI 0), .int (nI 0)])), (a6, .inl (aT 0, 12, .inl (fun _ => nI 0))), (a7, .inl (aT 0, 12, .inl (fun _ => nI 0))), (a8, .inl (aT 0, 12, .inl (fun _ => nI 0))), (a9, .inl (aT 0, 12, .inl (fun _ => nI 0))), (a10, .inl (aT 0, 4, .inl (fun _ => nI 0)))] (fun r W1 => r = nI 1) := by
  refine CxH.of RL (by decide +kernel) rfl (Nat.le_of_ble_eq_true rfl) ?_
  intro p e s m below meth c A ls C hml hl hA hr hlocks htb hZ hW
  have hl : lv_has ls 5 [(0, .ref x0), (1, .int x), (2, .int y), (3, .ref u0)] := hl
  have hx := C.1
  have hb := C.2.1
  refine lv_aload_n hx hb dL_commonMotionByRows_0 rfl (lv_at hl 3 rfl) ?_
  refine lv_iconst (v := nI 0) hx hb dL_commonMotionByRows_1 (by decide) ?_
  refine lv_aload_n hx hb dL_commonMotionByRows_2 rfl (lv_at hl 0 rfl) ?_
  refine lv_iload_n hx hb dL_commonMotionByRows_3 rfl (lv_at hl 1 rfl) ?_
  refine lv_iload_n hx hb dL_commonMotionByRows_4 rfl (lv_at hl 2 rfl) ?_
  refine cx_calli (Wr := [(u0, .inl (aT 2, 1, .inr (.inl o)))]) (cx_runV C hml hl.1 hZ hW hA (As := [.int x, .int y]) (rest := [.int (nI 0), .ref u0]) (k_X9_commonMotionByRows l hfl D aT x0 v0 h0 t0 p0 o0 a0 a1 a5 a10 a2 a3 a4 a6 a7 a8 a9 x y) gV_L_X9_commonMotionByRows_88 hV_X9_commonMotionByRows rfl ⟨Nat.le_of_ble_eq_true rfl, Nat.le_of_ble_eq_true rfl⟩ ⟨Nat.le_of_ble_eq_true rfl, Nat.le_of_ble_eq_true rfl⟩ [1, 2, 3, 4, 5, 6, 7, 8, 9, 10, 11, 12] rfl (by decide) 1 12 rfl rfl rfl rfl (Nat.le_of_ble_eq_true rfl) dL_commonMotionByRows_5) hW hA [1, 2, 3, 4, 5, 6, 7, 8, 9, 10, 11, 12] [0] rfl rfl (by decide) (by decide) ?_ (fun r_5 W_5 H locs hq hW => ?_)
  · intro E ce q9 H locs hE hS h7 h8 h9
    have hE : E = _ := hE
    subst hE
    refine cx_catch C hZ ⟨0, 10, 13, 24⟩ (tableOf [(0, 10, 17, 86)]) htb (by decide) (by decide) gw_690 nw_705 hS h7 h8 h9 (fun hW => ?_)
    refine lv_astore (lv' := [(4, .ref q9), (0, .ref x0), (1, .int x), (2, .int y), (3, .ref u0)]) hx hb dL_commonMotionByRows_13 hl (by decide) rfl (fun ls hl => ?_)
    refine lv_iconst (v := nI 1) hx hb dL_commonMotionByRows_15 (by decide) ?_
    exact cx_iretM C hr hlocks hW ⟨Nat.le_of_ble_eq_true rfl, Nat.le_of_ble_eq_true rfl⟩ (rfl) dL_commonMotionByRows_16
  · exact hq.elim
theorem dL_pathSize_0 : decode cL_pathSize 0 = .ok (.aload_n 3, 1) := by decide +kernel
theorem dL_pathSize_1 : decode cL_pathSize 1 = .ok (.iconst 0, 1) := by decide +kernel
theorem dL_pathSize_2 : decode cL_pathSize 2 = .ok (.aload_n 0, 1) := by decide +kernel
theorem dL_pathSize_3 : decode cL_pathSize 3 = .ok (.iload_n 1, 1) := by decide +kernel
theorem dL_pathSize_4 : decode cL_pathSize 4 = .ok (.iload_n 2, 1) := by decide +kernel
theorem dL_pathSize_5 : decode cL_pathSize 5 = .ok (.invokevirtual 91, 3) := by decide +kernel
theorem dL_pathSize_8 : decode cL_pathSize 8 = .ok (.i2l, 1) := by decide +kernel
theorem dL_pathSize_9 : decode cL_pathSize 9 = .ok (.lastore, 1) := by decide +kernel
theorem dL_pathSize_10 : decode cL_pathSize 10 = .ok (.goto 11, 3) := by decide +kernel
theorem dL_pathSize_13 : decode cL_pathSize 13 = .ok (.astore 4, 2) := by decide +kernel
theorem dL_pathSize_15 : decode cL_pathSize 15 = .ok (.iconst 1, 1) := by decide +kernel
theorem dL_pathSize_16 : decode cL_pathSize 16 = .ok (.ireturn, 1) := by decide +kernel
theorem dL_pathSize_17 : decode cL_pathSize 17 = .ok (.astore 4, 2) := by decide +kernel
theorem dL_pathSize_19 : decode cL_pathSize 19 = .ok (.iconst 2, 1) := by decide +kernel
theorem dL_pathSize_20 : decode cL_pathSize 20 = .ok (.ireturn, 1) := by decide +kernel
theorem dL_pathSize_21 : decode cL_pathSize 21 = .ok (.iconst 0, 1) := by decide +kernel
theorem dL_pathSize_22 : decode cL_pathSize 22 = .ok (.ireturn, 1) := by decide +kernel
theorem gV_L_X9_pathSize_91 : GoodIn gw (wsV RL 91 RX9 yX9_pathSize (Cond.code yX9_pathSize cX9_pathSize 7 (some .int) :: gw)) := gdV gw_1023 gw_1024 gw_1025 gw_67 gw_1026
theorem hV_X9_pathSize : yX9_pathSize.cls = RX9 ∧ yX9_pathSize.cls ≠ "java/lang/invoke/MethodHandle" ∧ yX9_pathSize.cls ≠ "java/lang/invoke/VarHandle" ∧ (parseMethodDescriptor yX9_pathSize.desc).map (fun d => d.parameters.length) = some 2 := ⟨rfl, by decide +kernel, by decide +kernel, by decide +kernel⟩
set_option maxHeartbeats 2000000 in
set_option maxRecDepth 20000 in
theorem k_L_pathSize (l : Launch) (hfl : l.stackTraces = false) (D : va_G) (aT : Nat → ClassId) (u0 : Nat) (x0 : Nat) (v0 : Nat) (h0 : Nat) (t0 : Nat) (p0 : Nat) (o0 : Nat) (a0 : Nat) (a1 : Nat) (a5 : Nat) (a10 : Nat) (a2 : Nat) (a3 : Nat) (a4 : Nat) (a6 : Nat) (a7 : Nat) (a8 : Nat) (a9 : Nat) (x : Int32) (y : Int32) (o : Nat → Int64) : CxH l yL_pathSize cL_pathSize 5 [(0, 10, 13, 24), (0, 10, 17, 86)] 8 1 6 138 D aT [.ref x0, .int x, .int y, .ref u0] [(u0, .inl (aT 2, 1, .inr (.inl o))), (x0, .inr (12, [.ref a0, .ref v0, .ref h0, .ref t0, .ref p0, .ref o0, .int (nI 0), .int (-1), .int (-1)])), (a0, .inr (10, [.ref a1, .ref a5, .ref a10, .int (nI 0), .int (nI 0), .int (nI 0), .int (nI 0), .int (nI 0), .int (nI 0), .int (nI 0), .int (nI 0)])), (a1, .inr (6, [.ref a2, .ref a3, .ref a4, .int (nI 0)])), (a2, .inl (aT 0, 6, .inl (fun _ => nI 0))), (a3, .inl (aT 0, 6, .inl (fun _ => nI 0))), (a4, .inl (aT 0, 6, .inl (fun _ => nI 0))), (a5, .inr (8, [.ref a6, .ref a7, .ref a8, .ref a9, .int (nI 0), .int (nI 0)])), (a6, .inl (aT 0, 12, .inl (fun _ => nI 0))), (a7, .inl (aT 0, 12, .inl (fun _ => nI 0))), (a8, .inl (aT 0, 12, .inl (fun _ => nI 0))), (a9, .inl (aT 0, 12, .inl (fun _ => nI 0))), (a10, .inl (aT 0, 4, .inl (fun _ => nI 0)))] (fun r W1 => r = nI 1) := by
  refine CxH.of RL (by decide +kernel) rfl (Nat.le_of_ble_eq_true rfl) ?_
  intro p e s m below meth c A ls C hml hl hA hr hlocks htb hZ hW
  have hl : lv_has ls 5 [(0, .ref x0), (1, .int x), (2, .int y), (3, .ref u0)] := hl
  have hx := C.1
  have hb := C.2.1
  refine lv_aload_n hx hb dL_pathSize_0 rfl (lv_at hl 3 rfl) ?_
  refine lv_iconst (v := nI 0) hx hb dL_pathSize_1 (by decide) ?_
  refine lv_aload_n hx hb dL_pathSize_2 rfl (lv_at hl 0 rfl) ?_
  refine lv_iload_n hx hb dL_pathSize_3 rfl (lv_at hl 1 rfl) ?_
  refine lv_iload_n hx hb dL_pathSize_4 rfl (lv_at hl 2 rfl) ?_
  refine cx_calli (Wr := [(u0, .inl (aT 2, 1, .inr (.inl o)))]) (cx_runV C hml hl.1 hZ hW hA (As := [.int x, .int y]) (rest := [.int (nI 0), .ref u0]) (k_X9_pathSize l hfl D aT x0 v0 h0 t0 p0 o0 a0 a1 a5 a10 a2 a3 a4 a6 a7 a8 a9 x y) gV_L_X9_pathSize_91 hV_X9_pathSize rfl ⟨Nat.le_of_ble_eq_true rfl, Nat.le_of_ble_eq_true rfl⟩ ⟨Nat.le_of_ble_eq_true rfl, Nat.le_of_ble_eq_true rfl⟩ [1, 2, 3, 4, 5, 6, 7, 8, 9, 10, 11, 12] rfl (by decide) 1 12 rfl rfl rfl rfl (Nat.le_of_ble_eq_true rfl) dL_pathSize_5) hW hA [1, 2, 3, 4, 5, 6, 7, 8, 9, 10, 11, 12] [0] rfl rfl (by decide) (by decide) ?_ (fun r_5 W_5 H locs hq hW => ?_)
  · intro E ce q9 H locs hE hS h7 h8 h9
    have hE : E = _ := hE
    subst hE
    refine cx_catch C hZ ⟨0, 10, 13, 24⟩ (tableOf [(0, 10, 17, 86)]) htb (by decide) (by decide) gw_690 nw_705 hS h7 h8 h9 (fun hW => ?_)
    refine lv_astore (lv' := [(4, .ref q9), (0, .ref x0), (1, .int x), (2, .int y), (3, .ref u0)]) hx hb dL_pathSize_13 hl (by decide) rfl (fun ls hl => ?_)
    refine lv_iconst (v := nI 1) hx hb dL_pathSize_15 (by decide) ?_
    exact cx_iretM C hr hlocks hW ⟨Nat.le_of_ble_eq_true rfl, Nat.le_of_ble_eq_true rfl⟩ (rfl) dL_pathSize_16
  · exact hq.elim
theorem dL_longestPath_0 : decode cL_longestPath 0 = .ok (.aload_n 2, 1) := by decide +kernel
theorem dL_longestPath_1 : decode cL_longestPath 1 = .ok (.iconst 0, 1) := by decide +kernel
theorem dL_longestPath_2 : decode cL_longestPath 2 = .ok (.aload_n 0, 1) := by decide +kernel
theorem dL_longestPath_3 : decode cL_longestPath 3 = .ok (.iload_n 1, 1) := by decide +kernel
theorem dL_longestPath_4 : decode cL_longestPath 4 = .ok (.invokevirtual 94, 3) := by decide +kernel
theorem dL_longestPath_7 : decode cL_longestPath 7 = .ok (.i2l, 1) := by decide +kernel
theorem dL_longestPath_8 : decode cL_longestPath 8 = .ok (.lastore, 1) := by decide +kernel
theorem dL_longestPath_9 : decode cL_longestPath 9 = .ok (.goto 6, 3) := by decide +kernel
theorem dL_longestPath_12 : decode cL_longestPath 12 = .ok (.astore_n 3, 1) := by decide +kernel
theorem dL_longestPath_13 : decode cL_longestPath 13 = .ok (.iconst 1, 1) := by decide +kernel
theorem dL_longestPath_14 : decode cL_longestPath 14 = .ok (.ireturn, 1) := by decide +kernel
theorem dL_longestPath_15 : decode cL_longestPath 15 = .ok (.iconst 0, 1) := by decide +kernel
theorem dL_longestPath_16 : decode cL_longestPath 16 = .ok (.ireturn, 1) := by decide +kernel
theorem gV_L_X9_longestPath_94 : GoodIn gw (wsV RL 94 RX9 yX9_longestPath (Cond.code yX9_longestPath cX9_longestPath 2 (some .int) :: gw)) := gdV gw_1031 gw_1032 gw_1033 gw_67 gw_1034
theorem hV_X9_longestPath : yX9_longestPath.cls = RX9 ∧ yX9_longestPath.cls ≠ "java/lang/invoke/MethodHandle" ∧ yX9_longestPath.cls ≠ "java/lang/invoke/VarHandle" ∧ (parseMethodDescriptor yX9_longestPath.desc).map (fun d => d.parameters.length) = some 1 := ⟨rfl, by decide +kernel, by decide +kernel, by decide +kernel⟩
set_option maxHeartbeats 2000000 in
set_option maxRecDepth 20000 in
theorem k_L_longestPath (l : Launch) (hfl : l.stackTraces = false) (D : va_G) (aT : Nat → ClassId) (u0 : Nat) (x0 : Nat) (v0 : Nat) (h0 : Nat) (t0 : Nat) (p0 : Nat) (o0 : Nat) (a0 : Nat) (a1 : Nat) (a5 : Nat) (a10 : Nat) (a2 : Nat) (a3 : Nat) (a4 : Nat) (a6 : Nat) (a7 : Nat) (a8 : Nat) (a9 : Nat) (x : Int32) (o : Nat → Int64) : CxH l yL_longestPath cL_longestPath 4 [(0, 9, 12, 24)] 8 1 6 133 D aT [.ref x0, .int x, .ref u0] [(u0, .inl (aT 2, 1, .inr (.inl o))), (x0, .inr (12, [.ref a0, .ref v0, .ref h0, .ref t0, .ref p0, .ref o0, .int (nI 0), .int (-1), .int (-1)])), (a0, .inr (10, [.ref a1, .ref a5, .ref a10, .int (nI 0), .int (nI 0), .int (nI 0), .int (nI 0), .int (nI 0), .int (nI 0), .int (nI 0), .int (nI 0)])), (a1, .inr (6, [.ref a2, .ref a3, .ref a4, .int (nI 0)])), (a2, .inl (aT 0, 6, .inl (fun _ => nI 0))), (a3, .inl (aT 0, 6, .inl (fun _ => nI 0))), (a4, .inl (aT 0, 6, .inl (fun _ => nI 0))), (a5, .inr (8, [.ref a6, .ref a7, .ref a8, .ref a9, .int (nI 0), .int (nI 0)])), (a6, .inl (aT 0, 12, .inl (fun _ => nI 0))), (a7, .inl (aT 0, 12, .inl (fun _ => nI 0))), (a8, .inl (aT 0, 12, .inl (fun _ => nI 0))), (a9, .inl (aT 0, 12, .inl (fun _ => nI 0))), (a10, .inl (aT 0, 4, .inl (fun _ => nI 0)))] (fun r W1 => r = nI 1) := by
  refine CxH.of RL (by decide +kernel) rfl (Nat.le_of_ble_eq_true rfl) ?_
  intro p e s m below meth c A ls C hml hl hA hr hlocks htb hZ hW
  have hl : lv_has ls 4 [(0, .ref x0), (1, .int x), (2, .ref u0)] := hl
  have hx := C.1
  have hb := C.2.1
  refine lv_aload_n hx hb dL_longestPath_0 rfl (lv_at hl 2 rfl) ?_
  refine lv_iconst (v := nI 0) hx hb dL_longestPath_1 (by decide) ?_
  refine lv_aload_n hx hb dL_longestPath_2 rfl (lv_at hl 0 rfl) ?_
  refine lv_iload_n hx hb dL_longestPath_3 rfl (lv_at hl 1 rfl) ?_
  refine cx_calli (Wr := [(u0, .inl (aT 2, 1, .inr (.inl o)))]) (cx_runV C hml hl.1 hZ hW hA (As := [.int x]) (rest := [.int (nI 0), .ref u0]) (k_X9_longestPath l hfl D aT x0 v0 h0 t0 p0 o0 a0 a1 a5 a10 a2 a3 a4 a6 a7 a8 a9 x) gV_L_X9_longestPath_94 hV_X9_longestPath rfl ⟨Nat.le_of_ble_eq_true rfl, Nat.le_of_ble_eq_true rfl⟩ ⟨Nat.le_of_ble_eq_true rfl, Nat.le_of_ble_eq_true rfl⟩ [1, 2, 3, 4, 5, 6, 7, 8, 9, 10, 11, 12] rfl (by decide) 1 12 rfl rfl rfl rfl (Nat.le_of_ble_eq_true rfl) dL_longestPath_4) hW hA [1, 2, 3, 4, 5, 6, 7, 8, 9, 10, 11, 12] [0] rfl rfl (by decide) (by decide) ?_ (fun r_4 W_4 H locs hq hW => ?_)
  · intro E ce q9 H locs hE hS h7 h8 h9
    have hE : E = _ := hE
    subst hE
    refine cx_catch C hZ ⟨0, 9, 12, 24⟩ (tableOf []) htb (by decide) (by decide) gw_690 nw_705 hS h7 h8 h9 (fun hW => ?_)
    refine lv_astore_n (lv' := [(3, .ref q9), (0, .ref x0), (1, .int x), (2, .ref u0)]) hx hb dL_longestPath_12 rfl hl (by decide) rfl (fun ls hl => ?_)
    refine lv_iconst (v := nI 1) hx hb dL_longestPath_13 (by decide) ?_
    exact cx_iretM C hr hlocks hW ⟨Nat.le_of_ble_eq_true rfl, Nat.le_of_ble_eq_true rfl⟩ (rfl) dL_longestPath_14
  · exact hq.elim
theorem dL_longestPathBySweeps_0 : decode cL_longestPathBySweeps 0 = .ok (.aload_n 2, 1) := by decide +kernel
theorem dL_longestPathBySweeps_1 : decode cL_longestPathBySweeps 1 = .ok (.iconst 0, 1) := by decide +kernel
theorem dL_longestPathBySweeps_2 : decode cL_longestPathBySweeps 2 = .ok (.aload_n 0, 1) := by decide +kernel
theorem dL_longestPathBySweeps_3 : decode cL_longestPathBySweeps 3 = .ok (.iload_n 1, 1) := by decide +kernel
theorem dL_longestPathBySweeps_4 : decode cL_longestPathBySweeps 4 = .ok (.invokevirtual 97, 3) := by decide +kernel
theorem dL_longestPathBySweeps_7 : decode cL_longestPathBySweeps 7 = .ok (.i2l, 1) := by decide +kernel
theorem dL_longestPathBySweeps_8 : decode cL_longestPathBySweeps 8 = .ok (.lastore, 1) := by decide +kernel
theorem dL_longestPathBySweeps_9 : decode cL_longestPathBySweeps 9 = .ok (.goto 6, 3) := by decide +kernel
theorem dL_longestPathBySweeps_12 : decode cL_longestPathBySweeps 12 = .ok (.astore_n 3, 1) := by decide +kernel
theorem dL_longestPathBySweeps_13 : decode cL_longestPathBySweeps 13 = .ok (.iconst 1, 1) := by decide +kernel
theorem dL_longestPathBySweeps_14 : decode cL_longestPathBySweeps 14 = .ok (.ireturn, 1) := by decide +kernel
theorem dL_longestPathBySweeps_15 : decode cL_longestPathBySweeps 15 = .ok (.iconst 0, 1) := by decide +kernel
theorem dL_longestPathBySweeps_16 : decode cL_longestPathBySweeps 16 = .ok (.ireturn, 1) := by decide +kernel
theorem gV_L_X9_longestPathBySweeps_97 : GoodIn gw (wsV RL 97 RX9 yX9_longestPathBySweeps (Cond.code yX9_longestPathBySweeps cX9_longestPathBySweeps 2 (some .int) :: gw)) := gdV gw_1039 gw_1040 gw_1041 gw_67 gw_1042
theorem hV_X9_longestPathBySweeps : yX9_longestPathBySweeps.cls = RX9 ∧ yX9_longestPathBySweeps.cls ≠ "java/lang/invoke/MethodHandle" ∧ yX9_longestPathBySweeps.cls ≠ "java/lang/invoke/VarHandle" ∧ (parseMethodDescriptor yX9_longestPathBySweeps.desc).map (fun d => d.parameters.length) = some 1 := ⟨rfl, by decide +kernel, by decide +kernel, by decide +kernel⟩
set_option maxHeartbeats 2000000 in
set_option maxRecDepth 20000 in
theorem k_L_longestPathBySweeps (l : Launch) (hfl : l.stackTraces = false) (D : va_G) (aT : Nat → ClassId) (u0 : Nat) (x0 : Nat) (v0 : Nat) (h0 : Nat) (t0 : Nat) (p0 : Nat) (o0 : Nat) (a0 : Nat) (a1 : Nat) (a5 : Nat) (a10 : Nat) (a2 : Nat) (a3 : Nat) (a4 : Nat) (a6 : Nat) (a7 : Nat) (a8 : Nat) (a9 : Nat) (x : Int32) (o : Nat → Int64) : CxH l yL_longestPathBySweeps cL_longestPathBySweeps 4 [(0, 9, 12, 24)] 8 1 6 133 D aT [.ref x0, .int x, .ref u0] [(u0, .inl (aT 2, 1, .inr (.inl o))), (x0, .inr (12, [.ref a0, .ref v0, .ref h0, .ref t0, .ref p0, .ref o0, .int (nI 0), .int (-1), .int (-1)])), (a0, .inr (10, [.ref a1, .ref a5, .ref a10, .int (nI 0), .int (nI 0), .int (nI 0), .int (nI 0), .int (nI 0), .int (nI 0), .int (nI 0), .int (nI 0)])), (a1, .inr (6, [.ref a2, .ref a3, .ref a4, .int (nI 0)])), (a2, .inl (aT 0, 6, .inl (fun _ => nI 0))), (a3, .inl (aT 0, 6, .inl (fun _ => nI 0))), (a4, .inl (aT 0, 6, .inl (fun _ => nI 0))), (a5, .inr (8, [.ref a6, .ref a7, .ref a8, .ref a9, .int (nI 0), .int (nI 0)])), (a6, .inl (aT 0, 12, .inl (fun _ => nI 0))), (a7, .inl (aT 0, 12, .inl (fun _ => nI 0))), (a8, .inl (aT 0, 12, .inl (fun _ => nI 0))), (a9, .inl (aT 0, 12, .inl (fun _ => nI 0))), (a10, .inl (aT 0, 4, .inl (fun _ => nI 0)))] (fun r W1 => r = nI 1) := by
  refine CxH.of RL (by decide +kernel) rfl (Nat.le_of_ble_eq_true rfl) ?_
  intro p e s m below meth c A ls C hml hl hA hr hlocks htb hZ hW
  have hl : lv_has ls 4 [(0, .ref x0), (1, .int x), (2, .ref u0)] := hl
  have hx := C.1
  have hb := C.2.1
  refine lv_aload_n hx hb dL_longestPathBySweeps_0 rfl (lv_at hl 2 rfl) ?_
  refine lv_iconst (v := nI 0) hx hb dL_longestPathBySweeps_1 (by decide) ?_
  refine lv_aload_n hx hb dL_longestPathBySweeps_2 rfl (lv_at hl 0 rfl) ?_
  refine lv_iload_n hx hb dL_longestPathBySweeps_3 rfl (lv_at hl 1 rfl) ?_
  refine cx_calli (Wr := [(u0, .inl (aT 2, 1, .inr (.inl o)))]) (cx_runV C hml hl.1 hZ hW hA (As := [.int x]) (rest := [.int (nI 0), .ref u0]) (k_X9_longestPathBySweeps l hfl D aT x0 v0 h0 t0 p0 o0 a0 a1 a5 a10 a2 a3 a4 a6 a7 a8 a9 x) gV_L_X9_longestPathBySweeps_97 hV_X9_longestPathBySweeps rfl ⟨Nat.le_of_ble_eq_true rfl, Nat.le_of_ble_eq_true rfl⟩ ⟨Nat.le_of_ble_eq_true rfl, Nat.le_of_ble_eq_true rfl⟩ [1, 2, 3, 4, 5, 6, 7, 8, 9, 10, 11, 12] rfl (by decide) 1 12 rfl rfl rfl rfl (Nat.le_of_ble_eq_true rfl) dL_longestPathBySweeps_4) hW hA [1, 2, 3, 4, 5, 6, 7, 8, 9, 10, 11, 12] [0] rfl rfl (by decide) (by decide) ?_ (fun r_4 W_4 H locs hq hW => ?_)
  · intro E ce q9 H locs hE hS h7 h8 h9
    have hE : E = _ := hE
    subst hE
    refine cx_catch C hZ ⟨0, 9, 12, 24⟩ (tableOf []) htb (by decide) (by decide) gw_690 nw_705 hS h7 h8 h9 (fun hW => ?_)
    refine lv_astore_n (lv' := [(3, .ref q9), (0, .ref x0), (1, .int x), (2, .ref u0)]) hx hb dL_longestPathBySweeps_12 rfl hl (by decide) rfl (fun ls hl => ?_)
    refine lv_iconst (v := nI 1) hx hb dL_longestPathBySweeps_13 (by decide) ?_
    exact cx_iretM C hr hlocks hW ⟨Nat.le_of_ble_eq_true rfl, Nat.le_of_ble_eq_true rfl⟩ (rfl) dL_longestPathBySweeps_14
  · exact hq.elim
theorem dL_minutesIn_0 : decode cL_minutesIn 0 = .ok (.aload_n 2, 1) := by decide +kernel
theorem dL_minutesIn_1 : decode cL_minutesIn 1 = .ok (.iconst 0, 1) := by decide +kernel
theorem dL_minutesIn_2 : decode cL_minutesIn 2 = .ok (.aload_n 0, 1) := by decide +kernel
theorem dL_minutesIn_3 : decode cL_minutesIn 3 = .ok (.iload_n 1, 1) := by decide +kernel
theorem dL_minutesIn_4 : decode cL_minutesIn 4 = .ok (.invokevirtual 100, 3) := by decide +kernel
theorem dL_minutesIn_7 : decode cL_minutesIn 7 = .ok (.i2l, 1) := by decide +kernel
theorem dL_minutesIn_8 : decode cL_minutesIn 8 = .ok (.lastore, 1) := by decide +kernel
theorem dL_minutesIn_9 : decode cL_minutesIn 9 = .ok (.goto 6, 3) := by decide +kernel
theorem dL_minutesIn_12 : decode cL_minutesIn 12 = .ok (.astore_n 3, 1) := by decide +kernel
theorem dL_minutesIn_13 : decode cL_minutesIn 13 = .ok (.iconst 1, 1) := by decide +kernel
theorem dL_minutesIn_14 : decode cL_minutesIn 14 = .ok (.ireturn, 1) := by decide +kernel
theorem dL_minutesIn_15 : decode cL_minutesIn 15 = .ok (.iconst 0, 1) := by decide +kernel
theorem dL_minutesIn_16 : decode cL_minutesIn 16 = .ok (.ireturn, 1) := by decide +kernel
theorem gV_L_X9_minutesIn_100 : GoodIn gw (wsV RL 100 RX9 yX9_minutesIn (Cond.code yX9_minutesIn cX9_minutesIn 2 (some .int) :: gw)) := gdV gw_1047 gw_1048 gw_1049 gw_67 gw_1050
theorem hV_X9_minutesIn : yX9_minutesIn.cls = RX9 ∧ yX9_minutesIn.cls ≠ "java/lang/invoke/MethodHandle" ∧ yX9_minutesIn.cls ≠ "java/lang/invoke/VarHandle" ∧ (parseMethodDescriptor yX9_minutesIn.desc).map (fun d => d.parameters.length) = some 1 := ⟨rfl, by decide +kernel, by decide +kernel, by decide +kernel⟩
set_option maxHeartbeats 2000000 in
set_option maxRecDepth 20000 in
theorem k_L_minutesIn (l : Launch) (hfl : l.stackTraces = false) (D : va_G) (aT : Nat → ClassId) (u0 : Nat) (x0 : Nat) (v0 : Nat) (h0 : Nat) (t0 : Nat) (p0 : Nat) (o0 : Nat) (a0 : Nat) (a1 : Nat) (a5 : Nat) (a10 : Nat) (a2 : Nat) (a3 : Nat) (a4 : Nat) (a6 : Nat) (a7 : Nat) (a8 : Nat) (a9 : Nat) (x : Int32) (o : Nat → Int64) : CxH l yL_minutesIn cL_minutesIn 4 [(0, 9, 12, 13)] 7 1 6 111 D aT [.ref x0, .int x, .ref u0] [(u0, .inl (aT 2, 1, .inr (.inl o))), (x0, .inr (12, [.ref a0, .ref v0, .ref h0, .ref t0, .ref p0, .ref o0, .int (nI 0), .int (-1), .int (-1)])), (a0, .inr (10, [.ref a1, .ref a5, .ref a10, .int (nI 0), .int (nI 0), .int (nI 0), .int (nI 0), .int (nI 0), .int (nI 0), .int (nI 0), .int (nI 0)])), (a1, .inr (6, [.ref a2, .ref a3, .ref a4, .int (nI 0)])), (a2, .inl (aT 0, 6, .inl (fun _ => nI 0))), (a3, .inl (aT 0, 6, .inl (fun _ => nI 0))), (a4, .inl (aT 0, 6, .inl (fun _ => nI 0))), (a5, .inr (8, [.ref a6, .ref a7, .ref a8, .ref a9, .int (nI 0), .int (nI 0)])), (a6, .inl (aT 0, 12, .inl (fun _ => nI 0))), (a7, .inl (aT 0, 12, .inl (fun _ => nI 0))), (a8, .inl (aT 0, 12, .inl (fun _ => nI 0))), (a9, .inl (aT 0, 12, .inl (fun _ => nI 0))), (a10, .inl (aT 0, 4, .inl (fun _ => nI 0)))] (fun r W1 => (rgB 0 3 x = false ∧ r = nI 1) ∨ (rgB 0 3 x = true ∧ r = nI 0 ∧ ∃ o : Nat → Int64, o 0 = (nI 0).toInt64 ∧ W1 = [(u0, .inl (aT 2, 1, .inr (.inl o)))])) := by
  refine CxH.of RL (by decide +kernel) rfl (Nat.le_of_ble_eq_true rfl) ?_
  intro p e s m below meth c A ls C hml hl hA hr hlocks htb hZ hW
  have hl : lv_has ls 4 [(0, .ref x0), (1, .int x), (2, .ref u0)] := hl
  have hx := C.1
  have hb := C.2.1
  refine lv_aload_n hx hb dL_minutesIn_0 rfl (lv_at hl 2 rfl) ?_
  refine lv_iconst (v := nI 0) hx hb dL_minutesIn_1 (by decide) ?_
  refine lv_aload_n hx hb dL_minutesIn_2 rfl (lv_at hl 0 rfl) ?_
  refine lv_iload_n hx hb dL_minutesIn_3 rfl (lv_at hl 1 rfl) ?_
  refine cx_calli (Wr := [(u0, .inl (aT 2, 1, .inr (.inl o)))]) (cx_runV C hml hl.1 hZ hW hA (As := [.int x]) (rest := [.int (nI 0), .ref u0]) (k_X9_minutesIn l hfl D aT x0 v0 h0 t0 p0 o0 a0 a1 a5 a10 a2 a3 a4 a6 a7 a8 a9 x) gV_L_X9_minutesIn_100 hV_X9_minutesIn rfl ⟨Nat.le_of_ble_eq_true rfl, Nat.le_of_ble_eq_true rfl⟩ ⟨Nat.le_of_ble_eq_true rfl, Nat.le_of_ble_eq_true rfl⟩ [1, 2, 3, 4, 5, 6, 7, 8, 9, 10, 11, 12] rfl (by decide) 1 12 rfl rfl rfl rfl (Nat.le_of_ble_eq_true rfl) dL_minutesIn_4) hW hA [1, 2, 3, 4, 5, 6, 7, 8, 9, 10, 11, 12] [0] rfl rfl (by decide) (by decide) ?_ (fun r_4 W_4 H locs hq hW => ?_)
  · intro E ce q9 H locs hE hS h7 h8 h9
    obtain ⟨hno, rfl⟩ := hE
    refine cx_catch C hZ ⟨0, 9, 12, 13⟩ (tableOf []) htb (by decide) (by decide) gw_546 nw_561 hS h7 h8 h9 (fun hW => ?_)
    refine lv_astore_n (lv' := [(3, .ref q9), (0, .ref x0), (1, .int x), (2, .ref u0)]) hx hb dL_minutesIn_12 rfl hl (by decide) rfl (fun ls hl => ?_)
    refine lv_iconst (v := nI 1) hx hb dL_minutesIn_13 (by decide) ?_
    exact cx_iretM C hr hlocks hW ⟨Nat.le_of_ble_eq_true rfl, Nat.le_of_ble_eq_true rfl⟩ (Or.inl ⟨hno, rfl⟩) dL_minutesIn_14
  · obtain ⟨hok, rfl⟩ := hq
    have hW := cx_left hW
    have hW : CxB D [(u0, .inl (aT 2, 1, .inr (.inl o)))] A s.heap H _ := hW
    refine lv_i2l (v := ((nI 0)).toInt64) hx hb dL_minutesIn_7 rfl ?_
    refine cx_last C hW 0 2 (j := 0) (W1 := [(u0, .inl (aT 2, 1, .inr (.inl (vp_updL o 0 (((nI 0)).toInt64)))))]) rfl rfl rfl (by decide) (by decide) rfl dL_minutesIn_8 (fun H locs hW => ?_)
    refine lv_goto (tgt := 15) hx hb dL_minutesIn_9 (by decide) ?_
    refine lv_iconst (v := nI 0) hx hb dL_minutesIn_15 (by decide) ?_
    exact cx_iretM C hr hlocks hW ⟨Nat.le_of_ble_eq_true rfl, Nat.le_of_ble_eq_true rfl⟩ (Or.inr ⟨hok, rfl, _, rfl, rfl⟩) dL_minutesIn_16
theorem dL_meanLeaves_0 : decode cL_meanLeaves 0 = .ok (.aload_n 1, 1) := by decide +kernel
theorem dL_meanLeaves_1 : decode cL_meanLeaves 1 = .ok (.iconst 0, 1) := by decide +kernel
theorem dL_meanLeaves_2 : decode cL_meanLeaves 2 = .ok (.aload_n 0, 1) := by decide +kernel
theorem dL_meanLeaves_3 : decode cL_meanLeaves 3 = .ok (.invokevirtual 103, 3) := by decide +kernel
theorem dL_meanLeaves_6 : decode cL_meanLeaves 6 = .ok (.dastore, 1) := by decide +kernel
theorem dL_meanLeaves_7 : decode cL_meanLeaves 7 = .ok (.goto 6, 3) := by decide +kernel
theorem dL_meanLeaves_10 : decode cL_meanLeaves 10 = .ok (.astore_n 2, 1) := by decide +kernel
theorem dL_meanLeaves_11 : decode cL_meanLeaves 11 = .ok (.iconst 1, 1) := by decide +kernel
theorem dL_meanLeaves_12 : decode cL_meanLeaves 12 = .ok (.ireturn, 1) := by decide +kernel
theorem dL_meanLeaves_13 : decode cL_meanLeaves 13 = .ok (.iconst 0, 1) := by decide +kernel
theorem dL_meanLeaves_14 : decode cL_meanLeaves 14 = .ok (.ireturn, 1) := by decide +kernel
theorem gV_L_X9_meanLeaves_103 : GoodIn gw (wsV RL 103 RX9 yX9_meanLeaves (Cond.code yX9_meanLeaves cX9_meanLeaves 1 (some .double) :: gw)) := gdV gw_1071 gw_1072 gw_1073 gw_67 gw_1074
theorem hV_X9_meanLeaves : yX9_meanLeaves.cls = RX9 ∧ yX9_meanLeaves.cls ≠ "java/lang/invoke/MethodHandle" ∧ yX9_meanLeaves.cls ≠ "java/lang/invoke/VarHandle" ∧ (parseMethodDescriptor yX9_meanLeaves.desc).map (fun d => d.parameters.length) = some 0 := ⟨rfl, by decide +kernel, by decide +kernel, by decide +kernel⟩
set_option maxHeartbeats 2000000 in
set_option maxRecDepth 20000 in
theorem k_L_meanLeaves (l : Launch) (hfl : l.stackTraces = false) (D : va_G) (aT : Nat → ClassId) (u0 : Nat) (x0 : Nat) (v0 : Nat) (h0 : Nat) (t0 : Nat) (p0 : Nat) (o0 : Nat) (a0 : Nat) (a1 : Nat) (a5 : Nat) (a10 : Nat) (a2 : Nat) (a3 : Nat) (a4 : Nat) (a6 : Nat) (a7 : Nat) (a8 : Nat) (a9 : Nat) : CxH l yL_meanLeaves cL_meanLeaves 3 [(0, 7, 10, 107)] 7 1 6 110 D aT [.ref x0, .ref u0] [(x0, .inr (12, [.ref a0, .ref v0, .ref h0, .ref t0, .ref p0, .ref o0, .int (nI 0), .int (-1), .int (-1)])), (a0, .inr (10, [.ref a1, .ref a5, .ref a10, .int (nI 0), .int (nI 0), .int (nI 0), .int (nI 0), .int (nI 0), .int (nI 0), .int (nI 0), .int (nI 0)])), (a1, .inr (6, [.ref a2, .ref a3, .ref a4, .int (nI 0)])), (a2, .inl (aT 0, 6, .inl (fun _ => nI 0))), (a3, .inl (aT 0, 6, .inl (fun _ => nI 0))), (a4, .inl (aT 0, 6, .inl (fun _ => nI 0))), (a5, .inr (8, [.ref a6, .ref a7, .ref a8, .ref a9, .int (nI 0), .int (nI 0)])), (a6, .inl (aT 0, 12, .inl (fun _ => nI 0))), (a7, .inl (aT 0, 12, .inl (fun _ => nI 0))), (a8, .inl (aT 0, 12, .inl (fun _ => nI 0))), (a9, .inl (aT 0, 12, .inl (fun _ => nI 0))), (a10, .inl (aT 0, 4, .inl (fun _ => nI 0)))] (fun r W1 => r = nI 1) := by
  refine CxH.of RL (by decide +kernel) rfl (Nat.le_of_ble_eq_true rfl) ?_
  intro p e s m below meth c A ls C hml hl hA hr hlocks htb hZ hW
  have hl : lv_has ls 3 [(0, .ref x0), (1, .ref u0)] := hl
  have hx := C.1
  have hb := C.2.1
  refine lv_aload_n hx hb dL_meanLeaves_0 rfl (lv_at hl 1 rfl) ?_
  refine lv_iconst (v := nI 0) hx hb dL_meanLeaves_1 (by decide) ?_
  refine lv_aload_n hx hb dL_meanLeaves_2 rfl (lv_at hl 0 rfl) ?_
  refine cx_calld (Wr := []) (cx_runV C hml hl.1 hZ hW hA (As := []) (rest := [.int (nI 0), .ref u0]) (k_X9_meanLeaves l hfl D aT x0 v0 h0 t0 p0 o0 a0 a1 a5 a10 a2 a3 a4 a6 a7 a8 a9) gV_L_X9_meanLeaves_103 hV_X9_meanLeaves rfl ⟨Nat.le_of_ble_eq_true rfl, Nat.le_of_ble_eq_true rfl⟩ ⟨Nat.le_of_ble_eq_true rfl, Nat.le_of_ble_eq_true rfl⟩ [0, 1, 2, 3, 4, 5, 6, 7, 8, 9, 10, 11] rfl (by decide) 0 12 rfl rfl rfl rfl (Nat.le_of_ble_eq_true rfl) dL_meanLeaves_3) hW hA [0, 1, 2, 3, 4, 5, 6, 7, 8, 9, 10, 11] [] rfl rfl (by decide) (by decide) ?_ (fun r_3 W_3 H locs hq hW => ?_)
  · intro E ce q9 H locs hE hS h7 h8 h9
    have hE : E = _ := hE
    subst hE
    refine cx_catch C hZ ⟨0, 7, 10, 107⟩ (tableOf []) htb (by decide) (by decide) gw_1057 nw_1069 hS h7 h8 h9 (fun hW => ?_)
    refine lv_astore_n (lv' := [(2, .ref q9), (0, .ref x0), (1, .ref u0)]) hx hb dL_meanLeaves_10 rfl hl (by decide) rfl (fun ls hl => ?_)
    refine lv_iconst (v := nI 1) hx hb dL_meanLeaves_11 (by decide) ?_
    exact cx_iretM C hr hlocks hW ⟨Nat.le_of_ble_eq_true rfl, Nat.le_of_ble_eq_true rfl⟩ (rfl) dL_meanLeaves_12
  · exact hq.elim
theorem dL_carriedShare_0 : decode cL_carriedShare 0 = .ok (.aload_n 1, 1) := by decide +kernel
theorem dL_carriedShare_1 : decode cL_carriedShare 1 = .ok (.iconst 0, 1) := by decide +kernel
theorem dL_carriedShare_2 : decode cL_carriedShare 2 = .ok (.aload_n 0, 1) := by decide +kernel
theorem dL_carriedShare_3 : decode cL_carriedShare 3 = .ok (.invokevirtual 109, 3) := by decide +kernel
theorem dL_carriedShare_6 : decode cL_carriedShare 6 = .ok (.f2d, 1) := by decide +kernel
theorem dL_carriedShare_7 : decode cL_carriedShare 7 = .ok (.dastore, 1) := by decide +kernel
theorem dL_carriedShare_8 : decode cL_carriedShare 8 = .ok (.goto 6, 3) := by decide +kernel
theorem dL_carriedShare_11 : decode cL_carriedShare 11 = .ok (.astore_n 2, 1) := by decide +kernel
theorem dL_carriedShare_12 : decode cL_carriedShare 12 = .ok (.iconst 1, 1) := by decide +kernel
theorem dL_carriedShare_13 : decode cL_carriedShare 13 = .ok (.ireturn, 1) := by decide +kernel
theorem dL_carriedShare_14 : decode cL_carriedShare 14 = .ok (.iconst 0, 1) := by decide +kernel
theorem dL_carriedShare_15 : decode cL_carriedShare 15 = .ok (.ireturn, 1) := by decide +kernel
theorem gV_L_X9_carriedShare_109 : GoodIn gw (wsV RL 109 RX9 yX9_carriedShare (Cond.code yX9_carriedShare cX9_carriedShare 1 (some .float) :: gw)) := gdV gw_1082 gw_1083 gw_1084 gw_67 gw_1085
theorem hV_X9_carriedShare : yX9_carriedShare.cls = RX9 ∧ yX9_carriedShare.cls ≠ "java/lang/invoke/MethodHandle" ∧ yX9_carriedShare.cls ≠ "java/lang/invoke/VarHandle" ∧ (parseMethodDescriptor yX9_carriedShare.desc).map (fun d => d.parameters.length) = some 0 := ⟨rfl, by decide +kernel, by decide +kernel, by decide +kernel⟩
set_option maxHeartbeats 2000000 in
set_option maxRecDepth 20000 in
theorem k_L_carriedShare (l : Launch) (hfl : l.stackTraces = false) (D : va_G) (aT : Nat → ClassId) (u0 : Nat) (x0 : Nat) (v0 : Nat) (h0 : Nat) (t0 : Nat) (p0 : Nat) (o0 : Nat) (a0 : Nat) (a1 : Nat) (a5 : Nat) (a10 : Nat) (a2 : Nat) (a3 : Nat) (a4 : Nat) (a6 : Nat) (a7 : Nat) (a8 : Nat) (a9 : Nat) : CxH l yL_carriedShare cL_carriedShare 3 [(0, 8, 11, 107)] 7 1 6 110 D aT [.ref x0, .ref u0] [(x0, .inr (12, [.ref a0, .ref v0, .ref h0, .ref t0, .ref p0, .ref o0, .int (nI 0), .int (-1), .int (-1)])), (a0, .inr (10, [.ref a1, .ref a5, .ref a10, .int (nI 0), .int (nI 0), .int (nI 0), .int (nI 0), .int (nI 0), .int (nI 0), .int (nI 0), .int (nI 0)])), (a1, .inr (6, [.ref a2, .ref a3, .ref a4, .int (nI 0)])), (a2, .inl (aT 0, 6, .inl (fun _ => nI 0))), (a3, .inl (aT 0, 6, .inl (fun _ => nI 0))), (a4, .inl (aT 0, 6, .inl (fun _ => nI 0))), (a5, .inr (8, [.ref a6, .ref a7, .ref a8, .ref a9, .int (nI 0), .int (nI 0)])), (a6, .inl (aT 0, 12, .inl (fun _ => nI 0))), (a7, .inl (aT 0, 12, .inl (fun _ => nI 0))), (a8, .inl (aT 0, 12, .inl (fun _ => nI 0))), (a9, .inl (aT 0, 12, .inl (fun _ => nI 0))), (a10, .inl (aT 0, 4, .inl (fun _ => nI 0)))] (fun r W1 => r = nI 1) := by
  refine CxH.of RL (by decide +kernel) rfl (Nat.le_of_ble_eq_true rfl) ?_
  intro p e s m below meth c A ls C hml hl hA hr hlocks htb hZ hW
  have hl : lv_has ls 3 [(0, .ref x0), (1, .ref u0)] := hl
  have hx := C.1
  have hb := C.2.1
  refine lv_aload_n hx hb dL_carriedShare_0 rfl (lv_at hl 1 rfl) ?_
  refine lv_iconst (v := nI 0) hx hb dL_carriedShare_1 (by decide) ?_
  refine lv_aload_n hx hb dL_carriedShare_2 rfl (lv_at hl 0 rfl) ?_
  refine cx_callf (Wr := []) (cx_runV C hml hl.1 hZ hW hA (As := []) (rest := [.int (nI 0), .ref u0]) (k_X9_carriedShare l hfl D aT x0 v0 h0 t0 p0 o0 a0 a1 a5 a10 a2 a3 a4 a6 a7 a8 a9) gV_L_X9_carriedShare_109 hV_X9_carriedShare rfl ⟨Nat.le_of_ble_eq_true rfl, Nat.le_of_ble_eq_true rfl⟩ ⟨Nat.le_of_ble_eq_true rfl, Nat.le_of_ble_eq_true rfl⟩ [0, 1, 2, 3, 4, 5, 6, 7, 8, 9, 10, 11] rfl (by decide) 0 12 rfl rfl rfl rfl (Nat.le_of_ble_eq_true rfl) dL_carriedShare_3) hW hA [0, 1, 2, 3, 4, 5, 6, 7, 8, 9, 10, 11] [] rfl rfl (by decide) (by decide) ?_ (fun r_3 W_3 H locs hq hW => ?_)
  · intro E ce q9 H locs hE hS h7 h8 h9
    have hE : E = _ := hE
    subst hE
    refine cx_catch C hZ ⟨0, 8, 11, 107⟩ (tableOf []) htb (by decide) (by decide) gw_1057 nw_1069 hS h7 h8 h9 (fun hW => ?_)
    refine lv_astore_n (lv' := [(2, .ref q9), (0, .ref x0), (1, .ref u0)]) hx hb dL_carriedShare_11 rfl hl (by decide) rfl (fun ls hl => ?_)
    refine lv_iconst (v := nI 1) hx hb dL_carriedShare_12 (by decide) ?_
    exact cx_iretM C hr hlocks hW ⟨Nat.le_of_ble_eq_true rfl, Nat.le_of_ble_eq_true rfl⟩ (rfl) dL_carriedShare_13
  · exact hq.elim
theorem dL_append_0 : decode cL_append 0 = .ok (.aload_n 2, 1) := by decide +kernel
theorem dL_append_1 : decode cL_append 1 = .ok (.iconst 0, 1) := by decide +kernel
theorem dL_append_2 : decode cL_append 2 = .ok (.aload_n 0, 1) := by decide +kernel
theorem dL_append_3 : decode cL_append 3 = .ok (.iload_n 1, 1) := by decide +kernel
theorem dL_append_4 : decode cL_append 4 = .ok (.invokevirtual 113, 3) := by decide +kernel
theorem dL_append_7 : decode cL_append 7 = .ok (.i2l, 1) := by decide +kernel
theorem dL_append_8 : decode cL_append 8 = .ok (.lastore, 1) := by decide +kernel
theorem dL_append_9 : decode cL_append 9 = .ok (.goto 6, 3) := by decide +kernel
theorem dL_append_12 : decode cL_append 12 = .ok (.astore_n 3, 1) := by decide +kernel
theorem dL_append_13 : decode cL_append 13 = .ok (.iconst 1, 1) := by decide +kernel
theorem dL_append_14 : decode cL_append 14 = .ok (.ireturn, 1) := by decide +kernel
theorem dL_append_15 : decode cL_append 15 = .ok (.iconst 0, 1) := by decide +kernel
theorem dL_append_16 : decode cL_append 16 = .ok (.ireturn, 1) := by decide +kernel
theorem gV_L_X9_append_113 : GoodIn gw (wsV RL 113 RX9 yX9_append (Cond.code yX9_append cX9_append 2 (some .int) :: gw)) := gdV gw_1090 gw_1091 gw_1092 gw_67 gw_1093
theorem hV_X9_append : yX9_append.cls = RX9 ∧ yX9_append.cls ≠ "java/lang/invoke/MethodHandle" ∧ yX9_append.cls ≠ "java/lang/invoke/VarHandle" ∧ (parseMethodDescriptor yX9_append.desc).map (fun d => d.parameters.length) = some 1 := ⟨rfl, by decide +kernel, by decide +kernel, by decide +kernel⟩
set_option maxHeartbeats 2000000 in
set_option maxRecDepth 20000 in
theorem k_L_append (l : Launch) (hfl : l.stackTraces = false) (D : va_G) (aT : Nat → ClassId) (u0 : Nat) (x0 : Nat) (v0 : Nat) (h0 : Nat) (t0 : Nat) (p0 : Nat) (o0 : Nat) (a0 : Nat) (p1 : Nat) (p2 : Nat) (p3 : Nat) (k0 : Int32) (w : Option Nat) (x : Int32) (o : Nat → Int64) : CxH l yL_append cL_append 4 [(0, 9, 12, 15)] 2 0 0 42 D aT [.ref x0, .int x, .ref u0] [(u0, .inl (aT 2, 1, .inr (.inl o))), (x0, .inr (12, [.ref a0, .ref v0, .ref h0, .ref t0, .ref p0, .ref o0, .int (nI 0), .int (-1), .int (-1)])), (p0, .inr (9, [.ref p1, .ref p2, .ref p3, .int (nI 0), .int (nI 0)])), (p1, .inl (aT 1, 60, .inl (fun _ => nI 0))), (p2, .inl (aT 0, 3, .inl (fun _ => nI 0))), (p3, .inr (4, [.int k0, va_rf w, .int (nI 0)]))] (fun r W1 => r = nI 0 ∧ ∃ o : Nat → Int64, o 0 = (nI 1).toInt64 ∧ W1 = [(u0, .inl (aT 2, 1, .inr (.inl o)))]) := by
  refine CxH.of RL (by decide +kernel) rfl (Nat.le_of_ble_eq_true rfl) ?_
  intro p e s m below meth c A ls C hml hl hA hr hlocks htb hZ hW
  have hl : lv_has ls 4 [(0, .ref x0), (1, .int x), (2, .ref u0)] := hl
  have hx := C.1
  have hb := C.2.1
  refine lv_aload_n hx hb dL_append_0 rfl (lv_at hl 2 rfl) ?_
  refine lv_iconst (v := nI 0) hx hb dL_append_1 (by decide) ?_
  refine lv_aload_n hx hb dL_append_2 rfl (lv_at hl 0 rfl) ?_
  refine lv_iload_n hx hb dL_append_3 rfl (lv_at hl 1 rfl) ?_
  refine cx_calli (Wr := [(u0, .inl (aT 2, 1, .inr (.inl o)))]) (cx_runV C hml hl.1 hZ hW hA (As := [.int x]) (rest := [.int (nI 0), .ref u0]) (k_X9_append l hfl D aT x0 v0 h0 t0 p0 o0 a0 p1 p2 p3 k0 w x) gV_L_X9_append_113 hV_X9_append rfl ⟨Nat.le_of_ble_eq_true rfl, Nat.le_of_ble_eq_true rfl⟩ ⟨Nat.le_of_ble_eq_true rfl, Nat.le_of_ble_eq_true rfl⟩ [1, 2, 3, 4, 5] rfl (by decide) 1 12 rfl rfl rfl rfl (Nat.le_of_ble_eq_true rfl) dL_append_4) hW hA [1, 2, 3, 4, 5] [0] rfl rfl (by decide) (by decide) (fun _ _ _ _ _ h9 => h9.elim) (fun r_4 W_4 H locs hq hW => ?_)
  subst hq
  have hW := cx_left hW
  have hW : CxB D [(u0, .inl (aT 2, 1, .inr (.inl o)))] A s.heap H _ := hW
  refine lv_i2l (v := ((nI 1)).toInt64) hx hb dL_append_7 rfl ?_
  refine cx_last C hW 0 2 (j := 0) (W1 := [(u0, .inl (aT 2, 1, .inr (.inl (vp_updL o 0 (((nI 1)).toInt64)))))]) rfl rfl rfl (by decide) (by decide) rfl dL_append_8 (fun H locs hW => ?_)
  refine lv_goto (tgt := 15) hx hb dL_append_9 (by decide) ?_
  refine lv_iconst (v := nI 0) hx hb dL_append_15 (by decide) ?_
  exact cx_iretM C hr hlocks hW ⟨Nat.le_of_ble_eq_true rfl, Nat.le_of_ble_eq_true rfl⟩ (⟨rfl, _, rfl, rfl⟩) dL_append_16
theorem dL_run_0 : decode cL_run 0 = .ok (.aload_n 1, 1) := by decide +kernel
theorem dL_run_1 : decode cL_run 1 = .ok (.iconst 0, 1) := by decide +kernel
theorem dL_run_2 : decode cL_run 2 = .ok (.aload_n 0, 1) := by decide +kernel
theorem dL_run_3 : decode cL_run 3 = .ok (.invokevirtual 117, 3) := by decide +kernel
theorem dL_run_6 : decode cL_run 6 = .ok (.i2l, 1) := by decide +kernel
theorem dL_run_7 : decode cL_run 7 = .ok (.lastore, 1) := by decide +kernel
theorem dL_run_8 : decode cL_run 8 = .ok (.goto 9, 3) := by decide +kernel
theorem dL_run_11 : decode cL_run 11 = .ok (.astore_n 2, 1) := by decide +kernel
theorem dL_run_12 : decode cL_run 12 = .ok (.iconst 1, 1) := by decide +kernel
theorem dL_run_13 : decode cL_run 13 = .ok (.ireturn, 1) := by decide +kernel
theorem dL_run_14 : decode cL_run 14 = .ok (.astore_n 2, 1) := by decide +kernel
theorem dL_run_15 : decode cL_run 15 = .ok (.iconst 2, 1) := by decide +kernel
theorem dL_run_16 : decode cL_run 16 = .ok (.ireturn, 1) := by decide +kernel
theorem dL_run_17 : decode cL_run 17 = .ok (.iconst 0, 1) := by decide +kernel
theorem dL_run_18 : decode cL_run 18 = .ok (.ireturn, 1) := by decide +kernel
theorem gV_L_X9_run_117 : GoodIn gw (wsV RL 117 RX9 yX9_run (Cond.code yX9_run cX9_run 3 (some .int) :: gw)) := gdV gw_1108 gw_1109 gw_1110 gw_67 gw_1111
theorem hV_X9_run : yX9_run.cls = RX9 ∧ yX9_run.cls ≠ "java/lang/invoke/MethodHandle" ∧ yX9_run.cls ≠ "java/lang/invoke/VarHandle" ∧ (parseMethodDescriptor yX9_run.desc).map (fun d => d.parameters.length) = some 0 := ⟨rfl, by decide +kernel, by decide +kernel, by decide +kernel⟩
set_option maxHeartbeats 2000000 in
set_option maxRecDepth 20000 in
theorem k_L_run (l : Launch) (hfl : l.stackTraces = false) (D : va_G) (aT : Nat → ClassId) (u0 : Nat) (x0 : Nat) (v0 : Nat) (h0 : Nat) (t0 : Nat) (p0 : Nat) (o0 : Nat) (a0 : Nat) (p1 : Nat) (p2 : Nat) (p3 : Nat) (k0 : Int32) (w : Option Nat) (o : Nat → Int64) : CxH l yL_run cL_run 3 [(0, 8, 11, 13), (0, 8, 14, 86)] 7 1 6 112 D aT [.ref x0, .ref u0] [(u0, .inl (aT 2, 1, .inr (.inl o))), (x0, .inr (12, [.ref a0, .ref v0, .ref h0, .ref t0, .ref p0, .ref o0, .int (nI 0), .int (-1), .int (-1)])), (p0, .inr (9, [.ref p1, .ref p2, .ref p3, .int (nI 0), .int (nI 0)])), (p1, .inl (aT 1, 60, .inl (fun _ => nI 0))), (p2, .inl (aT 0, 3, .inl (fun _ => nI 0))), (p3, .inr (4, [.int k0, va_rf w, .int (nI 0)]))] (fun r W1 => r = nI 1) := by
  refine CxH.of RL (by decide +kernel) rfl (Nat.le_of_ble_eq_true rfl) ?_
  intro p e s m below meth c A ls C hml hl hA hr hlocks htb hZ hW
  have hl : lv_has ls 3 [(0, .ref x0), (1, .ref u0)] := hl
  have hx := C.1
  have hb := C.2.1
  refine lv_aload_n hx hb dL_run_0 rfl (lv_at hl 1 rfl) ?_
  refine lv_iconst (v := nI 0) hx hb dL_run_1 (by decide) ?_
  refine lv_aload_n hx hb dL_run_2 rfl (lv_at hl 0 rfl) ?_
  refine cx_calli (Wr := [(u0, .inl (aT 2, 1, .inr (.inl o)))]) (cx_runV C hml hl.1 hZ hW hA (As := []) (rest := [.int (nI 0), .ref u0]) (k_X9_run l hfl D aT x0 v0 h0 t0 p0 o0 a0 p1 p2 p3 k0 w) gV_L_X9_run_117 hV_X9_run rfl ⟨Nat.le_of_ble_eq_true rfl, Nat.le_of_ble_eq_true rfl⟩ ⟨Nat.le_of_ble_eq_true rfl, Nat.le_of_ble_eq_true rfl⟩ [1, 2, 3, 4, 5] rfl (by decide) 1 12 rfl rfl rfl rfl (Nat.le_of_ble_eq_true rfl) dL_run_3) hW hA [1, 2, 3, 4, 5] [0] rfl rfl (by decide) (by decide) ?_ (fun r_3 W_3 H locs hq hW => ?_)
  · intro E ce q9 H locs hE hS h7 h8 h9
    have hE : E = _ := hE
    subst hE
    refine cx_catch C hZ ⟨0, 8, 11, 13⟩ (tableOf [(0, 8, 14, 86)]) htb (by decide) (by decide) gw_546 nw_561 hS h7 h8 h9 (fun hW => ?_)
    refine lv_astore_n (lv' := [(2, .ref q9), (0, .ref x0), (1, .ref u0)]) hx hb dL_run_11 rfl hl (by decide) rfl (fun ls hl => ?_)
    refine lv_iconst (v := nI 1) hx hb dL_run_12 (by decide) ?_
    exact cx_iretM C hr hlocks hW ⟨Nat.le_of_ble_eq_true rfl, Nat.le_of_ble_eq_true rfl⟩ (rfl) dL_run_13
  · exact hq.elim
theorem dL_errorPosition_0 : decode cL_errorPosition 0 = .ok (.aload_n 1, 1) := by decide +kernel
theorem dL_errorPosition_1 : decode cL_errorPosition 1 = .ok (.iconst 0, 1) := by decide +kernel
theorem dL_errorPosition_2 : decode cL_errorPosition 2 = .ok (.aload_n 0, 1) := by decide +kernel
theorem dL_errorPosition_3 : decode cL_errorPosition 3 = .ok (.invokevirtual 121, 3) := by decide +kernel
theorem dL_errorPosition_6 : decode cL_errorPosition 6 = .ok (.i2l, 1) := by decide +kernel
theorem dL_errorPosition_7 : decode cL_errorPosition 7 = .ok (.lastore, 1) := by decide +kernel
theorem dL_errorPosition_8 : decode cL_errorPosition 8 = .ok (.goto 6, 3) := by decide +kernel
theorem dL_errorPosition_11 : decode cL_errorPosition 11 = .ok (.astore_n 2, 1) := by decide +kernel
theorem dL_errorPosition_12 : decode cL_errorPosition 12 = .ok (.iconst 1, 1) := by decide +kernel
theorem dL_errorPosition_13 : decode cL_errorPosition 13 = .ok (.ireturn, 1) := by decide +kernel
theorem dL_errorPosition_14 : decode cL_errorPosition 14 = .ok (.iconst 0, 1) := by decide +kernel
theorem dL_errorPosition_15 : decode cL_errorPosition 15 = .ok (.ireturn, 1) := by decide +kernel
theorem gV_L_X9_errorPosition_121 : GoodIn gw (wsV RL 121 RX9 yX9_errorPosition (Cond.code yX9_errorPosition cX9_errorPosition 1 (some .int) :: gw)) := gdV gw_1321 gw_1322 gw_1323 gw_67 gw_1324
theorem hV_X9_errorPosition : yX9_errorPosition.cls = RX9 ∧ yX9_errorPosition.cls ≠ "java/lang/invoke/MethodHandle" ∧ yX9_errorPosition.cls ≠ "java/lang/invoke/VarHandle" ∧ (parseMethodDescriptor yX9_errorPosition.desc).map (fun d => d.parameters.length) = some 0 := ⟨rfl, by decide +kernel, by decide +kernel, by decide +kernel⟩
set_option maxHeartbeats 2000000 in
set_option maxRecDepth 20000 in
theorem k_L_errorPosition (l : Launch) (hfl : l.stackTraces = false) (D : va_G) (aT : Nat → ClassId) (u0 : Nat) (x0 : Nat) (v0 : Nat) (h0 : Nat) (t0 : Nat) (p0 : Nat) (o0 : Nat) (a0 : Nat) (o : Nat → Int64) : CxH l yL_errorPosition cL_errorPosition 3 [(0, 8, 11, 24)] 7 1 6 110 D aT [.ref x0, .ref u0] [(u0, .inl (aT 2, 1, .inr (.inl o))), (x0, .inr (12, [.ref a0, .ref v0, .ref h0, .ref t0, .ref p0, .ref o0, .int (nI 0), .int (-1), .int (-1)]))] (fun r W1 => r = nI 1) := by
  refine CxH.of RL (by decide +kernel) rfl (Nat.le_of_ble_eq_true rfl) ?_
  intro p e s m below meth c A ls C hml hl hA hr hlocks htb hZ hW
  have hl : lv_has ls 3 [(0, .ref x0), (1, .ref u0)] := hl
  have hx := C.1
  have hb := C.2.1
  refine lv_aload_n hx hb dL_errorPosition_0 rfl (lv_at hl 1 rfl) ?_
  refine lv_iconst (v := nI 0) hx hb dL_errorPosition_1 (by decide) ?_
  refine lv_aload_n hx hb dL_errorPosition_2 rfl (lv_at hl 0 rfl) ?_
  refine cx_calli (Wr := [(u0, .inl (aT 2, 1, .inr (.inl o)))]) (cx_runV C hml hl.1 hZ hW hA (As := []) (rest := [.int (nI 0), .ref u0]) (k_X9_errorPosition l hfl D aT x0 v0 h0 t0 p0 o0 a0) gV_L_X9_errorPosition_121 hV_X9_errorPosition rfl ⟨Nat.le_of_ble_eq_true rfl, Nat.le_of_ble_eq_true rfl⟩ ⟨Nat.le_of_ble_eq_true rfl, Nat.le_of_ble_eq_true rfl⟩ [1] rfl (by decide) 1 12 rfl rfl rfl rfl (Nat.le_of_ble_eq_true rfl) dL_errorPosition_3) hW hA [1] [0] rfl rfl (by decide) (by decide) ?_ (fun r_3 W_3 H locs hq hW => ?_)
  · intro E ce q9 H locs hE hS h7 h8 h9
    have hE : E = _ := hE
    subst hE
    refine cx_catch C hZ ⟨0, 8, 11, 24⟩ (tableOf []) htb (by decide) (by decide) gw_690 nw_705 hS h7 h8 h9 (fun hW => ?_)
    refine lv_astore_n (lv' := [(2, .ref q9), (0, .ref x0), (1, .ref u0)]) hx hb dL_errorPosition_11 rfl hl (by decide) rfl (fun ls hl => ?_)
    refine lv_iconst (v := nI 1) hx hb dL_errorPosition_12 (by decide) ?_
    exact cx_iretM C hr hlocks hW ⟨Nat.le_of_ble_eq_true rfl, Nat.le_of_ble_eq_true rfl⟩ (rfl) dL_errorPosition_13
  · exact hq.elim
theorem dL_failedCommand_0 : decode cL_failedCommand 0 = .ok (.aload_n 1, 1) := by decide +kernel
theorem dL_failedCommand_1 : decode cL_failedCommand 1 = .ok (.iconst 0, 1) := by decide +kernel
theorem dL_failedCommand_2 : decode cL_failedCommand 2 = .ok (.aload_n 0, 1) := by decide +kernel
theorem dL_failedCommand_3 : decode cL_failedCommand 3 = .ok (.invokevirtual 124, 3) := by decide +kernel
theorem dL_failedCommand_6 : decode cL_failedCommand 6 = .ok (.i2l, 1) := by decide +kernel
theorem dL_failedCommand_7 : decode cL_failedCommand 7 = .ok (.lastore, 1) := by decide +kernel
theorem dL_failedCommand_8 : decode cL_failedCommand 8 = .ok (.goto 6, 3) := by decide +kernel
theorem dL_failedCommand_11 : decode cL_failedCommand 11 = .ok (.astore_n 2, 1) := by decide +kernel
theorem dL_failedCommand_12 : decode cL_failedCommand 12 = .ok (.iconst 1, 1) := by decide +kernel
theorem dL_failedCommand_13 : decode cL_failedCommand 13 = .ok (.ireturn, 1) := by decide +kernel
theorem dL_failedCommand_14 : decode cL_failedCommand 14 = .ok (.iconst 0, 1) := by decide +kernel
theorem dL_failedCommand_15 : decode cL_failedCommand 15 = .ok (.ireturn, 1) := by decide +kernel
theorem gV_L_X9_failedCommand_124 : GoodIn gw (wsV RL 124 RX9 yX9_failedCommand (Cond.code yX9_failedCommand cX9_failedCommand 1 (some .int) :: gw)) := gdV gw_1329 gw_1330 gw_1331 gw_67 gw_1332
theorem hV_X9_failedCommand : yX9_failedCommand.cls = RX9 ∧ yX9_failedCommand.cls ≠ "java/lang/invoke/MethodHandle" ∧ yX9_failedCommand.cls ≠ "java/lang/invoke/VarHandle" ∧ (parseMethodDescriptor yX9_failedCommand.desc).map (fun d => d.parameters.length) = some 0 := ⟨rfl, by decide +kernel, by decide +kernel, by decide +kernel⟩
set_option maxHeartbeats 2000000 in
set_option maxRecDepth 20000 in
theorem k_L_failedCommand (l : Launch) (hfl : l.stackTraces = false) (D : va_G) (aT : Nat → ClassId) (u0 : Nat) (x0 : Nat) (v0 : Nat) (h0 : Nat) (t0 : Nat) (p0 : Nat) (o0 : Nat) (a0 : Nat) (o : Nat → Int64) : CxH l yL_failedCommand cL_failedCommand 3 [(0, 8, 11, 24)] 7 1 6 110 D aT [.ref x0, .ref u0] [(u0, .inl (aT 2, 1, .inr (.inl o))), (x0, .inr (12, [.ref a0, .ref v0, .ref h0, .ref t0, .ref p0, .ref o0, .int (nI 0), .int (-1), .int (-1)]))] (fun r W1 => r = nI 1) := by
  refine CxH.of RL (by decide +kernel) rfl (Nat.le_of_ble_eq_true rfl) ?_
  intro p e s m below meth c A ls C hml hl hA hr hlocks htb hZ hW
  have hl : lv_has ls 3 [(0, .ref x0), (1, .ref u0)] := hl
  have hx := C.1
  have hb := C.2.1
  refine lv_aload_n hx hb dL_failedCommand_0 rfl (lv_at hl 1 rfl) ?_
  refine lv_iconst (v := nI 0) hx hb dL_failedCommand_1 (by decide) ?_
  refine lv_aload_n hx hb dL_failedCommand_2 rfl (lv_at hl 0 rfl) ?_
  refine cx_calli (Wr := [(u0, .inl (aT 2, 1, .inr (.inl o)))]) (cx_runV C hml hl.1 hZ hW hA (As := []) (rest := [.int (nI 0), .ref u0]) (k_X9_failedCommand l hfl D aT x0 v0 h0 t0 p0 o0 a0) gV_L_X9_failedCommand_124 hV_X9_failedCommand rfl ⟨Nat.le_of_ble_eq_true rfl, Nat.le_of_ble_eq_true rfl⟩ ⟨Nat.le_of_ble_eq_true rfl, Nat.le_of_ble_eq_true rfl⟩ [1] rfl (by decide) 1 12 rfl rfl rfl rfl (Nat.le_of_ble_eq_true rfl) dL_failedCommand_3) hW hA [1] [0] rfl rfl (by decide) (by decide) ?_ (fun r_3 W_3 H locs hq hW => ?_)
  · intro E ce q9 H locs hE hS h7 h8 h9
    have hE : E = _ := hE
    subst hE
    refine cx_catch C hZ ⟨0, 8, 11, 24⟩ (tableOf []) htb (by decide) (by decide) gw_690 nw_705 hS h7 h8 h9 (fun hW => ?_)
    refine lv_astore_n (lv' := [(2, .ref q9), (0, .ref x0), (1, .ref u0)]) hx hb dL_failedCommand_11 rfl hl (by decide) rfl (fun ls hl => ?_)
    refine lv_iconst (v := nI 1) hx hb dL_failedCommand_12 (by decide) ?_
    exact cx_iretM C hr hlocks hW ⟨Nat.le_of_ble_eq_true rfl, Nat.le_of_ble_eq_true rfl⟩ (rfl) dL_failedCommand_13
  · exact hq.elim
theorem dL_writeBranch_0 : decode cL_writeBranch 0 = .ok (.aload_n 2, 1) := by decide +kernel
theorem dL_writeBranch_1 : decode cL_writeBranch 1 = .ok (.iconst 0, 1) := by decide +kernel
theorem dL_writeBranch_2 : decode cL_writeBranch 2 = .ok (.aload_n 0, 1) := by decide +kernel
theorem dL_writeBranch_3 : decode cL_writeBranch 3 = .ok (.iload_n 1, 1) := by decide +kernel
theorem dL_writeBranch_4 : decode cL_writeBranch 4 = .ok (.invokevirtual 127, 3) := by decide +kernel
theorem dL_writeBranch_7 : decode cL_writeBranch 7 = .ok (.i2l, 1) := by decide +kernel
theorem dL_writeBranch_8 : decode cL_writeBranch 8 = .ok (.lastore, 1) := by decide +kernel
theorem dL_writeBranch_9 : decode cL_writeBranch 9 = .ok (.goto 6, 3) := by decide +kernel
theorem dL_writeBranch_12 : decode cL_writeBranch 12 = .ok (.astore_n 3, 1) := by decide +kernel
theorem dL_writeBranch_13 : decode cL_writeBranch 13 = .ok (.iconst 1, 1) := by decide +kernel
theorem dL_writeBranch_14 : decode cL_writeBranch 14 = .ok (.ireturn, 1) := by decide +kernel
theorem dL_writeBranch_15 : decode cL_writeBranch 15 = .ok (.iconst 0, 1) := by decide +kernel
theorem dL_writeBranch_16 : decode cL_writeBranch 16 = .ok (.ireturn, 1) := by decide +kernel
theorem gV_L_X9_writeBranch_127 : GoodIn gw (wsV RL 127 RX9 yX9_writeBranch (Cond.code yX9_writeBranch cX9_writeBranch 3 (some .int) :: gw)) := gdV gw_1337 gw_1338 gw_1339 gw_67 gw_1340
theorem hV_X9_writeBranch : yX9_writeBranch.cls = RX9 ∧ yX9_writeBranch.cls ≠ "java/lang/invoke/MethodHandle" ∧ yX9_writeBranch.cls ≠ "java/lang/invoke/VarHandle" ∧ (parseMethodDescriptor yX9_writeBranch.desc).map (fun d => d.parameters.length) = some 1 := ⟨rfl, by decide +kernel, by decide +kernel, by decide +kernel⟩
set_option maxHeartbeats 2000000 in
set_option maxRecDepth 20000 in
theorem k_L_writeBranch (l : Launch) (hfl : l.stackTraces = false) (D : va_G) (aT : Nat → ClassId) (u0 : Nat) (x0 : Nat) (v0 : Nat) (h0 : Nat) (t0 : Nat) (p0 : Nat) (o0 : Nat) (a0 : Nat) (a1 : Nat) (a5 : Nat) (a10 : Nat) (a2 : Nat) (a3 : Nat) (a4 : Nat) (a6 : Nat) (a7 : Nat) (a8 : Nat) (a9 : Nat) (x : Int32) (o : Nat → Int64) : CxH l yL_writeBranch cL_writeBranch 4 [(0, 9, 12, 24)] 8 1 6 134 D aT [.ref x0, .int x, .ref u0] [(u0, .inl (aT 2, 1, .inr (.inl o))), (x0, .inr (12, [.ref a0, .ref v0, .ref h0, .ref t0, .ref p0, .ref o0, .int (nI 0), .int (-1), .int (-1)])), (a0, .inr (10, [.ref a1, .ref a5, .ref a10, .int (nI 0), .int (nI 0), .int (nI 0), .int (nI 0), .int (nI 0), .int (nI 0), .int (nI 0), .int (nI 0)])), (a1, .inr (6, [.ref a2, .ref a3, .ref a4, .int (nI 0)])), (a2, .inl (aT 0, 6, .inl (fun _ => nI 0))), (a3, .inl (aT 0, 6, .inl (fun _ => nI 0))), (a4, .inl (aT 0, 6, .inl (fun _ => nI 0))), (a5, .inr (8, [.ref a6, .ref a7, .ref a8, .ref a9, .int (nI 0), .int (nI 0)])), (a6, .inl (aT 0, 12, .inl (fun _ => nI 0))), (a7, .inl (aT 0, 12, .inl (fun _ => nI 0))), (a8, .inl (aT 0, 12, .inl (fun _ => nI 0))), (a9, .inl (aT 0, 12, .inl (fun _ => nI 0))), (a10, .inl (aT 0, 4, .inl (fun _ => nI 0)))] (fun r W1 => r = nI 1) := by
  refine CxH.of RL (by decide +kernel) rfl (Nat.le_of_ble_eq_true rfl) ?_
  intro p e s m below meth c A ls C hml hl hA hr hlocks htb hZ hW
  have hl : lv_has ls 4 [(0, .ref x0), (1, .int x), (2, .ref u0)] := hl
  have hx := C.1
  have hb := C.2.1
  refine lv_aload_n hx hb dL_writeBranch_0 rfl (lv_at hl 2 rfl) ?_
  refine lv_iconst (v := nI 0) hx hb dL_writeBranch_1 (by decide) ?_
  refine lv_aload_n hx hb dL_writeBranch_2 rfl (lv_at hl 0 rfl) ?_
  refine lv_iload_n hx hb dL_writeBranch_3 rfl (lv_at hl 1 rfl) ?_
  refine cx_calli (Wr := [(u0, .inl (aT 2, 1, .inr (.inl o)))]) (cx_runV C hml hl.1 hZ hW hA (As := [.int x]) (rest := [.int (nI 0), .ref u0]) (k_X9_writeBranch l hfl D aT x0 v0 h0 t0 p0 o0 a0 a1 a5 a10 a2 a3 a4 a6 a7 a8 a9 x) gV_L_X9_writeBranch_127 hV_X9_writeBranch rfl ⟨Nat.le_of_ble_eq_true rfl, Nat.le_of_ble_eq_true rfl⟩ ⟨Nat.le_of_ble_eq_true rfl, Nat.le_of_ble_eq_true rfl⟩ [1, 2, 3, 4, 5, 6, 7, 8, 9, 10, 11, 12] rfl (by decide) 1 12 rfl rfl rfl rfl (Nat.le_of_ble_eq_true rfl) dL_writeBranch_4) hW hA [1, 2, 3, 4, 5, 6, 7, 8, 9, 10, 11, 12] [0] rfl rfl (by decide) (by decide) ?_ (fun r_4 W_4 H locs hq hW => ?_)
  · intro E ce q9 H locs hE hS h7 h8 h9
    have hE : E = _ := hE
    subst hE
    refine cx_catch C hZ ⟨0, 9, 12, 24⟩ (tableOf []) htb (by decide) (by decide) gw_690 nw_705 hS h7 h8 h9 (fun hW => ?_)
    refine lv_astore_n (lv' := [(3, .ref q9), (0, .ref x0), (1, .int x), (2, .ref u0)]) hx hb dL_writeBranch_12 rfl hl (by decide) rfl (fun ls hl => ?_)
    refine lv_iconst (v := nI 1) hx hb dL_writeBranch_13 (by decide) ?_
    exact cx_iretM C hr hlocks hW ⟨Nat.le_of_ble_eq_true rfl, Nat.le_of_ble_eq_true rfl⟩ (rfl) dL_writeBranch_14
  · exact hq.elim
theorem dL_outputAt_0 : decode cL_outputAt 0 = .ok (.aload_n 2, 1) := by decide +kernel
theorem dL_outputAt_1 : decode cL_outputAt 1 = .ok (.iconst 0, 1) := by decide +kernel
theorem dL_outputAt_2 : decode cL_outputAt 2 = .ok (.aload_n 0, 1) := by decide +kernel
theorem dL_outputAt_3 : decode cL_outputAt 3 = .ok (.iload_n 1, 1) := by decide +kernel
theorem dL_outputAt_4 : decode cL_outputAt 4 = .ok (.invokevirtual 130, 3) := by decide +kernel
theorem dL_outputAt_7 : decode cL_outputAt 7 = .ok (.i2l, 1) := by decide +kernel
theorem dL_outputAt_8 : decode cL_outputAt 8 = .ok (.lastore, 1) := by decide +kernel
theorem dL_outputAt_9 : decode cL_outputAt 9 = .ok (.goto 6, 3) := by decide +kernel
theorem dL_outputAt_12 : decode cL_outputAt 12 = .ok (.astore_n 3, 1) := by decide +kernel
theorem dL_outputAt_13 : decode cL_outputAt 13 = .ok (.iconst 1, 1) := by decide +kernel
theorem dL_outputAt_14 : decode cL_outputAt 14 = .ok (.ireturn, 1) := by decide +kernel
theorem dL_outputAt_15 : decode cL_outputAt 15 = .ok (.iconst 0, 1) := by decide +kernel
theorem dL_outputAt_16 : decode cL_outputAt 16 = .ok (.ireturn, 1) := by decide +kernel
theorem gV_L_X9_outputAt_130 : GoodIn gw (wsV RL 130 RX9 yX9_outputAt (Cond.code yX9_outputAt cX9_outputAt 2 (some .char) :: gw)) := gdV gw_1582 gw_1583 gw_1584 gw_67 gw_1585
theorem hV_X9_outputAt : yX9_outputAt.cls = RX9 ∧ yX9_outputAt.cls ≠ "java/lang/invoke/MethodHandle" ∧ yX9_outputAt.cls ≠ "java/lang/invoke/VarHandle" ∧ (parseMethodDescriptor yX9_outputAt.desc).map (fun d => d.parameters.length) = some 1 := ⟨rfl, by decide +kernel, by decide +kernel, by decide +kernel⟩
set_option maxHeartbeats 2000000 in
set_option maxRecDepth 20000 in
theorem k_L_outputAt (l : Launch) (hfl : l.stackTraces = false) (D : va_G) (aT : Nat → ClassId) (u0 : Nat) (x0 : Nat) (v0 : Nat) (h0 : Nat) (t0 : Nat) (p0 : Nat) (o0 : Nat) (a0 : Nat) (o1 : Nat) (x : Int32) (o : Nat → Int64) : CxH l yL_outputAt cL_outputAt 4 [(0, 9, 12, 40)] 7 1 6 111 D aT [.ref x0, .int x, .ref u0] [(u0, .inl (aT 2, 1, .inr (.inl o))), (x0, .inr (12, [.ref a0, .ref v0, .ref h0, .ref t0, .ref p0, .ref o0, .int (nI 0), .int (-1), .int (-1)])), (o0, .inr (1, [.ref o1, .int (nI 0), .int (nI 0), .int (nI 0)]))] (fun r W1 => r = nI 1) := by
  refine CxH.of RL (by decide +kernel) rfl (Nat.le_of_ble_eq_true rfl) ?_
  intro p e s m below meth c A ls C hml hl hA hr hlocks htb hZ hW
  have hl : lv_has ls 4 [(0, .ref x0), (1, .int x), (2, .ref u0)] := hl
  have hx := C.1
  have hb := C.2.1
  refine lv_aload_n hx hb dL_outputAt_0 rfl (lv_at hl 2 rfl) ?_
  refine lv_iconst (v := nI 0) hx hb dL_outputAt_1 (by decide) ?_
  refine lv_aload_n hx hb dL_outputAt_2 rfl (lv_at hl 0 rfl) ?_
  refine lv_iload_n hx hb dL_outputAt_3 rfl (lv_at hl 1 rfl) ?_
  refine cx_calli (Wr := [(u0, .inl (aT 2, 1, .inr (.inl o)))]) (cx_runV C hml hl.1 hZ hW hA (As := [.int x]) (rest := [.int (nI 0), .ref u0]) (k_X9_outputAt l hfl D aT x0 v0 h0 t0 p0 o0 a0 o1 x) gV_L_X9_outputAt_130 hV_X9_outputAt rfl ⟨Nat.le_of_ble_eq_true rfl, Nat.le_of_ble_eq_true rfl⟩ ⟨Nat.le_of_ble_eq_true rfl, Nat.le_of_ble_eq_true rfl⟩ [1, 2] rfl (by decide) 1 12 rfl rfl rfl rfl (Nat.le_of_ble_eq_true rfl) dL_outputAt_4) hW hA [1, 2] [0] rfl rfl (by decide) (by decide) ?_ (fun r_4 W_4 H locs hq hW => ?_)
  · intro E ce q9 H locs hE hS h7 h8 h9
    have hE : E = _ := hE
    subst hE
    refine cx_catch C hZ ⟨0, 9, 12, 40⟩ (tableOf []) htb (by decide) (by decide) gw_799 nw_837 hS h7 h8 h9 (fun hW => ?_)
    refine lv_astore_n (lv' := [(3, .ref q9), (0, .ref x0), (1, .int x), (2, .ref u0)]) hx hb dL_outputAt_12 rfl hl (by decide) rfl (fun ls hl => ?_)
    refine lv_iconst (v := nI 1) hx hb dL_outputAt_13 (by decide) ?_
    exact cx_iretM C hr hlocks hW ⟨Nat.le_of_ble_eq_true rfl, Nat.le_of_ble_eq_true rfl⟩ (rfl) dL_outputAt_14
  · exact hq.elim
theorem dL_undo_0 : decode cL_undo 0 = .ok (.aload_n 1, 1) := by decide +kernel
theorem dL_undo_1 : decode cL_undo 1 = .ok (.iconst 0, 1) := by decide +kernel
theorem dL_undo_2 : decode cL_undo 2 = .ok (.aload_n 0, 1) := by decide +kernel
theorem dL_undo_3 : decode cL_undo 3 = .ok (.invokevirtual 133, 3) := by decide +kernel
theorem dL_undo_6 : decode cL_undo 6 = .ok (.i2l, 1) := by decide +kernel
theorem dL_undo_7 : decode cL_undo 7 = .ok (.lastore, 1) := by decide +kernel
theorem dL_undo_8 : decode cL_undo 8 = .ok (.goto 6, 3) := by decide +kernel
theorem dL_undo_11 : decode cL_undo 11 = .ok (.astore_n 2, 1) := by decide +kernel
theorem dL_undo_12 : decode cL_undo 12 = .ok (.iconst 1, 1) := by decide +kernel
theorem dL_undo_13 : decode cL_undo 13 = .ok (.ireturn, 1) := by decide +kernel
theorem dL_undo_14 : decode cL_undo 14 = .ok (.iconst 0, 1) := by decide +kernel
theorem dL_undo_15 : decode cL_undo 15 = .ok (.ireturn, 1) := by decide +kernel
theorem gV_L_X9_undo_133 : GoodIn gw (wsV RL 133 RX9 yX9_undo (Cond.code yX9_undo cX9_undo 1 (some .int) :: gw)) := gdV gw_1600 gw_1601 gw_1602 gw_67 gw_1603
theorem hV_X9_undo : yX9_undo.cls = RX9 ∧ yX9_undo.cls ≠ "java/lang/invoke/MethodHandle" ∧ yX9_undo.cls ≠ "java/lang/invoke/VarHandle" ∧ (parseMethodDescriptor yX9_undo.desc).map (fun d => d.parameters.length) = some 0 := ⟨rfl, by decide +kernel, by decide +kernel, by decide +kernel⟩
set_option maxHeartbeats 2000000 in
set_option maxRecDepth 20000 in
theorem k_L_undo (l : Launch) (hfl : l.stackTraces = false) (D : va_G) (aT : Nat → ClassId) (u0 : Nat) (x0 : Nat) (v0 : Nat) (h0 : Nat) (t0 : Nat) (p0 : Nat) (o0 : Nat) (a0 : Nat) (h1 : Nat) (f : Nat → Option Nat) (o : Nat → Int64) : CxH l yL_undo cL_undo 3 [(0, 8, 11, 15)] 7 1 6 110 D aT [.ref x0, .ref u0] [(u0, .inl (aT 2, 1, .inr (.inl o))), (x0, .inr (12, [.ref a0, .ref v0, .ref h0, .ref t0, .ref p0, .ref o0, .int (nI 0), .int (-1), .int (-1)])), (h0, .inr (7, [.ref h1, .int (nI 0)])), (h1, .inl (aT 5, 9, .inr (.inr (.inr (.inr f)))))] (fun r W1 => r = nI 1) := by
  refine CxH.of RL (by decide +kernel) rfl (Nat.le_of_ble_eq_true rfl) ?_
  intro p e s m below meth c A ls C hml hl hA hr hlocks htb hZ hW
  have hl : lv_has ls 3 [(0, .ref x0), (1, .ref u0)] := hl
  have hx := C.1
  have hb := C.2.1
  refine lv_aload_n hx hb dL_undo_0 rfl (lv_at hl 1 rfl) ?_
  refine lv_iconst (v := nI 0) hx hb dL_undo_1 (by decide) ?_
  refine lv_aload_n hx hb dL_undo_2 rfl (lv_at hl 0 rfl) ?_
  refine cx_calli (Wr := [(u0, .inl (aT 2, 1, .inr (.inl o)))]) (cx_runV C hml hl.1 hZ hW hA (As := []) (rest := [.int (nI 0), .ref u0]) (k_X9_undo l hfl D aT x0 v0 h0 t0 p0 o0 a0 h1 f) gV_L_X9_undo_133 hV_X9_undo rfl ⟨Nat.le_of_ble_eq_true rfl, Nat.le_of_ble_eq_true rfl⟩ ⟨Nat.le_of_ble_eq_true rfl, Nat.le_of_ble_eq_true rfl⟩ [1, 2, 3] rfl (by decide) 1 12 rfl rfl rfl rfl (Nat.le_of_ble_eq_true rfl) dL_undo_3) hW hA [1, 2, 3] [0] rfl rfl (by decide) (by decide) ?_ (fun r_3 W_3 H locs hq hW => ?_)
  · intro E ce q9 H locs hE hS h7 h8 h9
    have hE : E = _ := hE
    subst hE
    refine cx_catch C hZ ⟨0, 8, 11, 15⟩ (tableOf []) htb (by decide) (by decide) gw_547 nw_637 hS h7 h8 h9 (fun hW => ?_)
    refine lv_astore_n (lv' := [(2, .ref q9), (0, .ref x0), (1, .ref u0)]) hx hb dL_undo_11 rfl hl (by decide) rfl (fun ls hl => ?_)
    refine lv_iconst (v := nI 1) hx hb dL_undo_12 (by decide) ?_
    exact cx_iretM C hr hlocks hW ⟨Nat.le_of_ble_eq_true rfl, Nat.le_of_ble_eq_true rfl⟩ (rfl) dL_undo_13
  · exact hq.elim
theorem dL_restore_0 : decode cL_restore 0 = .ok (.aload_n 0, 1) := by decide +kernel
theorem dL_restore_1 : decode cL_restore 1 = .ok (.invokevirtual 136, 3) := by decide +kernel
theorem dL_restore_4 : decode cL_restore 4 = .ok (.goto 6, 3) := by decide +kernel
theorem dL_restore_7 : decode cL_restore 7 = .ok (.astore_n 1, 1) := by decide +kernel
theorem dL_restore_8 : decode cL_restore 8 = .ok (.iconst 1, 1) := by decide +kernel
theorem dL_restore_9 : decode cL_restore 9 = .ok (.ireturn, 1) := by decide +kernel
theorem dL_restore_10 : decode cL_restore 10 = .ok (.iconst 0, 1) := by decide +kernel
theorem dL_restore_11 : decode cL_restore 11 = .ok (.ireturn, 1) := by decide +kernel
theorem gV_L_X9_restore_136 : GoodIn gw (wsV RL 136 RX9 yX9_restore (Cond.code yX9_restore cX9_restore 1 (none) :: gw)) := gdV gw_1612 gw_1613 gw_1614 gw_67 gw_1615
theorem hV_X9_restore : yX9_restore.cls = RX9 ∧ yX9_restore.cls ≠ "java/lang/invoke/MethodHandle" ∧ yX9_restore.cls ≠ "java/lang/invoke/VarHandle" ∧ (parseMethodDescriptor yX9_restore.desc).map (fun d => d.parameters.length) = some 0 := ⟨rfl, by decide +kernel, by decide +kernel, by decide +kernel⟩
set_option maxHeartbeats 2000000 in
set_option maxRecDepth 20000 in
theorem k_L_restore (l : Launch) (hfl : l.stackTraces = false) (D : va_G) (aT : Nat → ClassId) (x0 : Nat) (v0 : Nat) (h0 : Nat) (t0 : Nat) (p0 : Nat) (o0 : Nat) (a0 : Nat) : CxH l yL_restore cL_restore 2 [(0, 4, 7, 15)] 7 1 6 110 D aT [.ref x0] [(x0, .inr (12, [.ref a0, .ref v0, .ref h0, .ref t0, .ref p0, .ref o0, .int (nI 0), .int (-1), .int (-1)]))] (fun r W1 => r = nI 1) := by
  refine CxH.of RL (by decide +kernel) rfl (Nat.le_of_ble_eq_true rfl) ?_
  intro p e s m below meth c A ls C hml hl hA hr hlocks htb hZ hW
  have hl : lv_has ls 2 [(0, .ref x0)] := hl
  have hx := C.1
  have hb := C.2.1
  refine lv_aload_n hx hb dL_restore_0 rfl (lv_at hl 0 rfl) ?_
  refine cx_callv (Wr := []) (cx_runV C hml hl.1 hZ hW hA (As := []) (rest := []) (k_X9_restore l hfl D aT x0 v0 h0 t0 p0 o0 a0) gV_L_X9_restore_136 hV_X9_restore rfl ⟨Nat.le_of_ble_eq_true rfl, Nat.le_of_ble_eq_true rfl⟩ ⟨Nat.le_of_ble_eq_true rfl, Nat.le_of_ble_eq_true rfl⟩ [0] rfl (by decide) 0 12 rfl rfl rfl rfl (Nat.le_of_ble_eq_true rfl) dL_restore_1) hW hA [0] [] rfl rfl (by decide) (by decide) ?_ (fun W_1 H locs hq hW => ?_)
  · intro E ce q9 H locs hE hS h7 h8 h9
    have hE : E = _ := hE
    subst hE
    refine cx_catch C hZ ⟨0, 4, 7, 15⟩ (tableOf []) htb (by decide) (by decide) gw_547 nw_637 hS h7 h8 h9 (fun hW => ?_)
    refine lv_astore_n (lv' := [(1, .ref q9), (0, .ref x0)]) hx hb dL_restore_7 rfl hl (by decide) rfl (fun ls hl => ?_)
    refine lv_iconst (v := nI 1) hx hb dL_restore_8 (by decide) ?_
    exact cx_iretM C hr hlocks hW ⟨Nat.le_of_ble_eq_true rfl, Nat.le_of_ble_eq_true rfl⟩ (rfl) dL_restore_9
  · exact hq.elim
