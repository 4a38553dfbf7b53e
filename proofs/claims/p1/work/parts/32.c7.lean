/-- the streams that the claim lets the run draw from -/
abbrev lw_cs : List Choice := [Jvm.Choice.named "NaN.bits"]
theorem lw_bits : nanBits ∈ lw_cs := by first | decide | exact List.mem_cons_self | simp [lw_cs, nanBits]
/-! THE CLAIM OUT OF ONE WALK OF THE LAW'S BODY. Your part is whole_start (and what it stands on); all else here is the same for every law, but numbers. -/
def R_law : String := "HedgeCommitteeLaw"
def lw_P (b : Addr) (xs : List Int32) (args : Array Value) (s : State) : Prop := args = #[.ref b] ∧ s.IntsAt b xs ∧ xs.length ≤ 4 ∧ (Jvm.Cond.and given_1 narrow_1).before args s = true
/-- what a walk over the start with the record d0 says of its end, said of the start itself -/
theorem lw_closed {s t : State} {o : Outcome} {d0 : Drawn} {L : List Loc} {k n : Nat} (hd0 : s.drawn.sameBut d0 lw_cs) (hv : ∃ v, o = .returned v) (hW : (s.setDrawn d0).WarmedH t.vm) (hs : (s.setDrawn d0).sameButNew ({ t with vm := s.vm } : State) L k n) : State.butDraws s t lw_cs (fun t1 => Framed s o t1 L k n) := by
  have h2 : t.drawn = d0 := congrArg State.drawn hs.1
  refine ⟨⟨hv, hW, State.sameButNew.setDrawn hs s.drawn⟩, ?_, by decide⟩
  rw [h2]
  exact hd0
def lw_Q (_ : Array Value) (s : State) (o : Outcome) (t : State) : Prop := o = .returned (some (.int 1)) ∧ State.butDraws s t lw_cs (fun t1 => Framed s o t1 [] 600006 7302048)
def lw_Z (below : List Frame) (a : Array Value) (s : State) : State → Prop := fun t => ∃ o, t.status = .running ∧ Ended t below o ∧ lw_Q a s o t
/-- the law's own end, with 1 on the stack, nothing written that was there before, its room as the claim has it; d0: the record of draws at this point (at the entry s.drawn: begin with 'refine W.base ?_' and 'have hd0 := Drawn.sameBut.refl s.drawn lw_cs') -/
theorem lw_ret {p : Program} {l : Launch} {e : Env} {s : State} {m : MethodId} {below : List Frame} {meth : Method} {c : Code} {b : Nat} {d0 : Drawn} (hd0 : s.drawn.sameBut d0 lw_cs) (hx : p.tables.exec = Jvm.exec) (hb : c.code = code) (hr : meth.sig.returnType = ret) (hlocks : meth.locks = false) {pc : Nat} {H : Heap} {ls : Array Slot} (hdg : decode code pc = .ok (.ireturn, 1)) : W p l e room_1 (s.setDrawn d0) m #[Value.ref b] below meth c H [] 600006 7302048 (lw_Z below #[Value.ref b] s) (F0 m pc ls [.int 1]) := by
  intro T hT X
  obtain ⟨fs, hret, hrun, hended, hW, hframe⟩ := X.leave (v := some (.int 1)) (hlocks := hlocks) (fun h => by rw [hr] at h; cases h)
  have hmeth' : T.vm.method? m = some meth := X.method'
  refine ⟨T.setFrames fs, ?_, .returned (some (.int 1)), hrun, hended, rfl, lw_closed hd0 ⟨_, rfl⟩ hW hframe⟩
  jvm_step X.here [X.here.top, hx, hb, hdg, hmeth', hr, ret, narrow_b1]
  (try refine ⟨rfl, ?_⟩); (try refine ⟨rfl, ?_⟩)
  first | (intro acts; rw [hret _ acts rfl rfl rfl]) | rw [hret _ _ rfl rfl rfl]
  exact Steps.refl _
/-- what holds at the law's entry: the machine, the code, the tables' words (any of lw_tbl by 'hts w (by decide +kernel)'), the script of L ints xs at the cell b, what the Statement gives of the start (any of its parts by flat_of_before) -/
def lw_At (p : Program) (s : State) (m : MethodId) (meth : Method) (c : Code) (b L : Nat) (xs : Nat → Int32) : Prop :=
  p.tables.exec = Jvm.exec ∧ c.code = code ∧ meth.sig.returnType = ret ∧ c.maxLocals = 9 ∧ s.vm.findClass R_law = some m.cls ∧ (∀ w ∈ lw_tbl, w.before #[Value.ref b] s = true) ∧ va_X b L xs s s.heap ∧ b < s.heap.size ∧ meth.locks = false ∧ (Jvm.Cond.and given_1 narrow_1).before #[Value.ref b] s = true
section CXLW
variable {p : Program} {l : Launch} {e : Env} {R : Room} {s : State} {m : MethodId} {args : Array Value} {below : List Frame} {meth : Method} {c : Code} {H : Heap} {locs : List Loc} {cells slots : Nat} {Q : State → Prop} {cc : ByteArray} {pc : Nat} {ls : Array Slot} {rest : List Value} {D : va_G} {aT : Nat → ClassId} {ad : Nat → Nat} {S : MSt} {Wd : va_W} {A : Nat → Prop} {H0 : Heap} {own : String} {a nL : Nat}
/-- a call of the reference from anywhere -/
theorem cx_runMd (C : CxX p c cc s args m D aT own) (hml : c.maxLocals = nL) (hls : ls.size = nL) (hW : CxB D Wd A s.heap H locs) (hA : ∀ q, s.heap.size ≤ q → A q) {y : MethodName} {b : ByteArray} {L : Nat} {ret : Option FieldType} {fr lo idx n : Nat} {As st : List Value} {Qk : Nat → Array Value → State → Outcome → State → Prop} (hM : ∀ sz, Met l y (Cond.code y b L ret :: gw) (mdR fr lo) (va_Pc (.ref (ad 0) :: As) (mdB1 D aT ad S sz)) (Qk sz) 0 0 (va_A (mdW aT ad S) sz))
    (hT : GoodIn gw (wsV own idx RX10 y (Cond.code y b L ret :: gw))) (hd : y.cls = RX10 ∧ y.cls ≠ "java/lang/invoke/MethodHandle" ∧ y.cls ≠ "java/lang/invoke/VarHandle" ∧ (parseMethodDescriptor y.desc).map (fun d => d.parameters.length) = some n) (hn : As.length = n)
    (hR : fr + 1 ≤ R.frames ∧ 8 + (L + 11) + lo ≤ R.locals) (hcs : cells ≤ R.cells ∧ slots ≤ R.slots) (is : List Nat) (his : is.map (fun i => Wd[i]?) = (mdW aT ad S).map some) (hnd : va_nd is = true)
    (hst : st = As.reverse ++ .ref (ad 0) :: rest) (hw : (rest.map fun v => v.category).sum ≤ 8) (hdg : decode cc pc = .ok (.invokevirtual idx, 3)) : va_Run p l e R s m args below meth c H locs cells slots 0 0 (F0 m pc ls st) rest (Qk H.size (Value.ref (ad 0) :: As).toArray) (va_A (mdW aT ad S) H.size) := by
  obtain ⟨hx, hb, hg, hown, hK⟩ := C
  subst hst
  have hPm : va_P D vwCl (mdW aT ad S) H := hW.1.sub is (cx_fm his)
  exact va_runV (As := As) (rest := rest) ⟨hx, hb, hml, hown, hg⟩ (hM H.size) (cwV n hg hT rfl rfl rfl hd hR) ⟨md_blind _ _, va_recv hK hPm (ci := 13) (q0 := 0) rfl rfl, fun U hU hw => ⟨rfl, by rw [hU], by rw [hU]; exact hPm, va_K.moved hw.alike hK, (hW.2.1.sub is hnd his).weaken (fun _ _ _ _ => trivial)⟩⟩ rfl hn hls rfl (lv_room hw) hdg hcs
section MDK
variable {st : List Value} {Wr : va_W} {a' : Array Value}
theorem cx_mdi {post : Int32 → MSt → Prop} (hr : va_Run p l e R s m args below meth c H locs cells slots 0 0 (F0 m pc ls st) rest (va_Qi post (mdB2 D aT ad S H.size) (va_A (mdW aT ad S) H.size) a') (va_A (mdW aT ad S) H.size)) (hW : CxB D Wd A s.heap H locs) (hA : ∀ q, s.heap.size ≤ q → A q) (is isR : List Nat) (his : is.map (fun i => Wd[i]?) = (mdW aT ad S).map some) (hR : isR.map (fun i => Wd[i]?) = Wr.map some) (hn : va_nd isR = true) (hdis : ∀ i ∈ isR, i ∉ is)
    (kk : ∀ (r : Int32) (S1 : MSt) (H1 : Heap) (locs1 : List Loc), post r S1 → CxB D (Wr ++ mdW aT ad S1) A s.heap H1 locs1 → W p l e R s m args below meth c H1 locs1 cells slots Q (F0 m (pc + 3) ls (.int r :: rest))) : W p l e R s m args below meth c H locs cells slots Q (F0 m pc ls st) := by
  have hF := va_free hW.2.1 hW.2.2 hA is his
  exact va_calli hr hW.2.2 (fun q _ h => hF q h) hF (fun r u t H1 locs1 ht _ hp hB _ hk hS1 => kk r u H1 locs1 hp (cx_back (W1 := mdW aT ad u) hW hA is isR his hR hn hdis ht hB hk hS1))
theorem cx_mdv {post : MSt → Prop} (hr : va_Run p l e R s m args below meth c H locs cells slots 0 0 (F0 m pc ls st) rest (va_Qv post (mdB2 D aT ad S H.size) (va_A (mdW aT ad S) H.size) a') (va_A (mdW aT ad S) H.size)) (hW : CxB D Wd A s.heap H locs) (hA : ∀ q, s.heap.size ≤ q → A q) (is isR : List Nat) (his : is.map (fun i => Wd[i]?) = (mdW aT ad S).map some) (hR : isR.map (fun i => Wd[i]?) = Wr.map some) (hn : va_nd isR = true) (hdis : ∀ i ∈ isR, i ∉ is)
    (kk : ∀ (S1 : MSt) (H1 : Heap) (locs1 : List Loc), post S1 → CxB D (Wr ++ mdW aT ad S1) A s.heap H1 locs1 → W p l e R s m args below meth c H1 locs1 cells slots Q (F0 m (pc + 3) ls rest)) : W p l e R s m args below meth c H locs cells slots Q (F0 m pc ls st) := by
  have hF := va_free hW.2.1 hW.2.2 hA is his
  exact va_callv hr hW.2.2 (fun q _ h => hF q h) hF (fun u t H1 locs1 ht _ hp hB _ hk hS1 => kk u H1 locs1 hp (cx_back (W1 := mdW aT ad u) hW hA is isR his hR hn hdis ht hB hk hS1))
theorem cx_mdd {post : UInt64 → MSt → Prop} (hr : va_Run p l e R s m args below meth c H locs cells slots 0 0 (F0 m pc ls st) rest (va_Qd post (mdB2 D aT ad S H.size) (va_A (mdW aT ad S) H.size) a') (va_A (mdW aT ad S) H.size)) (hW : CxB D Wd A s.heap H locs) (hA : ∀ q, s.heap.size ≤ q → A q) (is isR : List Nat) (his : is.map (fun i => Wd[i]?) = (mdW aT ad S).map some) (hR : isR.map (fun i => Wd[i]?) = Wr.map some) (hn : va_nd isR = true) (hdis : ∀ i ∈ isR, i ∉ is)
    (kk : ∀ (r : UInt64) (S1 : MSt) (H1 : Heap) (locs1 : List Loc), post r S1 → CxB D (Wr ++ mdW aT ad S1) A s.heap H1 locs1 → W p l e R s m args below meth c H1 locs1 cells slots Q (F0 m (pc + 3) ls (.double r :: rest))) : W p l e R s m args below meth c H locs cells slots Q (F0 m pc ls st) := by
  have hF := va_free hW.2.1 hW.2.2 hA is his
  exact va_calld hr hW.2.2 (fun q _ h => hF q h) hF (fun r u t H1 locs1 ht _ hp hB _ hk hS1 => kk r u H1 locs1 hp (cx_back (W1 := mdW aT ad u) hW hA is isR his hR hn hdis ht hB hk hS1))
theorem cx_mdf {post : UInt32 → MSt → Prop} (hr : va_Run p l e R s m args below meth c H locs cells slots 0 0 (F0 m pc ls st) rest (va_Qf post (mdB2 D aT ad S H.size) (va_A (mdW aT ad S) H.size) a') (va_A (mdW aT ad S) H.size)) (hW : CxB D Wd A s.heap H locs) (hA : ∀ q, s.heap.size ≤ q → A q) (is isR : List Nat) (his : is.map (fun i => Wd[i]?) = (mdW aT ad S).map some) (hR : isR.map (fun i => Wd[i]?) = Wr.map some) (hn : va_nd isR = true) (hdis : ∀ i ∈ isR, i ∉ is)
    (kk : ∀ (r : UInt32) (S1 : MSt) (H1 : Heap) (locs1 : List Loc), post r S1 → CxB D (Wr ++ mdW aT ad S1) A s.heap H1 locs1 → W p l e R s m args below meth c H1 locs1 cells slots Q (F0 m (pc + 3) ls (.float r :: rest))) : W p l e R s m args below meth c H locs cells slots Q (F0 m pc ls st) := by
  have hF := va_free hW.2.1 hW.2.2 hA is his
  exact va_callf hr hW.2.2 (fun q _ h => hF q h) hF (fun r u t H1 locs1 ht _ hp hB _ hk hS1 => kk r u H1 locs1 hp (cx_back (W1 := mdW aT ad u) hW hA is isR his hR hn hdis ht hB hk hS1))
theorem cx_mdi2 (C : CxX p c cc s args m D aT own) (hml : c.maxLocals = nL) (hls : ls.size = nL) (hW : CxB D Wd A s.heap H locs) (hA : ∀ q, s.heap.size ≤ q → A q) {y : MethodName} {b : ByteArray} {L : Nat} {ret : FieldType} {post : Int32 → MSt → Prop} {fr lo idx n : Nat} {As : List Value} (hM : MdI l y b L ret fr lo D aT ad (.ref (ad 0) :: As) S post)
    (hT : GoodIn gw (wsV own idx RX10 y (Cond.code y b L (some ret) :: gw))) (hd : y.cls = RX10 ∧ y.cls ≠ "java/lang/invoke/MethodHandle" ∧ y.cls ≠ "java/lang/invoke/VarHandle" ∧ (parseMethodDescriptor y.desc).map (fun d => d.parameters.length) = some n) (hn : As.length = n)
    (hR : fr + 1 ≤ R.frames ∧ 8 + (L + 11) + lo ≤ R.locals) (hcs : cells ≤ R.cells ∧ slots ≤ R.slots) (is : List Nat) (his : is.map (fun i => Wd[i]?) = (mdW aT ad S).map some) (hnd : va_nd is = true)
    (hst : st = As.reverse ++ .ref (ad 0) :: rest) (hw : (rest.map fun v => v.category).sum ≤ 8) (hdg : decode cc pc = .ok (.invokevirtual idx, 3)) (isR : List Nat) (hRr : isR.map (fun i => Wd[i]?) = Wr.map some) (hn2 : va_nd isR = true) (hdis : ∀ i ∈ isR, i ∉ is)
    (kk : ∀ (r : Int32) (S1 : MSt) (H1 : Heap) (locs1 : List Loc), post r S1 → CxB D (Wr ++ mdW aT ad S1) A s.heap H1 locs1 → W p l e R s m args below meth c H1 locs1 cells slots Q (F0 m (pc + 3) ls (.int r :: rest))) : W p l e R s m args below meth c H locs cells slots Q (F0 m pc ls st) :=
  cx_mdi (cx_runMd (Qk := fun sz => va_Qi post (mdB2 D aT ad S sz) (va_A (mdW aT ad S) sz)) C hml hls hW hA hM hT hd hn hR hcs is his hnd hst hw hdg) hW hA is isR his hRr hn2 hdis kk
theorem cx_mdv2 (C : CxX p c cc s args m D aT own) (hml : c.maxLocals = nL) (hls : ls.size = nL) (hW : CxB D Wd A s.heap H locs) (hA : ∀ q, s.heap.size ≤ q → A q) {y : MethodName} {b : ByteArray} {L : Nat} {post : MSt → Prop} {fr lo idx n : Nat} {As : List Value} (hM : MdV l y b L fr lo D aT ad (.ref (ad 0) :: As) S post)
    (hT : GoodIn gw (wsV own idx RX10 y (Cond.code y b L (none) :: gw))) (hd : y.cls = RX10 ∧ y.cls ≠ "java/lang/invoke/MethodHandle" ∧ y.cls ≠ "java/lang/invoke/VarHandle" ∧ (parseMethodDescriptor y.desc).map (fun d => d.parameters.length) = some n) (hn : As.length = n)
    (hR : fr + 1 ≤ R.frames ∧ 8 + (L + 11) + lo ≤ R.locals) (hcs : cells ≤ R.cells ∧ slots ≤ R.slots) (is : List Nat) (his : is.map (fun i => Wd[i]?) = (mdW aT ad S).map some) (hnd : va_nd is = true)
    (hst : st = As.reverse ++ .ref (ad 0) :: rest) (hw : (rest.map fun v => v.category).sum ≤ 8) (hdg : decode cc pc = .ok (.invokevirtual idx, 3)) (isR : List Nat) (hRr : isR.map (fun i => Wd[i]?) = Wr.map some) (hn2 : va_nd isR = true) (hdis : ∀ i ∈ isR, i ∉ is)
    (kk : ∀ (S1 : MSt) (H1 : Heap) (locs1 : List Loc), post S1 → CxB D (Wr ++ mdW aT ad S1) A s.heap H1 locs1 → W p l e R s m args below meth c H1 locs1 cells slots Q (F0 m (pc + 3) ls rest)) : W p l e R s m args below meth c H locs cells slots Q (F0 m pc ls st) :=
  cx_mdv (cx_runMd (Qk := fun sz => va_Qv post (mdB2 D aT ad S sz) (va_A (mdW aT ad S) sz)) C hml hls hW hA hM hT hd hn hR hcs is his hnd hst hw hdg) hW hA is isR his hRr hn2 hdis kk
theorem cx_mdd2 (C : CxX p c cc s args m D aT own) (hml : c.maxLocals = nL) (hls : ls.size = nL) (hW : CxB D Wd A s.heap H locs) (hA : ∀ q, s.heap.size ≤ q → A q) {y : MethodName} {b : ByteArray} {L : Nat} {post : UInt64 → MSt → Prop} {fr lo idx n : Nat} {As : List Value} (hM : ∀ sz, Met l y (Cond.code y b L (some .double) :: gw) (mdR fr lo) (va_Pc (.ref (ad 0) :: As) (mdB1 D aT ad S sz)) (va_Qd post (mdB2 D aT ad S sz) (va_A (mdW aT ad S) sz)) 0 0 (va_A (mdW aT ad S) sz))
    (hT : GoodIn gw (wsV own idx RX10 y (Cond.code y b L (some .double) :: gw))) (hd : y.cls = RX10 ∧ y.cls ≠ "java/lang/invoke/MethodHandle" ∧ y.cls ≠ "java/lang/invoke/VarHandle" ∧ (parseMethodDescriptor y.desc).map (fun d => d.parameters.length) = some n) (hn : As.length = n)
    (hR : fr + 1 ≤ R.frames ∧ 8 + (L + 11) + lo ≤ R.locals) (hcs : cells ≤ R.cells ∧ slots ≤ R.slots) (is : List Nat) (his : is.map (fun i => Wd[i]?) = (mdW aT ad S).map some) (hnd : va_nd is = true)
    (hst : st = As.reverse ++ .ref (ad 0) :: rest) (hw : (rest.map fun v => v.category).sum ≤ 8) (hdg : decode cc pc = .ok (.invokevirtual idx, 3)) (isR : List Nat) (hRr : isR.map (fun i => Wd[i]?) = Wr.map some) (hn2 : va_nd isR = true) (hdis : ∀ i ∈ isR, i ∉ is)
    (kk : ∀ (r : UInt64) (S1 : MSt) (H1 : Heap) (locs1 : List Loc), post r S1 → CxB D (Wr ++ mdW aT ad S1) A s.heap H1 locs1 → W p l e R s m args below meth c H1 locs1 cells slots Q (F0 m (pc + 3) ls (.double r :: rest))) : W p l e R s m args below meth c H locs cells slots Q (F0 m pc ls st) :=
  cx_mdd (cx_runMd (Qk := fun sz => va_Qd post (mdB2 D aT ad S sz) (va_A (mdW aT ad S) sz)) C hml hls hW hA hM hT hd hn hR hcs is his hnd hst hw hdg) hW hA is isR his hRr hn2 hdis kk
theorem cx_mdf2 (C : CxX p c cc s args m D aT own) (hml : c.maxLocals = nL) (hls : ls.size = nL) (hW : CxB D Wd A s.heap H locs) (hA : ∀ q, s.heap.size ≤ q → A q) {y : MethodName} {b : ByteArray} {L : Nat} {post : UInt32 → MSt → Prop} {fr lo idx n : Nat} {As : List Value} (hM : ∀ sz, Met l y (Cond.code y b L (some .float) :: gw) (mdR fr lo) (va_Pc (.ref (ad 0) :: As) (mdB1 D aT ad S sz)) (va_Qf post (mdB2 D aT ad S sz) (va_A (mdW aT ad S) sz)) 0 0 (va_A (mdW aT ad S) sz))
    (hT : GoodIn gw (wsV own idx RX10 y (Cond.code y b L (some .float) :: gw))) (hd : y.cls = RX10 ∧ y.cls ≠ "java/lang/invoke/MethodHandle" ∧ y.cls ≠ "java/lang/invoke/VarHandle" ∧ (parseMethodDescriptor y.desc).map (fun d => d.parameters.length) = some n) (hn : As.length = n)
    (hR : fr + 1 ≤ R.frames ∧ 8 + (L + 11) + lo ≤ R.locals) (hcs : cells ≤ R.cells ∧ slots ≤ R.slots) (is : List Nat) (his : is.map (fun i => Wd[i]?) = (mdW aT ad S).map some) (hnd : va_nd is = true)
    (hst : st = As.reverse ++ .ref (ad 0) :: rest) (hw : (rest.map fun v => v.category).sum ≤ 8) (hdg : decode cc pc = .ok (.invokevirtual idx, 3)) (isR : List Nat) (hRr : isR.map (fun i => Wd[i]?) = Wr.map some) (hn2 : va_nd isR = true) (hdis : ∀ i ∈ isR, i ∉ is)
    (kk : ∀ (r : UInt32) (S1 : MSt) (H1 : Heap) (locs1 : List Loc), post r S1 → CxB D (Wr ++ mdW aT ad S1) A s.heap H1 locs1 → W p l e R s m args below meth c H1 locs1 cells slots Q (F0 m (pc + 3) ls (.float r :: rest))) : W p l e R s m args below meth c H locs cells slots Q (F0 m pc ls st) :=
  cx_mdf (cx_runMd (Qk := fun sz => va_Qf post (mdB2 D aT ad S sz) (va_A (mdW aT ad S) sz)) C hml hls hW hA hM hT hd hn hR hcs is his hnd hst hw hdg) hW hA is isR his hRr hn2 hdis kk
end MDK
theorem cx_lald (C : CxX p c cc s args m D aT own) (hW : CxB D Wd A H0 H locs) (i t0 : Nat) {n j : Nat} {f : Nat → Int64} {x : Int64} {ty : FieldType} (he : Wd[i]? = some (a, .inl (aT t0, n, .inr (.inl f)))) (ht : (tyG aT)[t0]? = some (aT t0, ty)) (hc : ty = .long) (hj : j < n) (hn : n < 2 ^ 31) (hv : f j = x) (hdg : decode cc pc = .ok (.laload, 1)) (kk : W p l e R s m args below meth c H locs cells slots Q (F0 m (pc + 1) ls (.long x :: rest))) : W p l e R s m args below meth c H locs cells slots Q (F0 m pc ls (.int (nI j) :: .ref a :: rest)) := by
  obtain ⟨hx, hb, hg, hown, hK⟩ := C
  subst hc
  refine va_lald (D := D) hx hb hK hW.1 i t0 he ht (vp_in_nI hj (by omega)) hdg ?_
  rw [nI_clamp (by omega), hv]
  exact kk
theorem cx_sld (C : CxX p c cc s args m D aT own) (hW : CxB D Wd A s.heap H locs) {b L k : Nat} {xs : Nat → Int32} (hX : va_X b L xs s s.heap) (hbl : b < s.heap.size) (hbA : ¬ A b) (hk : k < L) (hL : L < 2 ^ 31) (hdg : decode cc pc = .ok (.iaload, 1)) (kk : W p l e R s m args below meth c H locs cells slots Q (F0 m (pc + 1) ls (.int (xs k) :: rest))) : W p l e R s m args below meth c H locs cells slots Q (F0 m pc ls (.int (nI k) :: .ref b :: rest)) := by
  refine va_sld C.1 C.2.1 hX hbl hbA hW.2.2 (vp_in_nI hk hL) hdg ?_
  rw [nI_clamp (by omega)]
  exact kk
end CXLW

theorem dL_law_0 : decode code 0 = .ok (.new 8, 3) := by decide +kernel
theorem dL_law_3 : decode code 3 = .ok (.dup, 1) := by decide +kernel
theorem dL_law_4 : decode code 4 = .ok (.invokespecial 139, 3) := by decide +kernel
theorem dL_law_7 : decode code 7 = .ok (.astore_n 1, 1) := by decide +kernel
theorem dL_law_8 : decode code 8 = .ok (.new 140, 3) := by decide +kernel
theorem dL_law_11 : decode code 11 = .ok (.dup, 1) := by decide +kernel
theorem dL_law_12 : decode code 12 = .ok (.invokespecial 142, 3) := by decide +kernel
theorem dL_law_15 : decode code 15 = .ok (.astore_n 2, 1) := by decide +kernel
theorem dL_law_16 : decode code 16 = .ok (.iconst 1, 1) := by decide +kernel
theorem dL_law_17 : decode code 17 = .ok (.newarray .long, 2) := by decide +kernel
theorem dL_law_19 : decode code 19 = .ok (.astore_n 3, 1) := by decide +kernel
theorem dL_law_20 : decode code 20 = .ok (.iconst 1, 1) := by decide +kernel
theorem dL_law_21 : decode code 21 = .ok (.newarray .double, 2) := by decide +kernel
theorem dL_law_23 : decode code 23 = .ok (.astore 4, 2) := by decide +kernel
theorem dL_law_25 : decode code 25 = .ok (.iconst 0, 1) := by decide +kernel
theorem dL_law_26 : decode code 26 = .ok (.istore 5, 2) := by decide +kernel
theorem dL_law_28 : decode code 28 = .ok (.iload 5, 2) := by decide +kernel
theorem dL_law_30 : decode code 30 = .ok (.aload_n 0, 1) := by decide +kernel
theorem dL_law_31 : decode code 31 = .ok (.arraylength, 1) := by decide +kernel
theorem dL_law_32 : decode code 32 = .ok (.iconst 4, 1) := by decide +kernel
theorem dL_law_33 : decode code 33 = .ok (.isub, 1) := by decide +kernel
theorem dL_law_34 : decode code 34 = .ok (.if_icmp .gt 2469, 3) := by decide +kernel
theorem dL_law_37 : decode code 37 = .ok (.aload_n 0, 1) := by decide +kernel
theorem dL_law_38 : decode code 38 = .ok (.iload 5, 2) := by decide +kernel
theorem dL_law_40 : decode code 40 = .ok (.iaload, 1) := by decide +kernel
theorem dL_law_41 : decode code 41 = .ok (.bipush 63, 2) := by decide +kernel
theorem dL_law_43 : decode code 43 = .ok (.iand, 1) := by decide +kernel
theorem dL_law_44 : decode code 44 = .ok (.tableswitch 2453 0 47 #[208, 288, 356, 436, 504, 560, 616, 629, 642, 698, 754, 810, 866, 941, 954, 1010, 1066, 1122, 1178, 1234, 1297, 1353, 1409, 1465, 1533, 1601, 1669, 1725, 1781, 1794, 1807, 1820, 1833, 1889, 1902, 1915, 1928, 1993, 2059, 2072, 2130, 2174, 2218, 2262, 2318, 2374, 2418, 2429], 208) := by decide +kernel
theorem dL_law_252 : decode code 252 = .ok (.aload_n 1, 1) := by decide +kernel
theorem dL_law_253 : decode code 253 = .ok (.aload_n 0, 1) := by decide +kernel
theorem dL_law_254 : decode code 254 = .ok (.iload 5, 2) := by decide +kernel
theorem dL_law_256 : decode code 256 = .ok (.iconst 1, 1) := by decide +kernel
theorem dL_law_257 : decode code 257 = .ok (.iadd, 1) := by decide +kernel
theorem dL_law_258 : decode code 258 = .ok (.iaload, 1) := by decide +kernel
theorem dL_law_259 : decode code 259 = .ok (.aload_n 0, 1) := by decide +kernel
theorem dL_law_260 : decode code 260 = .ok (.iload 5, 2) := by decide +kernel
theorem dL_law_262 : decode code 262 = .ok (.iconst 2, 1) := by decide +kernel
theorem dL_law_263 : decode code 263 = .ok (.iadd, 1) := by decide +kernel
theorem dL_law_264 : decode code 264 = .ok (.iaload, 1) := by decide +kernel
theorem dL_law_265 : decode code 265 = .ok (.aload_n 0, 1) := by decide +kernel
theorem dL_law_266 : decode code 266 = .ok (.iload 5, 2) := by decide +kernel
theorem dL_law_268 : decode code 268 = .ok (.iconst 3, 1) := by decide +kernel
theorem dL_law_269 : decode code 269 = .ok (.iadd, 1) := by decide +kernel
theorem dL_law_270 : decode code 270 = .ok (.iaload, 1) := by decide +kernel
theorem dL_law_271 : decode code 271 = .ok (.aload_n 3, 1) := by decide +kernel
theorem dL_law_272 : decode code 272 = .ok (.invokestatic 143, 3) := by decide +kernel
theorem dL_law_275 : decode code 275 = .ok (.istore 6, 2) := by decide +kernel
theorem dL_law_277 : decode code 277 = .ok (.aload_n 2, 1) := by decide +kernel
theorem dL_law_278 : decode code 278 = .ok (.aload_n 0, 1) := by decide +kernel
theorem dL_law_279 : decode code 279 = .ok (.iload 5, 2) := by decide +kernel
theorem dL_law_281 : decode code 281 = .ok (.iconst 1, 1) := by decide +kernel
theorem dL_law_282 : decode code 282 = .ok (.iadd, 1) := by decide +kernel
theorem dL_law_283 : decode code 283 = .ok (.iaload, 1) := by decide +kernel
theorem dL_law_284 : decode code 284 = .ok (.aload_n 0, 1) := by decide +kernel
theorem dL_law_285 : decode code 285 = .ok (.iload 5, 2) := by decide +kernel
theorem dL_law_287 : decode code 287 = .ok (.iconst 2, 1) := by decide +kernel
theorem dL_law_288 : decode code 288 = .ok (.iadd, 1) := by decide +kernel
theorem dL_law_289 : decode code 289 = .ok (.iaload, 1) := by decide +kernel
theorem dL_law_290 : decode code 290 = .ok (.aload_n 0, 1) := by decide +kernel
theorem dL_law_291 : decode code 291 = .ok (.iload 5, 2) := by decide +kernel
theorem dL_law_293 : decode code 293 = .ok (.iconst 3, 1) := by decide +kernel
theorem dL_law_294 : decode code 294 = .ok (.iadd, 1) := by decide +kernel
theorem dL_law_295 : decode code 295 = .ok (.iaload, 1) := by decide +kernel
theorem dL_law_296 : decode code 296 = .ok (.invokevirtual 148, 3) := by decide +kernel
theorem dL_law_299 : decode code 299 = .ok (.istore 7, 2) := by decide +kernel
theorem dL_law_301 : decode code 301 = .ok (.aload_n 2, 1) := by decide +kernel
theorem dL_law_302 : decode code 302 = .ok (.invokevirtual 149, 3) := by decide +kernel
theorem dL_law_305 : decode code 305 = .ok (.iload 6, 2) := by decide +kernel
theorem dL_law_307 : decode code 307 = .ok (.if_icmp .eq 5, 3) := by decide +kernel
theorem dL_law_312 : decode code 312 = .ok (.iload 6, 2) := by decide +kernel
theorem dL_law_314 : decode code 314 = .ok (.ifCond .ne 15, 3) := by decide +kernel
theorem dL_law_317 : decode code 317 = .ok (.aload_n 3, 1) := by decide +kernel
theorem dL_law_318 : decode code 318 = .ok (.iconst 0, 1) := by decide +kernel
theorem dL_law_319 : decode code 319 = .ok (.laload, 1) := by decide +kernel
theorem dL_law_320 : decode code 320 = .ok (.iload 7, 2) := by decide +kernel
theorem dL_law_322 : decode code 322 = .ok (.i2l, 1) := by decide +kernel
theorem dL_law_323 : decode code 323 = .ok (.lcmp, 1) := by decide +kernel
theorem dL_law_324 : decode code 324 = .ok (.ifCond .eq 5, 3) := by decide +kernel
theorem dL_law_329 : decode code 329 = .ok (.goto 2168, 3) := by decide +kernel
theorem dL_law_332 : decode code 332 = .ok (.aload_n 1, 1) := by decide +kernel
theorem dL_law_333 : decode code 333 = .ok (.aload_n 0, 1) := by decide +kernel
theorem dL_law_334 : decode code 334 = .ok (.iload 5, 2) := by decide +kernel
theorem dL_law_336 : decode code 336 = .ok (.iconst 1, 1) := by decide +kernel
theorem dL_law_337 : decode code 337 = .ok (.iadd, 1) := by decide +kernel
theorem dL_law_338 : decode code 338 = .ok (.iaload, 1) := by decide +kernel
theorem dL_law_339 : decode code 339 = .ok (.aload_n 0, 1) := by decide +kernel
theorem dL_law_340 : decode code 340 = .ok (.iload 5, 2) := by decide +kernel
theorem dL_law_342 : decode code 342 = .ok (.iconst 2, 1) := by decide +kernel
theorem dL_law_343 : decode code 343 = .ok (.iadd, 1) := by decide +kernel
theorem dL_law_344 : decode code 344 = .ok (.iaload, 1) := by decide +kernel
theorem dL_law_345 : decode code 345 = .ok (.aload_n 3, 1) := by decide +kernel
theorem dL_law_346 : decode code 346 = .ok (.invokestatic 152, 3) := by decide +kernel
theorem dL_law_349 : decode code 349 = .ok (.istore 6, 2) := by decide +kernel
theorem dL_law_351 : decode code 351 = .ok (.aload_n 2, 1) := by decide +kernel
theorem dL_law_352 : decode code 352 = .ok (.aload_n 0, 1) := by decide +kernel
theorem dL_law_353 : decode code 353 = .ok (.iload 5, 2) := by decide +kernel
theorem dL_law_355 : decode code 355 = .ok (.iconst 1, 1) := by decide +kernel
theorem dL_law_356 : decode code 356 = .ok (.iadd, 1) := by decide +kernel
theorem dL_law_357 : decode code 357 = .ok (.iaload, 1) := by decide +kernel
theorem dL_law_358 : decode code 358 = .ok (.aload_n 0, 1) := by decide +kernel
theorem dL_law_359 : decode code 359 = .ok (.iload 5, 2) := by decide +kernel
theorem dL_law_361 : decode code 361 = .ok (.iconst 2, 1) := by decide +kernel
theorem dL_law_362 : decode code 362 = .ok (.iadd, 1) := by decide +kernel
theorem dL_law_363 : decode code 363 = .ok (.iaload, 1) := by decide +kernel
theorem dL_law_364 : decode code 364 = .ok (.invokevirtual 155, 3) := by decide +kernel
theorem dL_law_367 : decode code 367 = .ok (.istore 7, 2) := by decide +kernel
theorem dL_law_369 : decode code 369 = .ok (.aload_n 2, 1) := by decide +kernel
theorem dL_law_370 : decode code 370 = .ok (.invokevirtual 149, 3) := by decide +kernel
theorem dL_law_373 : decode code 373 = .ok (.iload 6, 2) := by decide +kernel
theorem dL_law_375 : decode code 375 = .ok (.if_icmp .eq 5, 3) := by decide +kernel
theorem dL_law_380 : decode code 380 = .ok (.iload 6, 2) := by decide +kernel
theorem dL_law_382 : decode code 382 = .ok (.ifCond .ne 15, 3) := by decide +kernel
theorem dL_law_385 : decode code 385 = .ok (.aload_n 3, 1) := by decide +kernel
theorem dL_law_386 : decode code 386 = .ok (.iconst 0, 1) := by decide +kernel
theorem dL_law_387 : decode code 387 = .ok (.laload, 1) := by decide +kernel
theorem dL_law_388 : decode code 388 = .ok (.iload 7, 2) := by decide +kernel
theorem dL_law_390 : decode code 390 = .ok (.i2l, 1) := by decide +kernel
theorem dL_law_391 : decode code 391 = .ok (.lcmp, 1) := by decide +kernel
theorem dL_law_392 : decode code 392 = .ok (.ifCond .eq 5, 3) := by decide +kernel
theorem dL_law_397 : decode code 397 = .ok (.goto 2100, 3) := by decide +kernel
theorem dL_law_400 : decode code 400 = .ok (.aload_n 1, 1) := by decide +kernel
theorem dL_law_401 : decode code 401 = .ok (.aload_n 0, 1) := by decide +kernel
theorem dL_law_402 : decode code 402 = .ok (.iload 5, 2) := by decide +kernel
theorem dL_law_404 : decode code 404 = .ok (.iconst 1, 1) := by decide +kernel
theorem dL_law_405 : decode code 405 = .ok (.iadd, 1) := by decide +kernel
theorem dL_law_406 : decode code 406 = .ok (.iaload, 1) := by decide +kernel
theorem dL_law_407 : decode code 407 = .ok (.aload_n 0, 1) := by decide +kernel
theorem dL_law_408 : decode code 408 = .ok (.iload 5, 2) := by decide +kernel
theorem dL_law_410 : decode code 410 = .ok (.iconst 2, 1) := by decide +kernel
theorem dL_law_411 : decode code 411 = .ok (.iadd, 1) := by decide +kernel
theorem dL_law_412 : decode code 412 = .ok (.iaload, 1) := by decide +kernel
theorem dL_law_413 : decode code 413 = .ok (.aload_n 0, 1) := by decide +kernel
theorem dL_law_414 : decode code 414 = .ok (.iload 5, 2) := by decide +kernel
theorem dL_law_416 : decode code 416 = .ok (.iconst 3, 1) := by decide +kernel
theorem dL_law_417 : decode code 417 = .ok (.iadd, 1) := by decide +kernel
theorem dL_law_418 : decode code 418 = .ok (.iaload, 1) := by decide +kernel
theorem dL_law_419 : decode code 419 = .ok (.aload_n 3, 1) := by decide +kernel
theorem dL_law_420 : decode code 420 = .ok (.invokestatic 156, 3) := by decide +kernel
theorem dL_law_423 : decode code 423 = .ok (.istore 6, 2) := by decide +kernel
theorem dL_law_425 : decode code 425 = .ok (.aload_n 2, 1) := by decide +kernel
theorem dL_law_426 : decode code 426 = .ok (.aload_n 0, 1) := by decide +kernel
theorem dL_law_427 : decode code 427 = .ok (.iload 5, 2) := by decide +kernel
theorem dL_law_429 : decode code 429 = .ok (.iconst 1, 1) := by decide +kernel
theorem dL_law_430 : decode code 430 = .ok (.iadd, 1) := by decide +kernel
theorem dL_law_431 : decode code 431 = .ok (.iaload, 1) := by decide +kernel
theorem dL_law_432 : decode code 432 = .ok (.aload_n 0, 1) := by decide +kernel
theorem dL_law_433 : decode code 433 = .ok (.iload 5, 2) := by decide +kernel
theorem dL_law_435 : decode code 435 = .ok (.iconst 2, 1) := by decide +kernel
theorem dL_law_436 : decode code 436 = .ok (.iadd, 1) := by decide +kernel
theorem dL_law_437 : decode code 437 = .ok (.iaload, 1) := by decide +kernel
theorem dL_law_438 : decode code 438 = .ok (.aload_n 0, 1) := by decide +kernel
theorem dL_law_439 : decode code 439 = .ok (.iload 5, 2) := by decide +kernel
theorem dL_law_441 : decode code 441 = .ok (.iconst 3, 1) := by decide +kernel
theorem dL_law_442 : decode code 442 = .ok (.iadd, 1) := by decide +kernel
theorem dL_law_443 : decode code 443 = .ok (.iaload, 1) := by decide +kernel
theorem dL_law_444 : decode code 444 = .ok (.invokevirtual 158, 3) := by decide +kernel
theorem dL_law_447 : decode code 447 = .ok (.istore 7, 2) := by decide +kernel
theorem dL_law_449 : decode code 449 = .ok (.aload_n 2, 1) := by decide +kernel
theorem dL_law_450 : decode code 450 = .ok (.invokevirtual 149, 3) := by decide +kernel
theorem dL_law_453 : decode code 453 = .ok (.iload 6, 2) := by decide +kernel
theorem dL_law_455 : decode code 455 = .ok (.if_icmp .eq 5, 3) := by decide +kernel
theorem dL_law_460 : decode code 460 = .ok (.iload 6, 2) := by decide +kernel
theorem dL_law_462 : decode code 462 = .ok (.ifCond .ne 15, 3) := by decide +kernel
theorem dL_law_477 : decode code 477 = .ok (.goto 2020, 3) := by decide +kernel
theorem dL_law_480 : decode code 480 = .ok (.aload_n 1, 1) := by decide +kernel
theorem dL_law_481 : decode code 481 = .ok (.aload_n 0, 1) := by decide +kernel
theorem dL_law_482 : decode code 482 = .ok (.iload 5, 2) := by decide +kernel
theorem dL_law_484 : decode code 484 = .ok (.iconst 1, 1) := by decide +kernel
theorem dL_law_485 : decode code 485 = .ok (.iadd, 1) := by decide +kernel
theorem dL_law_486 : decode code 486 = .ok (.iaload, 1) := by decide +kernel
theorem dL_law_487 : decode code 487 = .ok (.aload_n 0, 1) := by decide +kernel
theorem dL_law_488 : decode code 488 = .ok (.iload 5, 2) := by decide +kernel
theorem dL_law_490 : decode code 490 = .ok (.iconst 2, 1) := by decide +kernel
theorem dL_law_491 : decode code 491 = .ok (.iadd, 1) := by decide +kernel
theorem dL_law_492 : decode code 492 = .ok (.iaload, 1) := by decide +kernel
theorem dL_law_493 : decode code 493 = .ok (.aload_n 3, 1) := by decide +kernel
theorem dL_law_494 : decode code 494 = .ok (.invokestatic 159, 3) := by decide +kernel
theorem dL_law_497 : decode code 497 = .ok (.istore 6, 2) := by decide +kernel
theorem dL_law_499 : decode code 499 = .ok (.aload_n 2, 1) := by decide +kernel
theorem dL_law_500 : decode code 500 = .ok (.aload_n 0, 1) := by decide +kernel
theorem dL_law_501 : decode code 501 = .ok (.iload 5, 2) := by decide +kernel
theorem dL_law_503 : decode code 503 = .ok (.iconst 1, 1) := by decide +kernel
theorem dL_law_504 : decode code 504 = .ok (.iadd, 1) := by decide +kernel
theorem dL_law_505 : decode code 505 = .ok (.iaload, 1) := by decide +kernel
theorem dL_law_506 : decode code 506 = .ok (.aload_n 0, 1) := by decide +kernel
theorem dL_law_507 : decode code 507 = .ok (.iload 5, 2) := by decide +kernel
theorem dL_law_509 : decode code 509 = .ok (.iconst 2, 1) := by decide +kernel
theorem dL_law_510 : decode code 510 = .ok (.iadd, 1) := by decide +kernel
theorem dL_law_511 : decode code 511 = .ok (.iaload, 1) := by decide +kernel
theorem dL_law_512 : decode code 512 = .ok (.invokevirtual 161, 3) := by decide +kernel
theorem dL_law_515 : decode code 515 = .ok (.istore 7, 2) := by decide +kernel
theorem dL_law_517 : decode code 517 = .ok (.aload_n 2, 1) := by decide +kernel
theorem dL_law_518 : decode code 518 = .ok (.invokevirtual 149, 3) := by decide +kernel
theorem dL_law_521 : decode code 521 = .ok (.iload 6, 2) := by decide +kernel
theorem dL_law_523 : decode code 523 = .ok (.if_icmp .eq 5, 3) := by decide +kernel
theorem dL_law_528 : decode code 528 = .ok (.iload 6, 2) := by decide +kernel
theorem dL_law_530 : decode code 530 = .ok (.ifCond .ne 15, 3) := by decide +kernel
theorem dL_law_545 : decode code 545 = .ok (.goto 1952, 3) := by decide +kernel
theorem dL_law_548 : decode code 548 = .ok (.aload_n 1, 1) := by decide +kernel
theorem dL_law_549 : decode code 549 = .ok (.aload_n 0, 1) := by decide +kernel
theorem dL_law_550 : decode code 550 = .ok (.iload 5, 2) := by decide +kernel
theorem dL_law_552 : decode code 552 = .ok (.iconst 1, 1) := by decide +kernel
theorem dL_law_553 : decode code 553 = .ok (.iadd, 1) := by decide +kernel
theorem dL_law_554 : decode code 554 = .ok (.iaload, 1) := by decide +kernel
theorem dL_law_555 : decode code 555 = .ok (.aload_n 3, 1) := by decide +kernel
theorem dL_law_556 : decode code 556 = .ok (.invokestatic 162, 3) := by decide +kernel
theorem dL_law_559 : decode code 559 = .ok (.istore 6, 2) := by decide +kernel
theorem dL_law_561 : decode code 561 = .ok (.aload_n 2, 1) := by decide +kernel
theorem dL_law_562 : decode code 562 = .ok (.aload_n 0, 1) := by decide +kernel
theorem dL_law_563 : decode code 563 = .ok (.iload 5, 2) := by decide +kernel
theorem dL_law_565 : decode code 565 = .ok (.iconst 1, 1) := by decide +kernel
theorem dL_law_566 : decode code 566 = .ok (.iadd, 1) := by decide +kernel
theorem dL_law_567 : decode code 567 = .ok (.iaload, 1) := by decide +kernel
theorem dL_law_568 : decode code 568 = .ok (.invokevirtual 165, 3) := by decide +kernel
theorem dL_law_571 : decode code 571 = .ok (.istore 7, 2) := by decide +kernel
theorem dL_law_573 : decode code 573 = .ok (.aload_n 2, 1) := by decide +kernel
theorem dL_law_574 : decode code 574 = .ok (.invokevirtual 149, 3) := by decide +kernel
theorem dL_law_577 : decode code 577 = .ok (.iload 6, 2) := by decide +kernel
theorem dL_law_579 : decode code 579 = .ok (.if_icmp .eq 5, 3) := by decide +kernel
theorem dL_law_584 : decode code 584 = .ok (.iload 6, 2) := by decide +kernel
theorem dL_law_586 : decode code 586 = .ok (.ifCond .ne 15, 3) := by decide +kernel
theorem dL_law_601 : decode code 601 = .ok (.goto 1896, 3) := by decide +kernel
theorem dL_law_604 : decode code 604 = .ok (.aload_n 1, 1) := by decide +kernel
theorem dL_law_605 : decode code 605 = .ok (.aload_n 0, 1) := by decide +kernel
theorem dL_law_606 : decode code 606 = .ok (.iload 5, 2) := by decide +kernel
theorem dL_law_608 : decode code 608 = .ok (.iconst 1, 1) := by decide +kernel
theorem dL_law_609 : decode code 609 = .ok (.iadd, 1) := by decide +kernel
theorem dL_law_610 : decode code 610 = .ok (.iaload, 1) := by decide +kernel
theorem dL_law_611 : decode code 611 = .ok (.aload_n 3, 1) := by decide +kernel
theorem dL_law_612 : decode code 612 = .ok (.invokestatic 166, 3) := by decide +kernel
theorem dL_law_615 : decode code 615 = .ok (.istore 6, 2) := by decide +kernel
theorem dL_law_617 : decode code 617 = .ok (.aload_n 2, 1) := by decide +kernel
theorem dL_law_618 : decode code 618 = .ok (.aload_n 0, 1) := by decide +kernel
theorem dL_law_619 : decode code 619 = .ok (.iload 5, 2) := by decide +kernel
theorem dL_law_621 : decode code 621 = .ok (.iconst 1, 1) := by decide +kernel
theorem dL_law_622 : decode code 622 = .ok (.iadd, 1) := by decide +kernel
theorem dL_law_623 : decode code 623 = .ok (.iaload, 1) := by decide +kernel
theorem dL_law_624 : decode code 624 = .ok (.invokevirtual 168, 3) := by decide +kernel
theorem dL_law_627 : decode code 627 = .ok (.istore 7, 2) := by decide +kernel
theorem dL_law_629 : decode code 629 = .ok (.aload_n 2, 1) := by decide +kernel
theorem dL_law_630 : decode code 630 = .ok (.invokevirtual 149, 3) := by decide +kernel
theorem dL_law_633 : decode code 633 = .ok (.iload 6, 2) := by decide +kernel
theorem dL_law_635 : decode code 635 = .ok (.if_icmp .eq 5, 3) := by decide +kernel
theorem dL_law_640 : decode code 640 = .ok (.iload 6, 2) := by decide +kernel
theorem dL_law_642 : decode code 642 = .ok (.ifCond .ne 15, 3) := by decide +kernel
theorem dL_law_657 : decode code 657 = .ok (.goto 1840, 3) := by decide +kernel
theorem dL_law_660 : decode code 660 = .ok (.aload_n 1, 1) := by decide +kernel
theorem dL_law_661 : decode code 661 = .ok (.invokevirtual 169, 3) := by decide +kernel
theorem dL_law_664 : decode code 664 = .ok (.aload_n 2, 1) := by decide +kernel
theorem dL_law_665 : decode code 665 = .ok (.invokevirtual 172, 3) := by decide +kernel
theorem dL_law_668 : decode code 668 = .ok (.if_icmp .eq 1829, 3) := by decide +kernel
theorem dL_law_673 : decode code 673 = .ok (.aload_n 1, 1) := by decide +kernel
theorem dL_law_674 : decode code 674 = .ok (.invokevirtual 173, 3) := by decide +kernel
theorem dL_law_677 : decode code 677 = .ok (.aload_n 2, 1) := by decide +kernel
theorem dL_law_678 : decode code 678 = .ok (.invokevirtual 176, 3) := by decide +kernel
theorem dL_law_681 : decode code 681 = .ok (.if_icmp .eq 1816, 3) := by decide +kernel
theorem dL_law_686 : decode code 686 = .ok (.aload_n 1, 1) := by decide +kernel
theorem dL_law_687 : decode code 687 = .ok (.aload_n 0, 1) := by decide +kernel
theorem dL_law_688 : decode code 688 = .ok (.iload 5, 2) := by decide +kernel
theorem dL_law_690 : decode code 690 = .ok (.iconst 1, 1) := by decide +kernel
theorem dL_law_691 : decode code 691 = .ok (.iadd, 1) := by decide +kernel
theorem dL_law_692 : decode code 692 = .ok (.iaload, 1) := by decide +kernel
theorem dL_law_693 : decode code 693 = .ok (.aload_n 3, 1) := by decide +kernel
theorem dL_law_694 : decode code 694 = .ok (.invokestatic 177, 3) := by decide +kernel
theorem dL_law_697 : decode code 697 = .ok (.istore 6, 2) := by decide +kernel
theorem dL_law_699 : decode code 699 = .ok (.aload_n 2, 1) := by decide +kernel
theorem dL_law_700 : decode code 700 = .ok (.aload_n 0, 1) := by decide +kernel
theorem dL_law_701 : decode code 701 = .ok (.iload 5, 2) := by decide +kernel
theorem dL_law_703 : decode code 703 = .ok (.iconst 1, 1) := by decide +kernel
theorem dL_law_704 : decode code 704 = .ok (.iadd, 1) := by decide +kernel
theorem dL_law_705 : decode code 705 = .ok (.iaload, 1) := by decide +kernel
theorem dL_law_706 : decode code 706 = .ok (.invokevirtual 179, 3) := by decide +kernel
theorem dL_law_709 : decode code 709 = .ok (.istore 7, 2) := by decide +kernel
theorem dL_law_711 : decode code 711 = .ok (.aload_n 2, 1) := by decide +kernel
theorem dL_law_712 : decode code 712 = .ok (.invokevirtual 149, 3) := by decide +kernel
theorem dL_law_715 : decode code 715 = .ok (.iload 6, 2) := by decide +kernel
theorem dL_law_717 : decode code 717 = .ok (.if_icmp .eq 5, 3) := by decide +kernel
theorem dL_law_722 : decode code 722 = .ok (.iload 6, 2) := by decide +kernel
theorem dL_law_724 : decode code 724 = .ok (.ifCond .ne 15, 3) := by decide +kernel
theorem dL_law_739 : decode code 739 = .ok (.goto 1758, 3) := by decide +kernel
theorem dL_law_742 : decode code 742 = .ok (.aload_n 1, 1) := by decide +kernel
theorem dL_law_743 : decode code 743 = .ok (.aload_n 0, 1) := by decide +kernel
theorem dL_law_744 : decode code 744 = .ok (.iload 5, 2) := by decide +kernel
theorem dL_law_746 : decode code 746 = .ok (.iconst 1, 1) := by decide +kernel
theorem dL_law_747 : decode code 747 = .ok (.iadd, 1) := by decide +kernel
theorem dL_law_748 : decode code 748 = .ok (.iaload, 1) := by decide +kernel
theorem dL_law_749 : decode code 749 = .ok (.aload_n 3, 1) := by decide +kernel
theorem dL_law_750 : decode code 750 = .ok (.invokestatic 180, 3) := by decide +kernel
theorem dL_law_753 : decode code 753 = .ok (.istore 6, 2) := by decide +kernel
theorem dL_law_755 : decode code 755 = .ok (.aload_n 2, 1) := by decide +kernel
theorem dL_law_756 : decode code 756 = .ok (.aload_n 0, 1) := by decide +kernel
theorem dL_law_757 : decode code 757 = .ok (.iload 5, 2) := by decide +kernel
theorem dL_law_759 : decode code 759 = .ok (.iconst 1, 1) := by decide +kernel
theorem dL_law_760 : decode code 760 = .ok (.iadd, 1) := by decide +kernel
theorem dL_law_761 : decode code 761 = .ok (.iaload, 1) := by decide +kernel
theorem dL_law_762 : decode code 762 = .ok (.invokevirtual 182, 3) := by decide +kernel
theorem dL_law_765 : decode code 765 = .ok (.istore 7, 2) := by decide +kernel
theorem dL_law_767 : decode code 767 = .ok (.aload_n 2, 1) := by decide +kernel
theorem dL_law_768 : decode code 768 = .ok (.invokevirtual 149, 3) := by decide +kernel
theorem dL_law_771 : decode code 771 = .ok (.iload 6, 2) := by decide +kernel
theorem dL_law_773 : decode code 773 = .ok (.if_icmp .eq 5, 3) := by decide +kernel
theorem dL_law_778 : decode code 778 = .ok (.iload 6, 2) := by decide +kernel
theorem dL_law_780 : decode code 780 = .ok (.ifCond .ne 15, 3) := by decide +kernel
theorem dL_law_795 : decode code 795 = .ok (.goto 1702, 3) := by decide +kernel
theorem dL_law_798 : decode code 798 = .ok (.aload_n 1, 1) := by decide +kernel
theorem dL_law_799 : decode code 799 = .ok (.aload_n 0, 1) := by decide +kernel
theorem dL_law_800 : decode code 800 = .ok (.iload 5, 2) := by decide +kernel
theorem dL_law_802 : decode code 802 = .ok (.iconst 1, 1) := by decide +kernel
theorem dL_law_803 : decode code 803 = .ok (.iadd, 1) := by decide +kernel
theorem dL_law_804 : decode code 804 = .ok (.iaload, 1) := by decide +kernel
theorem dL_law_805 : decode code 805 = .ok (.aload_n 3, 1) := by decide +kernel
theorem dL_law_806 : decode code 806 = .ok (.invokestatic 183, 3) := by decide +kernel
theorem dL_law_809 : decode code 809 = .ok (.istore 6, 2) := by decide +kernel
theorem dL_law_811 : decode code 811 = .ok (.aload_n 2, 1) := by decide +kernel
theorem dL_law_812 : decode code 812 = .ok (.aload_n 0, 1) := by decide +kernel
theorem dL_law_813 : decode code 813 = .ok (.iload 5, 2) := by decide +kernel
theorem dL_law_815 : decode code 815 = .ok (.iconst 1, 1) := by decide +kernel
theorem dL_law_816 : decode code 816 = .ok (.iadd, 1) := by decide +kernel
theorem dL_law_817 : decode code 817 = .ok (.iaload, 1) := by decide +kernel
theorem dL_law_818 : decode code 818 = .ok (.invokevirtual 185, 3) := by decide +kernel
theorem dL_law_821 : decode code 821 = .ok (.istore 7, 2) := by decide +kernel
theorem dL_law_823 : decode code 823 = .ok (.aload_n 2, 1) := by decide +kernel
theorem dL_law_824 : decode code 824 = .ok (.invokevirtual 149, 3) := by decide +kernel
theorem dL_law_827 : decode code 827 = .ok (.iload 6, 2) := by decide +kernel
theorem dL_law_829 : decode code 829 = .ok (.if_icmp .eq 5, 3) := by decide +kernel
theorem dL_law_834 : decode code 834 = .ok (.iload 6, 2) := by decide +kernel
theorem dL_law_836 : decode code 836 = .ok (.ifCond .ne 15, 3) := by decide +kernel
theorem dL_law_851 : decode code 851 = .ok (.goto 1646, 3) := by decide +kernel
theorem dL_law_854 : decode code 854 = .ok (.aload_n 1, 1) := by decide +kernel
theorem dL_law_855 : decode code 855 = .ok (.aload_n 0, 1) := by decide +kernel
theorem dL_law_856 : decode code 856 = .ok (.iload 5, 2) := by decide +kernel
theorem dL_law_858 : decode code 858 = .ok (.iconst 1, 1) := by decide +kernel
theorem dL_law_859 : decode code 859 = .ok (.iadd, 1) := by decide +kernel
theorem dL_law_860 : decode code 860 = .ok (.iaload, 1) := by decide +kernel
theorem dL_law_861 : decode code 861 = .ok (.aload_n 3, 1) := by decide +kernel
theorem dL_law_862 : decode code 862 = .ok (.invokestatic 186, 3) := by decide +kernel
theorem dL_law_865 : decode code 865 = .ok (.istore 6, 2) := by decide +kernel
theorem dL_law_867 : decode code 867 = .ok (.aload_n 2, 1) := by decide +kernel
theorem dL_law_868 : decode code 868 = .ok (.aload_n 0, 1) := by decide +kernel
theorem dL_law_869 : decode code 869 = .ok (.iload 5, 2) := by decide +kernel
theorem dL_law_871 : decode code 871 = .ok (.iconst 1, 1) := by decide +kernel
theorem dL_law_872 : decode code 872 = .ok (.iadd, 1) := by decide +kernel
theorem dL_law_873 : decode code 873 = .ok (.iaload, 1) := by decide +kernel
theorem dL_law_874 : decode code 874 = .ok (.invokevirtual 188, 3) := by decide +kernel
theorem dL_law_877 : decode code 877 = .ok (.istore 7, 2) := by decide +kernel
theorem dL_law_879 : decode code 879 = .ok (.aload_n 2, 1) := by decide +kernel
theorem dL_law_880 : decode code 880 = .ok (.invokevirtual 149, 3) := by decide +kernel
theorem dL_law_883 : decode code 883 = .ok (.iload 6, 2) := by decide +kernel
theorem dL_law_885 : decode code 885 = .ok (.if_icmp .eq 5, 3) := by decide +kernel
theorem dL_law_890 : decode code 890 = .ok (.iload 6, 2) := by decide +kernel
theorem dL_law_892 : decode code 892 = .ok (.ifCond .ne 15, 3) := by decide +kernel
theorem dL_law_907 : decode code 907 = .ok (.goto 1590, 3) := by decide +kernel
theorem dL_law_910 : decode code 910 = .ok (.aload_n 1, 1) := by decide +kernel
theorem dL_law_911 : decode code 911 = .ok (.aload_n 0, 1) := by decide +kernel
theorem dL_law_912 : decode code 912 = .ok (.iload 5, 2) := by decide +kernel
theorem dL_law_914 : decode code 914 = .ok (.iconst 1, 1) := by decide +kernel
theorem dL_law_915 : decode code 915 = .ok (.iadd, 1) := by decide +kernel
theorem dL_law_916 : decode code 916 = .ok (.iaload, 1) := by decide +kernel
theorem dL_law_917 : decode code 917 = .ok (.aload_n 0, 1) := by decide +kernel
theorem dL_law_918 : decode code 918 = .ok (.iload 5, 2) := by decide +kernel
theorem dL_law_920 : decode code 920 = .ok (.iconst 2, 1) := by decide +kernel
theorem dL_law_921 : decode code 921 = .ok (.iadd, 1) := by decide +kernel
theorem dL_law_922 : decode code 922 = .ok (.iaload, 1) := by decide +kernel
theorem dL_law_923 : decode code 923 = .ok (.aload_n 3, 1) := by decide +kernel
theorem dL_law_924 : decode code 924 = .ok (.invokestatic 189, 3) := by decide +kernel
theorem dL_law_927 : decode code 927 = .ok (.istore 6, 2) := by decide +kernel
theorem dL_law_929 : decode code 929 = .ok (.aload_n 2, 1) := by decide +kernel
theorem dL_law_930 : decode code 930 = .ok (.aload_n 0, 1) := by decide +kernel
theorem dL_law_931 : decode code 931 = .ok (.iload 5, 2) := by decide +kernel
theorem dL_law_933 : decode code 933 = .ok (.iconst 1, 1) := by decide +kernel
theorem dL_law_934 : decode code 934 = .ok (.iadd, 1) := by decide +kernel
theorem dL_law_935 : decode code 935 = .ok (.iaload, 1) := by decide +kernel
theorem dL_law_936 : decode code 936 = .ok (.aload_n 0, 1) := by decide +kernel
theorem dL_law_937 : decode code 937 = .ok (.iload 5, 2) := by decide +kernel
theorem dL_law_939 : decode code 939 = .ok (.iconst 2, 1) := by decide +kernel
theorem dL_law_940 : decode code 940 = .ok (.iadd, 1) := by decide +kernel
theorem dL_law_941 : decode code 941 = .ok (.iaload, 1) := by decide +kernel
theorem dL_law_942 : decode code 942 = .ok (.invokevirtual 191, 3) := by decide +kernel
theorem dL_law_945 : decode code 945 = .ok (.istore 7, 2) := by decide +kernel
theorem dL_law_947 : decode code 947 = .ok (.aload_n 2, 1) := by decide +kernel
theorem dL_law_948 : decode code 948 = .ok (.invokevirtual 149, 3) := by decide +kernel
theorem dL_law_951 : decode code 951 = .ok (.iload 6, 2) := by decide +kernel
theorem dL_law_953 : decode code 953 = .ok (.if_icmp .eq 5, 3) := by decide +kernel
theorem dL_law_958 : decode code 958 = .ok (.iload 6, 2) := by decide +kernel
theorem dL_law_960 : decode code 960 = .ok (.ifCond .ne 22, 3) := by decide +kernel
theorem dL_law_982 : decode code 982 = .ok (.goto 1515, 3) := by decide +kernel
theorem dL_law_985 : decode code 985 = .ok (.aload_n 1, 1) := by decide +kernel
theorem dL_law_986 : decode code 986 = .ok (.invokevirtual 192, 3) := by decide +kernel
theorem dL_law_989 : decode code 989 = .ok (.aload_n 2, 1) := by decide +kernel
theorem dL_law_990 : decode code 990 = .ok (.invokevirtual 195, 3) := by decide +kernel
theorem dL_law_993 : decode code 993 = .ok (.if_icmp .eq 1504, 3) := by decide +kernel
theorem dL_law_998 : decode code 998 = .ok (.aload_n 1, 1) := by decide +kernel
theorem dL_law_999 : decode code 999 = .ok (.aload_n 0, 1) := by decide +kernel
theorem dL_law_1000 : decode code 1000 = .ok (.iload 5, 2) := by decide +kernel
theorem dL_law_1002 : decode code 1002 = .ok (.iconst 1, 1) := by decide +kernel
theorem dL_law_1003 : decode code 1003 = .ok (.iadd, 1) := by decide +kernel
theorem dL_law_1004 : decode code 1004 = .ok (.iaload, 1) := by decide +kernel
theorem dL_law_1005 : decode code 1005 = .ok (.aload_n 3, 1) := by decide +kernel
theorem dL_law_1006 : decode code 1006 = .ok (.invokestatic 196, 3) := by decide +kernel
theorem dL_law_1009 : decode code 1009 = .ok (.istore 6, 2) := by decide +kernel
theorem dL_law_1011 : decode code 1011 = .ok (.aload_n 2, 1) := by decide +kernel
theorem dL_law_1012 : decode code 1012 = .ok (.aload_n 0, 1) := by decide +kernel
theorem dL_law_1013 : decode code 1013 = .ok (.iload 5, 2) := by decide +kernel
theorem dL_law_1015 : decode code 1015 = .ok (.iconst 1, 1) := by decide +kernel
theorem dL_law_1016 : decode code 1016 = .ok (.iadd, 1) := by decide +kernel
theorem dL_law_1017 : decode code 1017 = .ok (.iaload, 1) := by decide +kernel
theorem dL_law_1018 : decode code 1018 = .ok (.invokevirtual 198, 3) := by decide +kernel
theorem dL_law_1021 : decode code 1021 = .ok (.istore 7, 2) := by decide +kernel
theorem dL_law_1023 : decode code 1023 = .ok (.aload_n 2, 1) := by decide +kernel
theorem dL_law_1024 : decode code 1024 = .ok (.invokevirtual 149, 3) := by decide +kernel
theorem dL_law_1027 : decode code 1027 = .ok (.iload 6, 2) := by decide +kernel
theorem dL_law_1029 : decode code 1029 = .ok (.if_icmp .eq 5, 3) := by decide +kernel
theorem dL_law_1034 : decode code 1034 = .ok (.iload 6, 2) := by decide +kernel
theorem dL_law_1036 : decode code 1036 = .ok (.ifCond .ne 15, 3) := by decide +kernel
theorem dL_law_1051 : decode code 1051 = .ok (.goto 1446, 3) := by decide +kernel
theorem dL_law_1054 : decode code 1054 = .ok (.aload_n 1, 1) := by decide +kernel
theorem dL_law_1055 : decode code 1055 = .ok (.aload_n 0, 1) := by decide +kernel
theorem dL_law_1056 : decode code 1056 = .ok (.iload 5, 2) := by decide +kernel
theorem dL_law_1058 : decode code 1058 = .ok (.iconst 1, 1) := by decide +kernel
theorem dL_law_1059 : decode code 1059 = .ok (.iadd, 1) := by decide +kernel
theorem dL_law_1060 : decode code 1060 = .ok (.iaload, 1) := by decide +kernel
theorem dL_law_1061 : decode code 1061 = .ok (.aload_n 3, 1) := by decide +kernel
theorem dL_law_1062 : decode code 1062 = .ok (.invokestatic 199, 3) := by decide +kernel
theorem dL_law_1065 : decode code 1065 = .ok (.istore 6, 2) := by decide +kernel
theorem dL_law_1067 : decode code 1067 = .ok (.aload_n 2, 1) := by decide +kernel
theorem dL_law_1068 : decode code 1068 = .ok (.aload_n 0, 1) := by decide +kernel
theorem dL_law_1069 : decode code 1069 = .ok (.iload 5, 2) := by decide +kernel
theorem dL_law_1071 : decode code 1071 = .ok (.iconst 1, 1) := by decide +kernel
theorem dL_law_1072 : decode code 1072 = .ok (.iadd, 1) := by decide +kernel
theorem dL_law_1073 : decode code 1073 = .ok (.iaload, 1) := by decide +kernel
theorem dL_law_1074 : decode code 1074 = .ok (.invokevirtual 201, 3) := by decide +kernel
theorem dL_law_1077 : decode code 1077 = .ok (.istore 7, 2) := by decide +kernel
theorem dL_law_1079 : decode code 1079 = .ok (.aload_n 2, 1) := by decide +kernel
theorem dL_law_1080 : decode code 1080 = .ok (.invokevirtual 149, 3) := by decide +kernel
theorem dL_law_1083 : decode code 1083 = .ok (.iload 6, 2) := by decide +kernel
theorem dL_law_1085 : decode code 1085 = .ok (.if_icmp .eq 5, 3) := by decide +kernel
theorem dL_law_1090 : decode code 1090 = .ok (.iload 6, 2) := by decide +kernel
theorem dL_law_1092 : decode code 1092 = .ok (.ifCond .ne 15, 3) := by decide +kernel
theorem dL_law_1107 : decode code 1107 = .ok (.goto 1390, 3) := by decide +kernel
theorem dL_law_1110 : decode code 1110 = .ok (.aload_n 1, 1) := by decide +kernel
theorem dL_law_1111 : decode code 1111 = .ok (.aload_n 0, 1) := by decide +kernel
theorem dL_law_1112 : decode code 1112 = .ok (.iload 5, 2) := by decide +kernel
theorem dL_law_1114 : decode code 1114 = .ok (.iconst 1, 1) := by decide +kernel
theorem dL_law_1115 : decode code 1115 = .ok (.iadd, 1) := by decide +kernel
theorem dL_law_1116 : decode code 1116 = .ok (.iaload, 1) := by decide +kernel
theorem dL_law_1117 : decode code 1117 = .ok (.aload_n 3, 1) := by decide +kernel
theorem dL_law_1118 : decode code 1118 = .ok (.invokestatic 202, 3) := by decide +kernel
theorem dL_law_1121 : decode code 1121 = .ok (.istore 6, 2) := by decide +kernel
theorem dL_law_1123 : decode code 1123 = .ok (.aload_n 2, 1) := by decide +kernel
theorem dL_law_1124 : decode code 1124 = .ok (.aload_n 0, 1) := by decide +kernel
theorem dL_law_1125 : decode code 1125 = .ok (.iload 5, 2) := by decide +kernel
theorem dL_law_1127 : decode code 1127 = .ok (.iconst 1, 1) := by decide +kernel
theorem dL_law_1128 : decode code 1128 = .ok (.iadd, 1) := by decide +kernel
theorem dL_law_1129 : decode code 1129 = .ok (.iaload, 1) := by decide +kernel
theorem dL_law_1130 : decode code 1130 = .ok (.invokevirtual 204, 3) := by decide +kernel
theorem dL_law_1133 : decode code 1133 = .ok (.istore 7, 2) := by decide +kernel
theorem dL_law_1135 : decode code 1135 = .ok (.aload_n 2, 1) := by decide +kernel
theorem dL_law_1136 : decode code 1136 = .ok (.invokevirtual 149, 3) := by decide +kernel
theorem dL_law_1139 : decode code 1139 = .ok (.iload 6, 2) := by decide +kernel
theorem dL_law_1141 : decode code 1141 = .ok (.if_icmp .eq 5, 3) := by decide +kernel
theorem dL_law_1146 : decode code 1146 = .ok (.iload 6, 2) := by decide +kernel
theorem dL_law_1148 : decode code 1148 = .ok (.ifCond .ne 15, 3) := by decide +kernel
theorem dL_law_1163 : decode code 1163 = .ok (.goto 1334, 3) := by decide +kernel
theorem dL_law_1166 : decode code 1166 = .ok (.aload_n 1, 1) := by decide +kernel
theorem dL_law_1167 : decode code 1167 = .ok (.aload_n 0, 1) := by decide +kernel
theorem dL_law_1168 : decode code 1168 = .ok (.iload 5, 2) := by decide +kernel
theorem dL_law_1170 : decode code 1170 = .ok (.iconst 1, 1) := by decide +kernel
theorem dL_law_1171 : decode code 1171 = .ok (.iadd, 1) := by decide +kernel
theorem dL_law_1172 : decode code 1172 = .ok (.iaload, 1) := by decide +kernel
theorem dL_law_1173 : decode code 1173 = .ok (.aload_n 3, 1) := by decide +kernel
theorem dL_law_1174 : decode code 1174 = .ok (.invokestatic 205, 3) := by decide +kernel
theorem dL_law_1177 : decode code 1177 = .ok (.istore 6, 2) := by decide +kernel
theorem dL_law_1179 : decode code 1179 = .ok (.aload_n 2, 1) := by decide +kernel
theorem dL_law_1180 : decode code 1180 = .ok (.aload_n 0, 1) := by decide +kernel
theorem dL_law_1181 : decode code 1181 = .ok (.iload 5, 2) := by decide +kernel
theorem dL_law_1183 : decode code 1183 = .ok (.iconst 1, 1) := by decide +kernel
theorem dL_law_1184 : decode code 1184 = .ok (.iadd, 1) := by decide +kernel
theorem dL_law_1185 : decode code 1185 = .ok (.iaload, 1) := by decide +kernel
theorem dL_law_1186 : decode code 1186 = .ok (.invokevirtual 207, 3) := by decide +kernel
theorem dL_law_1189 : decode code 1189 = .ok (.istore 7, 2) := by decide +kernel
theorem dL_law_1191 : decode code 1191 = .ok (.aload_n 2, 1) := by decide +kernel
theorem dL_law_1192 : decode code 1192 = .ok (.invokevirtual 149, 3) := by decide +kernel
theorem dL_law_1195 : decode code 1195 = .ok (.iload 6, 2) := by decide +kernel
theorem dL_law_1197 : decode code 1197 = .ok (.if_icmp .eq 5, 3) := by decide +kernel
theorem dL_law_1202 : decode code 1202 = .ok (.iload 6, 2) := by decide +kernel
theorem dL_law_1204 : decode code 1204 = .ok (.ifCond .ne 15, 3) := by decide +kernel
theorem dL_law_1219 : decode code 1219 = .ok (.goto 1278, 3) := by decide +kernel
theorem dL_law_1222 : decode code 1222 = .ok (.aload_n 1, 1) := by decide +kernel
theorem dL_law_1223 : decode code 1223 = .ok (.aload_n 0, 1) := by decide +kernel
theorem dL_law_1224 : decode code 1224 = .ok (.iload 5, 2) := by decide +kernel
theorem dL_law_1226 : decode code 1226 = .ok (.iconst 1, 1) := by decide +kernel
theorem dL_law_1227 : decode code 1227 = .ok (.iadd, 1) := by decide +kernel
theorem dL_law_1228 : decode code 1228 = .ok (.iaload, 1) := by decide +kernel
theorem dL_law_1229 : decode code 1229 = .ok (.aload_n 3, 1) := by decide +kernel
theorem dL_law_1230 : decode code 1230 = .ok (.invokestatic 208, 3) := by decide +kernel
theorem dL_law_1233 : decode code 1233 = .ok (.istore 6, 2) := by decide +kernel
theorem dL_law_1235 : decode code 1235 = .ok (.aload_n 2, 1) := by decide +kernel
theorem dL_law_1236 : decode code 1236 = .ok (.aload_n 0, 1) := by decide +kernel
theorem dL_law_1237 : decode code 1237 = .ok (.iload 5, 2) := by decide +kernel
theorem dL_law_1239 : decode code 1239 = .ok (.iconst 1, 1) := by decide +kernel
theorem dL_law_1240 : decode code 1240 = .ok (.iadd, 1) := by decide +kernel
theorem dL_law_1241 : decode code 1241 = .ok (.iaload, 1) := by decide +kernel
theorem dL_law_1242 : decode code 1242 = .ok (.invokevirtual 210, 3) := by decide +kernel
theorem dL_law_1245 : decode code 1245 = .ok (.istore 7, 2) := by decide +kernel
theorem dL_law_1247 : decode code 1247 = .ok (.aload_n 2, 1) := by decide +kernel
theorem dL_law_1248 : decode code 1248 = .ok (.invokevirtual 149, 3) := by decide +kernel
theorem dL_law_1251 : decode code 1251 = .ok (.iload 6, 2) := by decide +kernel
theorem dL_law_1253 : decode code 1253 = .ok (.if_icmp .eq 5, 3) := by decide +kernel
theorem dL_law_1258 : decode code 1258 = .ok (.iload 6, 2) := by decide +kernel
theorem dL_law_1260 : decode code 1260 = .ok (.ifCond .ne 15, 3) := by decide +kernel
theorem dL_law_1275 : decode code 1275 = .ok (.goto 1222, 3) := by decide +kernel
theorem dL_law_1278 : decode code 1278 = .ok (.aload_n 1, 1) := by decide +kernel
theorem dL_law_1279 : decode code 1279 = .ok (.aload_n 0, 1) := by decide +kernel
theorem dL_law_1280 : decode code 1280 = .ok (.iload 5, 2) := by decide +kernel
theorem dL_law_1282 : decode code 1282 = .ok (.iconst 1, 1) := by decide +kernel
theorem dL_law_1283 : decode code 1283 = .ok (.iadd, 1) := by decide +kernel
theorem dL_law_1284 : decode code 1284 = .ok (.iaload, 1) := by decide +kernel
theorem dL_law_1285 : decode code 1285 = .ok (.aload_n 3, 1) := by decide +kernel
theorem dL_law_1286 : decode code 1286 = .ok (.invokestatic 211, 3) := by decide +kernel
theorem dL_law_1289 : decode code 1289 = .ok (.istore 6, 2) := by decide +kernel
theorem dL_law_1291 : decode code 1291 = .ok (.aload_n 2, 1) := by decide +kernel
theorem dL_law_1292 : decode code 1292 = .ok (.aload_n 0, 1) := by decide +kernel
theorem dL_law_1293 : decode code 1293 = .ok (.iload 5, 2) := by decide +kernel
theorem dL_law_1295 : decode code 1295 = .ok (.iconst 1, 1) := by decide +kernel
theorem dL_law_1296 : decode code 1296 = .ok (.iadd, 1) := by decide +kernel
theorem dL_law_1297 : decode code 1297 = .ok (.iaload, 1) := by decide +kernel
theorem dL_law_1298 : decode code 1298 = .ok (.invokevirtual 213, 3) := by decide +kernel
theorem dL_law_1301 : decode code 1301 = .ok (.istore 7, 2) := by decide +kernel
theorem dL_law_1303 : decode code 1303 = .ok (.aload_n 2, 1) := by decide +kernel
theorem dL_law_1304 : decode code 1304 = .ok (.invokevirtual 149, 3) := by decide +kernel
theorem dL_law_1307 : decode code 1307 = .ok (.iload 6, 2) := by decide +kernel
theorem dL_law_1309 : decode code 1309 = .ok (.if_icmp .eq 5, 3) := by decide +kernel
theorem dL_law_1314 : decode code 1314 = .ok (.iload 6, 2) := by decide +kernel
theorem dL_law_1316 : decode code 1316 = .ok (.ifCond .ne 22, 3) := by decide +kernel
theorem dL_law_1338 : decode code 1338 = .ok (.goto 1159, 3) := by decide +kernel
theorem dL_law_1341 : decode code 1341 = .ok (.aload_n 1, 1) := by decide +kernel
theorem dL_law_1342 : decode code 1342 = .ok (.aload_n 0, 1) := by decide +kernel
theorem dL_law_1343 : decode code 1343 = .ok (.iload 5, 2) := by decide +kernel
theorem dL_law_1345 : decode code 1345 = .ok (.iconst 1, 1) := by decide +kernel
theorem dL_law_1346 : decode code 1346 = .ok (.iadd, 1) := by decide +kernel
theorem dL_law_1347 : decode code 1347 = .ok (.iaload, 1) := by decide +kernel
theorem dL_law_1348 : decode code 1348 = .ok (.aload_n 3, 1) := by decide +kernel
theorem dL_law_1349 : decode code 1349 = .ok (.invokestatic 214, 3) := by decide +kernel
theorem dL_law_1352 : decode code 1352 = .ok (.istore 6, 2) := by decide +kernel
theorem dL_law_1354 : decode code 1354 = .ok (.aload_n 2, 1) := by decide +kernel
theorem dL_law_1355 : decode code 1355 = .ok (.aload_n 0, 1) := by decide +kernel
theorem dL_law_1356 : decode code 1356 = .ok (.iload 5, 2) := by decide +kernel
theorem dL_law_1358 : decode code 1358 = .ok (.iconst 1, 1) := by decide +kernel
theorem dL_law_1359 : decode code 1359 = .ok (.iadd, 1) := by decide +kernel
theorem dL_law_1360 : decode code 1360 = .ok (.iaload, 1) := by decide +kernel
theorem dL_law_1361 : decode code 1361 = .ok (.invokevirtual 216, 3) := by decide +kernel
theorem dL_law_1364 : decode code 1364 = .ok (.istore 7, 2) := by decide +kernel
theorem dL_law_1366 : decode code 1366 = .ok (.aload_n 2, 1) := by decide +kernel
theorem dL_law_1367 : decode code 1367 = .ok (.invokevirtual 149, 3) := by decide +kernel
theorem dL_law_1370 : decode code 1370 = .ok (.iload 6, 2) := by decide +kernel
theorem dL_law_1372 : decode code 1372 = .ok (.if_icmp .eq 5, 3) := by decide +kernel
theorem dL_law_1377 : decode code 1377 = .ok (.iload 6, 2) := by decide +kernel
theorem dL_law_1379 : decode code 1379 = .ok (.ifCond .ne 15, 3) := by decide +kernel
theorem dL_law_1394 : decode code 1394 = .ok (.goto 1103, 3) := by decide +kernel
theorem dL_law_1397 : decode code 1397 = .ok (.aload_n 1, 1) := by decide +kernel
theorem dL_law_1398 : decode code 1398 = .ok (.aload_n 0, 1) := by decide +kernel
theorem dL_law_1399 : decode code 1399 = .ok (.iload 5, 2) := by decide +kernel
theorem dL_law_1401 : decode code 1401 = .ok (.iconst 1, 1) := by decide +kernel
theorem dL_law_1402 : decode code 1402 = .ok (.iadd, 1) := by decide +kernel
theorem dL_law_1403 : decode code 1403 = .ok (.iaload, 1) := by decide +kernel
theorem dL_law_1404 : decode code 1404 = .ok (.aload_n 3, 1) := by decide +kernel
theorem dL_law_1405 : decode code 1405 = .ok (.invokestatic 217, 3) := by decide +kernel
theorem dL_law_1408 : decode code 1408 = .ok (.istore 6, 2) := by decide +kernel
theorem dL_law_1410 : decode code 1410 = .ok (.aload_n 2, 1) := by decide +kernel
theorem dL_law_1411 : decode code 1411 = .ok (.aload_n 0, 1) := by decide +kernel
theorem dL_law_1412 : decode code 1412 = .ok (.iload 5, 2) := by decide +kernel
theorem dL_law_1414 : decode code 1414 = .ok (.iconst 1, 1) := by decide +kernel
theorem dL_law_1415 : decode code 1415 = .ok (.iadd, 1) := by decide +kernel
theorem dL_law_1416 : decode code 1416 = .ok (.iaload, 1) := by decide +kernel
theorem dL_law_1417 : decode code 1417 = .ok (.invokevirtual 219, 3) := by decide +kernel
theorem dL_law_1420 : decode code 1420 = .ok (.istore 7, 2) := by decide +kernel
theorem dL_law_1422 : decode code 1422 = .ok (.aload_n 2, 1) := by decide +kernel
theorem dL_law_1423 : decode code 1423 = .ok (.invokevirtual 149, 3) := by decide +kernel
theorem dL_law_1426 : decode code 1426 = .ok (.iload 6, 2) := by decide +kernel
theorem dL_law_1428 : decode code 1428 = .ok (.if_icmp .eq 5, 3) := by decide +kernel
theorem dL_law_1433 : decode code 1433 = .ok (.iload 6, 2) := by decide +kernel
theorem dL_law_1435 : decode code 1435 = .ok (.ifCond .ne 15, 3) := by decide +kernel
theorem dL_law_1450 : decode code 1450 = .ok (.goto 1047, 3) := by decide +kernel
theorem dL_law_1453 : decode code 1453 = .ok (.aload_n 1, 1) := by decide +kernel
theorem dL_law_1454 : decode code 1454 = .ok (.aload_n 0, 1) := by decide +kernel
theorem dL_law_1455 : decode code 1455 = .ok (.iload 5, 2) := by decide +kernel
theorem dL_law_1457 : decode code 1457 = .ok (.iconst 1, 1) := by decide +kernel
theorem dL_law_1458 : decode code 1458 = .ok (.iadd, 1) := by decide +kernel
theorem dL_law_1459 : decode code 1459 = .ok (.iaload, 1) := by decide +kernel
theorem dL_law_1460 : decode code 1460 = .ok (.aload_n 3, 1) := by decide +kernel
theorem dL_law_1461 : decode code 1461 = .ok (.invokestatic 220, 3) := by decide +kernel
theorem dL_law_1464 : decode code 1464 = .ok (.istore 6, 2) := by decide +kernel
theorem dL_law_1466 : decode code 1466 = .ok (.aload_n 2, 1) := by decide +kernel
theorem dL_law_1467 : decode code 1467 = .ok (.aload_n 0, 1) := by decide +kernel
theorem dL_law_1468 : decode code 1468 = .ok (.iload 5, 2) := by decide +kernel
theorem dL_law_1470 : decode code 1470 = .ok (.iconst 1, 1) := by decide +kernel
theorem dL_law_1471 : decode code 1471 = .ok (.iadd, 1) := by decide +kernel
theorem dL_law_1472 : decode code 1472 = .ok (.iaload, 1) := by decide +kernel
theorem dL_law_1473 : decode code 1473 = .ok (.invokevirtual 222, 3) := by decide +kernel
theorem dL_law_1476 : decode code 1476 = .ok (.istore 7, 2) := by decide +kernel
theorem dL_law_1478 : decode code 1478 = .ok (.aload_n 2, 1) := by decide +kernel
theorem dL_law_1479 : decode code 1479 = .ok (.invokevirtual 149, 3) := by decide +kernel
theorem dL_law_1482 : decode code 1482 = .ok (.iload 6, 2) := by decide +kernel
theorem dL_law_1484 : decode code 1484 = .ok (.if_icmp .eq 5, 3) := by decide +kernel
theorem dL_law_1489 : decode code 1489 = .ok (.iload 6, 2) := by decide +kernel
theorem dL_law_1491 : decode code 1491 = .ok (.ifCond .ne 15, 3) := by decide +kernel
theorem dL_law_1506 : decode code 1506 = .ok (.goto 991, 3) := by decide +kernel
theorem dL_law_1509 : decode code 1509 = .ok (.aload_n 1, 1) := by decide +kernel
theorem dL_law_1510 : decode code 1510 = .ok (.aload_n 0, 1) := by decide +kernel
theorem dL_law_1511 : decode code 1511 = .ok (.iload 5, 2) := by decide +kernel
theorem dL_law_1513 : decode code 1513 = .ok (.iconst 1, 1) := by decide +kernel
theorem dL_law_1514 : decode code 1514 = .ok (.iadd, 1) := by decide +kernel
theorem dL_law_1515 : decode code 1515 = .ok (.iaload, 1) := by decide +kernel
theorem dL_law_1516 : decode code 1516 = .ok (.aload_n 0, 1) := by decide +kernel
theorem dL_law_1517 : decode code 1517 = .ok (.iload 5, 2) := by decide +kernel
theorem dL_law_1519 : decode code 1519 = .ok (.iconst 2, 1) := by decide +kernel
theorem dL_law_1520 : decode code 1520 = .ok (.iadd, 1) := by decide +kernel
theorem dL_law_1521 : decode code 1521 = .ok (.iaload, 1) := by decide +kernel
theorem dL_law_1522 : decode code 1522 = .ok (.aload_n 3, 1) := by decide +kernel
theorem dL_law_1523 : decode code 1523 = .ok (.invokestatic 223, 3) := by decide +kernel
theorem dL_law_1526 : decode code 1526 = .ok (.istore 6, 2) := by decide +kernel
theorem dL_law_1528 : decode code 1528 = .ok (.aload_n 2, 1) := by decide +kernel
theorem dL_law_1529 : decode code 1529 = .ok (.aload_n 0, 1) := by decide +kernel
theorem dL_law_1530 : decode code 1530 = .ok (.iload 5, 2) := by decide +kernel
theorem dL_law_1532 : decode code 1532 = .ok (.iconst 1, 1) := by decide +kernel
theorem dL_law_1533 : decode code 1533 = .ok (.iadd, 1) := by decide +kernel
theorem dL_law_1534 : decode code 1534 = .ok (.iaload, 1) := by decide +kernel
theorem dL_law_1535 : decode code 1535 = .ok (.aload_n 0, 1) := by decide +kernel
theorem dL_law_1536 : decode code 1536 = .ok (.iload 5, 2) := by decide +kernel
theorem dL_law_1538 : decode code 1538 = .ok (.iconst 2, 1) := by decide +kernel
theorem dL_law_1539 : decode code 1539 = .ok (.iadd, 1) := by decide +kernel
theorem dL_law_1540 : decode code 1540 = .ok (.iaload, 1) := by decide +kernel
theorem dL_law_1541 : decode code 1541 = .ok (.invokevirtual 225, 3) := by decide +kernel
theorem dL_law_1544 : decode code 1544 = .ok (.istore 7, 2) := by decide +kernel
theorem dL_law_1546 : decode code 1546 = .ok (.aload_n 2, 1) := by decide +kernel
theorem dL_law_1547 : decode code 1547 = .ok (.invokevirtual 149, 3) := by decide +kernel
theorem dL_law_1550 : decode code 1550 = .ok (.iload 6, 2) := by decide +kernel
theorem dL_law_1552 : decode code 1552 = .ok (.if_icmp .eq 5, 3) := by decide +kernel
theorem dL_law_1557 : decode code 1557 = .ok (.iload 6, 2) := by decide +kernel
theorem dL_law_1559 : decode code 1559 = .ok (.ifCond .ne 15, 3) := by decide +kernel
theorem dL_law_1574 : decode code 1574 = .ok (.goto 923, 3) := by decide +kernel
theorem dL_law_1577 : decode code 1577 = .ok (.aload_n 1, 1) := by decide +kernel
theorem dL_law_1578 : decode code 1578 = .ok (.aload_n 0, 1) := by decide +kernel
theorem dL_law_1579 : decode code 1579 = .ok (.iload 5, 2) := by decide +kernel
theorem dL_law_1581 : decode code 1581 = .ok (.iconst 1, 1) := by decide +kernel
theorem dL_law_1582 : decode code 1582 = .ok (.iadd, 1) := by decide +kernel
theorem dL_law_1583 : decode code 1583 = .ok (.iaload, 1) := by decide +kernel
theorem dL_law_1584 : decode code 1584 = .ok (.aload_n 0, 1) := by decide +kernel
theorem dL_law_1585 : decode code 1585 = .ok (.iload 5, 2) := by decide +kernel
theorem dL_law_1587 : decode code 1587 = .ok (.iconst 2, 1) := by decide +kernel
theorem dL_law_1588 : decode code 1588 = .ok (.iadd, 1) := by decide +kernel
theorem dL_law_1589 : decode code 1589 = .ok (.iaload, 1) := by decide +kernel
theorem dL_law_1590 : decode code 1590 = .ok (.aload_n 3, 1) := by decide +kernel
theorem dL_law_1591 : decode code 1591 = .ok (.invokestatic 226, 3) := by decide +kernel
theorem dL_law_1594 : decode code 1594 = .ok (.istore 6, 2) := by decide +kernel
theorem dL_law_1596 : decode code 1596 = .ok (.aload_n 2, 1) := by decide +kernel
theorem dL_law_1597 : decode code 1597 = .ok (.aload_n 0, 1) := by decide +kernel
theorem dL_law_1598 : decode code 1598 = .ok (.iload 5, 2) := by decide +kernel
theorem dL_law_1600 : decode code 1600 = .ok (.iconst 1, 1) := by decide +kernel
theorem dL_law_1601 : decode code 1601 = .ok (.iadd, 1) := by decide +kernel
theorem dL_law_1602 : decode code 1602 = .ok (.iaload, 1) := by decide +kernel
theorem dL_law_1603 : decode code 1603 = .ok (.aload_n 0, 1) := by decide +kernel
theorem dL_law_1604 : decode code 1604 = .ok (.iload 5, 2) := by decide +kernel
theorem dL_law_1606 : decode code 1606 = .ok (.iconst 2, 1) := by decide +kernel
theorem dL_law_1607 : decode code 1607 = .ok (.iadd, 1) := by decide +kernel
theorem dL_law_1608 : decode code 1608 = .ok (.iaload, 1) := by decide +kernel
theorem dL_law_1609 : decode code 1609 = .ok (.invokevirtual 228, 3) := by decide +kernel
theorem dL_law_1612 : decode code 1612 = .ok (.istore 7, 2) := by decide +kernel
theorem dL_law_1614 : decode code 1614 = .ok (.aload_n 2, 1) := by decide +kernel
theorem dL_law_1615 : decode code 1615 = .ok (.invokevirtual 149, 3) := by decide +kernel
theorem dL_law_1618 : decode code 1618 = .ok (.iload 6, 2) := by decide +kernel
theorem dL_law_1620 : decode code 1620 = .ok (.if_icmp .eq 5, 3) := by decide +kernel
theorem dL_law_1625 : decode code 1625 = .ok (.iload 6, 2) := by decide +kernel
theorem dL_law_1627 : decode code 1627 = .ok (.ifCond .ne 15, 3) := by decide +kernel
theorem dL_law_1642 : decode code 1642 = .ok (.goto 855, 3) := by decide +kernel
theorem dL_law_1645 : decode code 1645 = .ok (.aload_n 1, 1) := by decide +kernel
theorem dL_law_1646 : decode code 1646 = .ok (.aload_n 0, 1) := by decide +kernel
theorem dL_law_1647 : decode code 1647 = .ok (.iload 5, 2) := by decide +kernel
theorem dL_law_1649 : decode code 1649 = .ok (.iconst 1, 1) := by decide +kernel
theorem dL_law_1650 : decode code 1650 = .ok (.iadd, 1) := by decide +kernel
theorem dL_law_1651 : decode code 1651 = .ok (.iaload, 1) := by decide +kernel
theorem dL_law_1652 : decode code 1652 = .ok (.aload_n 0, 1) := by decide +kernel
theorem dL_law_1653 : decode code 1653 = .ok (.iload 5, 2) := by decide +kernel
theorem dL_law_1655 : decode code 1655 = .ok (.iconst 2, 1) := by decide +kernel
theorem dL_law_1656 : decode code 1656 = .ok (.iadd, 1) := by decide +kernel
theorem dL_law_1657 : decode code 1657 = .ok (.iaload, 1) := by decide +kernel
theorem dL_law_1658 : decode code 1658 = .ok (.aload_n 3, 1) := by decide +kernel
theorem dL_law_1659 : decode code 1659 = .ok (.invokestatic 229, 3) := by decide +kernel
theorem dL_law_1662 : decode code 1662 = .ok (.istore 6, 2) := by decide +kernel
theorem dL_law_1664 : decode code 1664 = .ok (.aload_n 2, 1) := by decide +kernel
theorem dL_law_1665 : decode code 1665 = .ok (.aload_n 0, 1) := by decide +kernel
theorem dL_law_1666 : decode code 1666 = .ok (.iload 5, 2) := by decide +kernel
theorem dL_law_1668 : decode code 1668 = .ok (.iconst 1, 1) := by decide +kernel
theorem dL_law_1669 : decode code 1669 = .ok (.iadd, 1) := by decide +kernel
theorem dL_law_1670 : decode code 1670 = .ok (.iaload, 1) := by decide +kernel
theorem dL_law_1671 : decode code 1671 = .ok (.aload_n 0, 1) := by decide +kernel
theorem dL_law_1672 : decode code 1672 = .ok (.iload 5, 2) := by decide +kernel
theorem dL_law_1674 : decode code 1674 = .ok (.iconst 2, 1) := by decide +kernel
theorem dL_law_1675 : decode code 1675 = .ok (.iadd, 1) := by decide +kernel
theorem dL_law_1676 : decode code 1676 = .ok (.iaload, 1) := by decide +kernel
theorem dL_law_1677 : decode code 1677 = .ok (.invokevirtual 231, 3) := by decide +kernel
theorem dL_law_1680 : decode code 1680 = .ok (.istore 7, 2) := by decide +kernel
theorem dL_law_1682 : decode code 1682 = .ok (.aload_n 2, 1) := by decide +kernel
theorem dL_law_1683 : decode code 1683 = .ok (.invokevirtual 149, 3) := by decide +kernel
theorem dL_law_1686 : decode code 1686 = .ok (.iload 6, 2) := by decide +kernel
theorem dL_law_1688 : decode code 1688 = .ok (.if_icmp .eq 5, 3) := by decide +kernel
theorem dL_law_1693 : decode code 1693 = .ok (.iload 6, 2) := by decide +kernel
theorem dL_law_1695 : decode code 1695 = .ok (.ifCond .ne 15, 3) := by decide +kernel
theorem dL_law_1710 : decode code 1710 = .ok (.goto 787, 3) := by decide +kernel
theorem dL_law_1713 : decode code 1713 = .ok (.aload_n 1, 1) := by decide +kernel
theorem dL_law_1714 : decode code 1714 = .ok (.aload_n 0, 1) := by decide +kernel
theorem dL_law_1715 : decode code 1715 = .ok (.iload 5, 2) := by decide +kernel
theorem dL_law_1717 : decode code 1717 = .ok (.iconst 1, 1) := by decide +kernel
theorem dL_law_1718 : decode code 1718 = .ok (.iadd, 1) := by decide +kernel
theorem dL_law_1719 : decode code 1719 = .ok (.iaload, 1) := by decide +kernel
theorem dL_law_1720 : decode code 1720 = .ok (.aload_n 3, 1) := by decide +kernel
theorem dL_law_1721 : decode code 1721 = .ok (.invokestatic 232, 3) := by decide +kernel
theorem dL_law_1724 : decode code 1724 = .ok (.istore 6, 2) := by decide +kernel
theorem dL_law_1726 : decode code 1726 = .ok (.aload_n 2, 1) := by decide +kernel
theorem dL_law_1727 : decode code 1727 = .ok (.aload_n 0, 1) := by decide +kernel
theorem dL_law_1728 : decode code 1728 = .ok (.iload 5, 2) := by decide +kernel
theorem dL_law_1730 : decode code 1730 = .ok (.iconst 1, 1) := by decide +kernel
theorem dL_law_1731 : decode code 1731 = .ok (.iadd, 1) := by decide +kernel
theorem dL_law_1732 : decode code 1732 = .ok (.iaload, 1) := by decide +kernel
theorem dL_law_1733 : decode code 1733 = .ok (.invokevirtual 234, 3) := by decide +kernel
theorem dL_law_1736 : decode code 1736 = .ok (.istore 7, 2) := by decide +kernel
theorem dL_law_1738 : decode code 1738 = .ok (.aload_n 2, 1) := by decide +kernel
theorem dL_law_1739 : decode code 1739 = .ok (.invokevirtual 149, 3) := by decide +kernel
theorem dL_law_1742 : decode code 1742 = .ok (.iload 6, 2) := by decide +kernel
theorem dL_law_1744 : decode code 1744 = .ok (.if_icmp .eq 5, 3) := by decide +kernel
theorem dL_law_1749 : decode code 1749 = .ok (.iload 6, 2) := by decide +kernel
theorem dL_law_1751 : decode code 1751 = .ok (.ifCond .ne 15, 3) := by decide +kernel
theorem dL_law_1766 : decode code 1766 = .ok (.goto 731, 3) := by decide +kernel
theorem dL_law_1769 : decode code 1769 = .ok (.aload_n 1, 1) := by decide +kernel
theorem dL_law_1770 : decode code 1770 = .ok (.aload_n 0, 1) := by decide +kernel
theorem dL_law_1771 : decode code 1771 = .ok (.iload 5, 2) := by decide +kernel
theorem dL_law_1773 : decode code 1773 = .ok (.iconst 1, 1) := by decide +kernel
theorem dL_law_1774 : decode code 1774 = .ok (.iadd, 1) := by decide +kernel
theorem dL_law_1775 : decode code 1775 = .ok (.iaload, 1) := by decide +kernel
theorem dL_law_1776 : decode code 1776 = .ok (.aload_n 3, 1) := by decide +kernel
theorem dL_law_1777 : decode code 1777 = .ok (.invokestatic 235, 3) := by decide +kernel
theorem dL_law_1780 : decode code 1780 = .ok (.istore 6, 2) := by decide +kernel
theorem dL_law_1782 : decode code 1782 = .ok (.aload_n 2, 1) := by decide +kernel
theorem dL_law_1783 : decode code 1783 = .ok (.aload_n 0, 1) := by decide +kernel
theorem dL_law_1784 : decode code 1784 = .ok (.iload 5, 2) := by decide +kernel
theorem dL_law_1786 : decode code 1786 = .ok (.iconst 1, 1) := by decide +kernel
theorem dL_law_1787 : decode code 1787 = .ok (.iadd, 1) := by decide +kernel
theorem dL_law_1788 : decode code 1788 = .ok (.iaload, 1) := by decide +kernel
theorem dL_law_1789 : decode code 1789 = .ok (.invokevirtual 237, 3) := by decide +kernel
theorem dL_law_1792 : decode code 1792 = .ok (.istore 7, 2) := by decide +kernel
theorem dL_law_1794 : decode code 1794 = .ok (.aload_n 2, 1) := by decide +kernel
theorem dL_law_1795 : decode code 1795 = .ok (.invokevirtual 149, 3) := by decide +kernel
theorem dL_law_1798 : decode code 1798 = .ok (.iload 6, 2) := by decide +kernel
theorem dL_law_1800 : decode code 1800 = .ok (.if_icmp .eq 5, 3) := by decide +kernel
theorem dL_law_1805 : decode code 1805 = .ok (.iload 6, 2) := by decide +kernel
theorem dL_law_1807 : decode code 1807 = .ok (.ifCond .ne 15, 3) := by decide +kernel
theorem dL_law_1822 : decode code 1822 = .ok (.goto 675, 3) := by decide +kernel
theorem dL_law_1825 : decode code 1825 = .ok (.aload_n 1, 1) := by decide +kernel
theorem dL_law_1826 : decode code 1826 = .ok (.invokevirtual 238, 3) := by decide +kernel
theorem dL_law_1829 : decode code 1829 = .ok (.aload_n 2, 1) := by decide +kernel
theorem dL_law_1830 : decode code 1830 = .ok (.invokevirtual 241, 3) := by decide +kernel
theorem dL_law_1833 : decode code 1833 = .ok (.if_icmp .eq 664, 3) := by decide +kernel
theorem dL_law_1838 : decode code 1838 = .ok (.aload_n 1, 1) := by decide +kernel
theorem dL_law_1839 : decode code 1839 = .ok (.invokevirtual 242, 3) := by decide +kernel
theorem dL_law_1842 : decode code 1842 = .ok (.aload_n 2, 1) := by decide +kernel
theorem dL_law_1843 : decode code 1843 = .ok (.invokevirtual 245, 3) := by decide +kernel
theorem dL_law_1846 : decode code 1846 = .ok (.if_icmp .eq 651, 3) := by decide +kernel
theorem dL_law_1851 : decode code 1851 = .ok (.aload_n 1, 1) := by decide +kernel
theorem dL_law_1852 : decode code 1852 = .ok (.invokevirtual 246, 3) := by decide +kernel
theorem dL_law_1855 : decode code 1855 = .ok (.aload_n 2, 1) := by decide +kernel
theorem dL_law_1856 : decode code 1856 = .ok (.invokevirtual 249, 3) := by decide +kernel
theorem dL_law_1859 : decode code 1859 = .ok (.if_icmp .eq 638, 3) := by decide +kernel
theorem dL_law_1864 : decode code 1864 = .ok (.aload_n 1, 1) := by decide +kernel
theorem dL_law_1865 : decode code 1865 = .ok (.invokevirtual 250, 3) := by decide +kernel
theorem dL_law_1868 : decode code 1868 = .ok (.aload_n 2, 1) := by decide +kernel
theorem dL_law_1869 : decode code 1869 = .ok (.invokevirtual 253, 3) := by decide +kernel
theorem dL_law_1872 : decode code 1872 = .ok (.if_icmp .eq 625, 3) := by decide +kernel
theorem dL_law_1877 : decode code 1877 = .ok (.aload_n 1, 1) := by decide +kernel
theorem dL_law_1878 : decode code 1878 = .ok (.aload_n 0, 1) := by decide +kernel
theorem dL_law_1879 : decode code 1879 = .ok (.iload 5, 2) := by decide +kernel
theorem dL_law_1881 : decode code 1881 = .ok (.iconst 1, 1) := by decide +kernel
theorem dL_law_1882 : decode code 1882 = .ok (.iadd, 1) := by decide +kernel
theorem dL_law_1883 : decode code 1883 = .ok (.iaload, 1) := by decide +kernel
theorem dL_law_1884 : decode code 1884 = .ok (.aload_n 3, 1) := by decide +kernel
theorem dL_law_1885 : decode code 1885 = .ok (.invokestatic 254, 3) := by decide +kernel
theorem dL_law_1888 : decode code 1888 = .ok (.istore 6, 2) := by decide +kernel
theorem dL_law_1890 : decode code 1890 = .ok (.aload_n 2, 1) := by decide +kernel
theorem dL_law_1891 : decode code 1891 = .ok (.aload_n 0, 1) := by decide +kernel
theorem dL_law_1892 : decode code 1892 = .ok (.iload 5, 2) := by decide +kernel
theorem dL_law_1894 : decode code 1894 = .ok (.iconst 1, 1) := by decide +kernel
theorem dL_law_1895 : decode code 1895 = .ok (.iadd, 1) := by decide +kernel
theorem dL_law_1896 : decode code 1896 = .ok (.iaload, 1) := by decide +kernel
theorem dL_law_1897 : decode code 1897 = .ok (.invokevirtual 256, 3) := by decide +kernel
theorem dL_law_1900 : decode code 1900 = .ok (.istore 7, 2) := by decide +kernel
theorem dL_law_1902 : decode code 1902 = .ok (.aload_n 2, 1) := by decide +kernel
theorem dL_law_1903 : decode code 1903 = .ok (.invokevirtual 149, 3) := by decide +kernel
theorem dL_law_1906 : decode code 1906 = .ok (.iload 6, 2) := by decide +kernel
theorem dL_law_1908 : decode code 1908 = .ok (.if_icmp .eq 5, 3) := by decide +kernel
theorem dL_law_1913 : decode code 1913 = .ok (.iload 6, 2) := by decide +kernel
theorem dL_law_1915 : decode code 1915 = .ok (.ifCond .ne 15, 3) := by decide +kernel
theorem dL_law_1918 : decode code 1918 = .ok (.aload_n 3, 1) := by decide +kernel
theorem dL_law_1919 : decode code 1919 = .ok (.iconst 0, 1) := by decide +kernel
theorem dL_law_1920 : decode code 1920 = .ok (.laload, 1) := by decide +kernel
theorem dL_law_1921 : decode code 1921 = .ok (.iload 7, 2) := by decide +kernel
theorem dL_law_1923 : decode code 1923 = .ok (.i2l, 1) := by decide +kernel
theorem dL_law_1924 : decode code 1924 = .ok (.lcmp, 1) := by decide +kernel
theorem dL_law_1925 : decode code 1925 = .ok (.ifCond .eq 5, 3) := by decide +kernel
theorem dL_law_1930 : decode code 1930 = .ok (.goto 567, 3) := by decide +kernel
theorem dL_law_1933 : decode code 1933 = .ok (.aload_n 1, 1) := by decide +kernel
theorem dL_law_1934 : decode code 1934 = .ok (.invokevirtual 257, 3) := by decide +kernel
theorem dL_law_1937 : decode code 1937 = .ok (.aload_n 2, 1) := by decide +kernel
theorem dL_law_1938 : decode code 1938 = .ok (.invokevirtual 260, 3) := by decide +kernel
theorem dL_law_1941 : decode code 1941 = .ok (.if_icmp .eq 556, 3) := by decide +kernel
theorem dL_law_1946 : decode code 1946 = .ok (.aload_n 1, 1) := by decide +kernel
theorem dL_law_1947 : decode code 1947 = .ok (.invokevirtual 261, 3) := by decide +kernel
theorem dL_law_1950 : decode code 1950 = .ok (.aload_n 2, 1) := by decide +kernel
theorem dL_law_1951 : decode code 1951 = .ok (.invokevirtual 264, 3) := by decide +kernel
theorem dL_law_1954 : decode code 1954 = .ok (.if_icmp .eq 543, 3) := by decide +kernel
theorem dL_law_1959 : decode code 1959 = .ok (.aload_n 1, 1) := by decide +kernel
theorem dL_law_1960 : decode code 1960 = .ok (.invokevirtual 265, 3) := by decide +kernel
theorem dL_law_1963 : decode code 1963 = .ok (.aload_n 2, 1) := by decide +kernel
theorem dL_law_1964 : decode code 1964 = .ok (.invokevirtual 268, 3) := by decide +kernel
theorem dL_law_1967 : decode code 1967 = .ok (.if_icmp .eq 530, 3) := by decide +kernel
theorem dL_law_1972 : decode code 1972 = .ok (.aload_n 1, 1) := by decide +kernel
theorem dL_law_1973 : decode code 1973 = .ok (.aload 4, 2) := by decide +kernel
theorem dL_law_1975 : decode code 1975 = .ok (.invokestatic 269, 3) := by decide +kernel
theorem dL_law_1978 : decode code 1978 = .ok (.istore 6, 2) := by decide +kernel
theorem dL_law_1980 : decode code 1980 = .ok (.aload_n 2, 1) := by decide +kernel
theorem dL_law_1981 : decode code 1981 = .ok (.invokevirtual 272, 3) := by decide +kernel
theorem dL_law_1984 : decode code 1984 = .ok (.dstore 7, 2) := by decide +kernel
theorem dL_law_1986 : decode code 1986 = .ok (.aload_n 2, 1) := by decide +kernel
theorem dL_law_1987 : decode code 1987 = .ok (.invokevirtual 149, 3) := by decide +kernel
theorem dL_law_1990 : decode code 1990 = .ok (.iload 6, 2) := by decide +kernel
theorem dL_law_1992 : decode code 1992 = .ok (.if_icmp .eq 5, 3) := by decide +kernel
theorem dL_law_1997 : decode code 1997 = .ok (.iload 6, 2) := by decide +kernel
theorem dL_law_1999 : decode code 1999 = .ok (.ifCond .ne 35, 3) := by decide +kernel
theorem dL_law_2034 : decode code 2034 = .ok (.goto 463, 3) := by decide +kernel
theorem dL_law_2037 : decode code 2037 = .ok (.aload_n 1, 1) := by decide +kernel
theorem dL_law_2038 : decode code 2038 = .ok (.aload 4, 2) := by decide +kernel
theorem dL_law_2040 : decode code 2040 = .ok (.invokestatic 273, 3) := by decide +kernel
theorem dL_law_2043 : decode code 2043 = .ok (.istore 6, 2) := by decide +kernel
theorem dL_law_2045 : decode code 2045 = .ok (.aload_n 2, 1) := by decide +kernel
theorem dL_law_2046 : decode code 2046 = .ok (.invokevirtual 275, 3) := by decide +kernel
theorem dL_law_2049 : decode code 2049 = .ok (.fstore 7, 2) := by decide +kernel
theorem dL_law_2051 : decode code 2051 = .ok (.aload_n 2, 1) := by decide +kernel
theorem dL_law_2052 : decode code 2052 = .ok (.invokevirtual 149, 3) := by decide +kernel
theorem dL_law_2055 : decode code 2055 = .ok (.iload 6, 2) := by decide +kernel
theorem dL_law_2057 : decode code 2057 = .ok (.if_icmp .eq 5, 3) := by decide +kernel
theorem dL_law_2062 : decode code 2062 = .ok (.iload 6, 2) := by decide +kernel
theorem dL_law_2064 : decode code 2064 = .ok (.ifCond .ne 36, 3) := by decide +kernel
theorem dL_law_2100 : decode code 2100 = .ok (.goto 397, 3) := by decide +kernel
theorem dL_law_2103 : decode code 2103 = .ok (.aload_n 1, 1) := by decide +kernel
theorem dL_law_2104 : decode code 2104 = .ok (.invokevirtual 276, 3) := by decide +kernel
theorem dL_law_2107 : decode code 2107 = .ok (.aload_n 2, 1) := by decide +kernel
theorem dL_law_2108 : decode code 2108 = .ok (.invokevirtual 280, 3) := by decide +kernel
theorem dL_law_2111 : decode code 2111 = .ok (.if_icmp .eq 386, 3) := by decide +kernel
theorem dL_law_2116 : decode code 2116 = .ok (.aload_n 1, 1) := by decide +kernel
theorem dL_law_2117 : decode code 2117 = .ok (.aload_n 0, 1) := by decide +kernel
theorem dL_law_2118 : decode code 2118 = .ok (.iload 5, 2) := by decide +kernel
theorem dL_law_2120 : decode code 2120 = .ok (.iconst 1, 1) := by decide +kernel
theorem dL_law_2121 : decode code 2121 = .ok (.iadd, 1) := by decide +kernel
theorem dL_law_2122 : decode code 2122 = .ok (.iaload, 1) := by decide +kernel
theorem dL_law_2123 : decode code 2123 = .ok (.i2c, 1) := by decide +kernel
theorem dL_law_2124 : decode code 2124 = .ok (.aload_n 3, 1) := by decide +kernel
theorem dL_law_2125 : decode code 2125 = .ok (.invokestatic 281, 3) := by decide +kernel
theorem dL_law_2128 : decode code 2128 = .ok (.istore 6, 2) := by decide +kernel
theorem dL_law_2130 : decode code 2130 = .ok (.aload_n 2, 1) := by decide +kernel
theorem dL_law_2131 : decode code 2131 = .ok (.aload_n 0, 1) := by decide +kernel
theorem dL_law_2132 : decode code 2132 = .ok (.iload 5, 2) := by decide +kernel
theorem dL_law_2134 : decode code 2134 = .ok (.iconst 1, 1) := by decide +kernel
theorem dL_law_2135 : decode code 2135 = .ok (.iadd, 1) := by decide +kernel
theorem dL_law_2136 : decode code 2136 = .ok (.iaload, 1) := by decide +kernel
theorem dL_law_2137 : decode code 2137 = .ok (.i2c, 1) := by decide +kernel
theorem dL_law_2138 : decode code 2138 = .ok (.invokevirtual 284, 3) := by decide +kernel
theorem dL_law_2141 : decode code 2141 = .ok (.istore 7, 2) := by decide +kernel
theorem dL_law_2143 : decode code 2143 = .ok (.aload_n 2, 1) := by decide +kernel
theorem dL_law_2144 : decode code 2144 = .ok (.invokevirtual 149, 3) := by decide +kernel
theorem dL_law_2147 : decode code 2147 = .ok (.iload 6, 2) := by decide +kernel
theorem dL_law_2149 : decode code 2149 = .ok (.if_icmp .eq 5, 3) := by decide +kernel
theorem dL_law_2154 : decode code 2154 = .ok (.iload 6, 2) := by decide +kernel
theorem dL_law_2156 : decode code 2156 = .ok (.ifCond .ne 15, 3) := by decide +kernel
theorem dL_law_2159 : decode code 2159 = .ok (.aload_n 3, 1) := by decide +kernel
theorem dL_law_2160 : decode code 2160 = .ok (.iconst 0, 1) := by decide +kernel
theorem dL_law_2161 : decode code 2161 = .ok (.laload, 1) := by decide +kernel
theorem dL_law_2162 : decode code 2162 = .ok (.iload 7, 2) := by decide +kernel
theorem dL_law_2164 : decode code 2164 = .ok (.i2l, 1) := by decide +kernel
theorem dL_law_2165 : decode code 2165 = .ok (.lcmp, 1) := by decide +kernel
theorem dL_law_2166 : decode code 2166 = .ok (.ifCond .eq 5, 3) := by decide +kernel
theorem dL_law_2171 : decode code 2171 = .ok (.goto 326, 3) := by decide +kernel
theorem dL_law_2174 : decode code 2174 = .ok (.aload_n 1, 1) := by decide +kernel
theorem dL_law_2175 : decode code 2175 = .ok (.aload_n 3, 1) := by decide +kernel
theorem dL_law_2176 : decode code 2176 = .ok (.invokestatic 285, 3) := by decide +kernel
theorem dL_law_2179 : decode code 2179 = .ok (.istore 6, 2) := by decide +kernel
theorem dL_law_2181 : decode code 2181 = .ok (.aload_n 2, 1) := by decide +kernel
theorem dL_law_2182 : decode code 2182 = .ok (.invokevirtual 288, 3) := by decide +kernel
theorem dL_law_2185 : decode code 2185 = .ok (.istore 7, 2) := by decide +kernel
theorem dL_law_2187 : decode code 2187 = .ok (.aload_n 2, 1) := by decide +kernel
theorem dL_law_2188 : decode code 2188 = .ok (.invokevirtual 149, 3) := by decide +kernel
theorem dL_law_2191 : decode code 2191 = .ok (.iload 6, 2) := by decide +kernel
theorem dL_law_2193 : decode code 2193 = .ok (.if_icmp .eq 5, 3) := by decide +kernel
theorem dL_law_2198 : decode code 2198 = .ok (.iload 6, 2) := by decide +kernel
theorem dL_law_2200 : decode code 2200 = .ok (.ifCond .ne 15, 3) := by decide +kernel
theorem dL_law_2215 : decode code 2215 = .ok (.goto 282, 3) := by decide +kernel
theorem dL_law_2218 : decode code 2218 = .ok (.aload_n 1, 1) := by decide +kernel
theorem dL_law_2219 : decode code 2219 = .ok (.aload_n 3, 1) := by decide +kernel
theorem dL_law_2220 : decode code 2220 = .ok (.invokestatic 289, 3) := by decide +kernel
theorem dL_law_2223 : decode code 2223 = .ok (.istore 6, 2) := by decide +kernel
theorem dL_law_2225 : decode code 2225 = .ok (.aload_n 2, 1) := by decide +kernel
theorem dL_law_2226 : decode code 2226 = .ok (.invokevirtual 291, 3) := by decide +kernel
theorem dL_law_2229 : decode code 2229 = .ok (.istore 7, 2) := by decide +kernel
theorem dL_law_2231 : decode code 2231 = .ok (.aload_n 2, 1) := by decide +kernel
theorem dL_law_2232 : decode code 2232 = .ok (.invokevirtual 149, 3) := by decide +kernel
theorem dL_law_2235 : decode code 2235 = .ok (.iload 6, 2) := by decide +kernel
theorem dL_law_2237 : decode code 2237 = .ok (.if_icmp .eq 5, 3) := by decide +kernel
theorem dL_law_2242 : decode code 2242 = .ok (.iload 6, 2) := by decide +kernel
theorem dL_law_2244 : decode code 2244 = .ok (.ifCond .ne 15, 3) := by decide +kernel
theorem dL_law_2259 : decode code 2259 = .ok (.goto 238, 3) := by decide +kernel
theorem dL_law_2262 : decode code 2262 = .ok (.aload_n 1, 1) := by decide +kernel
theorem dL_law_2263 : decode code 2263 = .ok (.aload_n 3, 1) := by decide +kernel
theorem dL_law_2264 : decode code 2264 = .ok (.invokestatic 292, 3) := by decide +kernel
theorem dL_law_2267 : decode code 2267 = .ok (.istore 6, 2) := by decide +kernel
theorem dL_law_2269 : decode code 2269 = .ok (.aload_n 2, 1) := by decide +kernel
theorem dL_law_2270 : decode code 2270 = .ok (.invokevirtual 294, 3) := by decide +kernel
theorem dL_law_2273 : decode code 2273 = .ok (.istore 7, 2) := by decide +kernel
theorem dL_law_2275 : decode code 2275 = .ok (.aload_n 2, 1) := by decide +kernel
theorem dL_law_2276 : decode code 2276 = .ok (.invokevirtual 149, 3) := by decide +kernel
theorem dL_law_2279 : decode code 2279 = .ok (.iload 6, 2) := by decide +kernel
theorem dL_law_2281 : decode code 2281 = .ok (.if_icmp .eq 5, 3) := by decide +kernel
theorem dL_law_2286 : decode code 2286 = .ok (.iload 6, 2) := by decide +kernel
theorem dL_law_2288 : decode code 2288 = .ok (.ifCond .ne 15, 3) := by decide +kernel
theorem dL_law_2303 : decode code 2303 = .ok (.goto 194, 3) := by decide +kernel
theorem dL_law_2306 : decode code 2306 = .ok (.aload_n 1, 1) := by decide +kernel
theorem dL_law_2307 : decode code 2307 = .ok (.aload_n 0, 1) := by decide +kernel
theorem dL_law_2308 : decode code 2308 = .ok (.iload 5, 2) := by decide +kernel
theorem dL_law_2310 : decode code 2310 = .ok (.iconst 1, 1) := by decide +kernel
theorem dL_law_2311 : decode code 2311 = .ok (.iadd, 1) := by decide +kernel
theorem dL_law_2312 : decode code 2312 = .ok (.iaload, 1) := by decide +kernel
theorem dL_law_2313 : decode code 2313 = .ok (.aload_n 3, 1) := by decide +kernel
theorem dL_law_2314 : decode code 2314 = .ok (.invokestatic 295, 3) := by decide +kernel
theorem dL_law_2317 : decode code 2317 = .ok (.istore 6, 2) := by decide +kernel
theorem dL_law_2319 : decode code 2319 = .ok (.aload_n 2, 1) := by decide +kernel
theorem dL_law_2320 : decode code 2320 = .ok (.aload_n 0, 1) := by decide +kernel
theorem dL_law_2321 : decode code 2321 = .ok (.iload 5, 2) := by decide +kernel
theorem dL_law_2323 : decode code 2323 = .ok (.iconst 1, 1) := by decide +kernel
theorem dL_law_2324 : decode code 2324 = .ok (.iadd, 1) := by decide +kernel
theorem dL_law_2325 : decode code 2325 = .ok (.iaload, 1) := by decide +kernel
theorem dL_law_2326 : decode code 2326 = .ok (.invokevirtual 297, 3) := by decide +kernel
theorem dL_law_2329 : decode code 2329 = .ok (.istore 7, 2) := by decide +kernel
theorem dL_law_2331 : decode code 2331 = .ok (.aload_n 2, 1) := by decide +kernel
theorem dL_law_2332 : decode code 2332 = .ok (.invokevirtual 149, 3) := by decide +kernel
theorem dL_law_2335 : decode code 2335 = .ok (.iload 6, 2) := by decide +kernel
theorem dL_law_2337 : decode code 2337 = .ok (.if_icmp .eq 5, 3) := by decide +kernel
theorem dL_law_2342 : decode code 2342 = .ok (.iload 6, 2) := by decide +kernel
theorem dL_law_2344 : decode code 2344 = .ok (.ifCond .ne 15, 3) := by decide +kernel
theorem dL_law_2359 : decode code 2359 = .ok (.goto 138, 3) := by decide +kernel
theorem dL_law_2362 : decode code 2362 = .ok (.aload_n 1, 1) := by decide +kernel
theorem dL_law_2363 : decode code 2363 = .ok (.aload_n 0, 1) := by decide +kernel
theorem dL_law_2364 : decode code 2364 = .ok (.iload 5, 2) := by decide +kernel
theorem dL_law_2366 : decode code 2366 = .ok (.iconst 1, 1) := by decide +kernel
theorem dL_law_2367 : decode code 2367 = .ok (.iadd, 1) := by decide +kernel
theorem dL_law_2368 : decode code 2368 = .ok (.iaload, 1) := by decide +kernel
theorem dL_law_2369 : decode code 2369 = .ok (.aload_n 3, 1) := by decide +kernel
theorem dL_law_2370 : decode code 2370 = .ok (.invokestatic 298, 3) := by decide +kernel
theorem dL_law_2373 : decode code 2373 = .ok (.istore 6, 2) := by decide +kernel
theorem dL_law_2375 : decode code 2375 = .ok (.aload_n 2, 1) := by decide +kernel
theorem dL_law_2376 : decode code 2376 = .ok (.aload_n 0, 1) := by decide +kernel
theorem dL_law_2377 : decode code 2377 = .ok (.iload 5, 2) := by decide +kernel
theorem dL_law_2379 : decode code 2379 = .ok (.iconst 1, 1) := by decide +kernel
theorem dL_law_2380 : decode code 2380 = .ok (.iadd, 1) := by decide +kernel
theorem dL_law_2381 : decode code 2381 = .ok (.iaload, 1) := by decide +kernel
theorem dL_law_2382 : decode code 2382 = .ok (.invokevirtual 300, 3) := by decide +kernel
theorem dL_law_2385 : decode code 2385 = .ok (.istore 7, 2) := by decide +kernel
theorem dL_law_2387 : decode code 2387 = .ok (.aload_n 2, 1) := by decide +kernel
theorem dL_law_2388 : decode code 2388 = .ok (.invokevirtual 149, 3) := by decide +kernel
theorem dL_law_2391 : decode code 2391 = .ok (.iload 6, 2) := by decide +kernel
theorem dL_law_2393 : decode code 2393 = .ok (.if_icmp .eq 5, 3) := by decide +kernel
theorem dL_law_2398 : decode code 2398 = .ok (.iload 6, 2) := by decide +kernel
theorem dL_law_2400 : decode code 2400 = .ok (.ifCond .ne 15, 3) := by decide +kernel
theorem dL_law_2415 : decode code 2415 = .ok (.goto 82, 3) := by decide +kernel
theorem dL_law_2418 : decode code 2418 = .ok (.aload_n 1, 1) := by decide +kernel
theorem dL_law_2419 : decode code 2419 = .ok (.aload_n 3, 1) := by decide +kernel
theorem dL_law_2420 : decode code 2420 = .ok (.invokestatic 301, 3) := by decide +kernel
theorem dL_law_2423 : decode code 2423 = .ok (.istore 6, 2) := by decide +kernel
theorem dL_law_2425 : decode code 2425 = .ok (.aload_n 2, 1) := by decide +kernel
theorem dL_law_2426 : decode code 2426 = .ok (.invokevirtual 303, 3) := by decide +kernel
theorem dL_law_2429 : decode code 2429 = .ok (.istore 7, 2) := by decide +kernel
theorem dL_law_2431 : decode code 2431 = .ok (.aload_n 2, 1) := by decide +kernel
theorem dL_law_2432 : decode code 2432 = .ok (.invokevirtual 149, 3) := by decide +kernel
theorem dL_law_2435 : decode code 2435 = .ok (.iload 6, 2) := by decide +kernel
theorem dL_law_2437 : decode code 2437 = .ok (.if_icmp .eq 5, 3) := by decide +kernel
theorem dL_law_2442 : decode code 2442 = .ok (.iload 6, 2) := by decide +kernel
theorem dL_law_2444 : decode code 2444 = .ok (.ifCond .ne 15, 3) := by decide +kernel
theorem dL_law_2459 : decode code 2459 = .ok (.goto 38, 3) := by decide +kernel
theorem dL_law_2462 : decode code 2462 = .ok (.aload_n 1, 1) := by decide +kernel
theorem dL_law_2463 : decode code 2463 = .ok (.invokevirtual 304, 3) := by decide +kernel
theorem dL_law_2466 : decode code 2466 = .ok (.aload_n 2, 1) := by decide +kernel
theorem dL_law_2467 : decode code 2467 = .ok (.invokevirtual 307, 3) := by decide +kernel
theorem dL_law_2470 : decode code 2470 = .ok (.goto 27, 3) := by decide +kernel
theorem dL_law_2473 : decode code 2473 = .ok (.aload_n 1, 1) := by decide +kernel
theorem dL_law_2474 : decode code 2474 = .ok (.invokestatic 308, 3) := by decide +kernel
theorem dL_law_2477 : decode code 2477 = .ok (.istore 6, 2) := by decide +kernel
theorem dL_law_2479 : decode code 2479 = .ok (.aload_n 2, 1) := by decide +kernel
theorem dL_law_2480 : decode code 2480 = .ok (.invokevirtual 311, 3) := by decide +kernel
theorem dL_law_2483 : decode code 2483 = .ok (.aload_n 2, 1) := by decide +kernel
theorem dL_law_2484 : decode code 2484 = .ok (.invokevirtual 149, 3) := by decide +kernel
theorem dL_law_2487 : decode code 2487 = .ok (.iload 6, 2) := by decide +kernel
theorem dL_law_2489 : decode code 2489 = .ok (.if_icmp .eq 5, 3) := by decide +kernel
theorem dL_law_2494 : decode code 2494 = .ok (.goto 3, 3) := by decide +kernel
theorem dL_law_2497 : decode code 2497 = .ok (.iinc 5 4, 3) := by decide +kernel
theorem dL_law_2500 : decode code 2500 = .ok (.goto (-2472), 3) := by decide +kernel
theorem dL_law_2503 : decode code 2503 = .ok (.iconst 1, 1) := by decide +kernel
theorem dL_law_2504 : decode code 2504 = .ok (.ireturn, 1) := by decide +kernel
theorem gH_addHedge : GoodIn gw (va_wsS RL 143 yL_addHedge (Cond.codeWith yL_addHedge cL_addHedge 6 (some .int) [(0, 12, 15, 13), (0, 12, 19, 15)] :: gw)) := gdSW gw_543 gw_544 gw_66 gw_545
theorem hH_addHedge : yL_addHedge.cls ≠ "java/lang/invoke/MethodHandle" ∧ yL_addHedge.cls ≠ "java/lang/invoke/VarHandle" ∧ (parseMethodDescriptor yL_addHedge.desc).map (fun d => d.parameters.length) = some 5 := ⟨by decide +kernel, by decide +kernel, by decide +kernel⟩
theorem gL_addHedge : GoodIn gw (wsV RL 148 RX10 yX10_addHedge (Cond.code yX10_addHedge cX10_addHedge 4 (some .int) :: gw)) := gdV gw_1706 gw_1707 gw_1708 gw_81 gw_1709
theorem hL_addHedge : yX10_addHedge.cls = RX10 ∧ yX10_addHedge.cls ≠ "java/lang/invoke/MethodHandle" ∧ yX10_addHedge.cls ≠ "java/lang/invoke/VarHandle" ∧ (parseMethodDescriptor yX10_addHedge.desc).map (fun d => d.parameters.length) = some 3 := ⟨rfl, by decide +kernel, by decide +kernel, by decide +kernel⟩
theorem gL_thrown : GoodIn gw (wsV RL 149 RX10 yX10_thrown (Cond.code yX10_thrown cX10_thrown 1 (some .int) :: gw)) := gdV gw_1702 gw_1703 gw_1704 gw_81 gw_1705
theorem hL_thrown : yX10_thrown.cls = RX10 ∧ yX10_thrown.cls ≠ "java/lang/invoke/MethodHandle" ∧ yX10_thrown.cls ≠ "java/lang/invoke/VarHandle" ∧ (parseMethodDescriptor yX10_thrown.desc).map (fun d => d.parameters.length) = some 0 := ⟨rfl, by decide +kernel, by decide +kernel, by decide +kernel⟩
theorem gH_propose : GoodIn gw (va_wsS RL 152 yL_propose (Cond.codeWith yL_propose cL_propose 5 (some .int) [(0, 10, 13, 13), (0, 10, 17, 15)] :: gw)) := gdSW gw_655 gw_656 gw_66 gw_657
theorem hH_propose : yL_propose.cls ≠ "java/lang/invoke/MethodHandle" ∧ yL_propose.cls ≠ "java/lang/invoke/VarHandle" ∧ (parseMethodDescriptor yL_propose.desc).map (fun d => d.parameters.length) = some 4 := ⟨by decide +kernel, by decide +kernel, by decide +kernel⟩
theorem gL_propose : GoodIn gw (wsV RL 155 RX10 yX10_propose (Cond.code yX10_propose cX10_propose 3 (some .int) :: gw)) := gdV gw_1734 gw_1735 gw_1736 gw_81 gw_1737
theorem hL_propose : yX10_propose.cls = RX10 ∧ yX10_propose.cls ≠ "java/lang/invoke/MethodHandle" ∧ yX10_propose.cls ≠ "java/lang/invoke/VarHandle" ∧ (parseMethodDescriptor yX10_propose.desc).map (fun d => d.parameters.length) = some 2 := ⟨rfl, by decide +kernel, by decide +kernel, by decide +kernel⟩
theorem gH_amend : GoodIn gw (va_wsS RL 156 yL_amend (Cond.codeWith yL_amend cL_amend 6 (some .int) [(0, 12, 15, 24), (0, 12, 19, 13), (0, 12, 23, 15)] :: gw)) := gdSW gw_687 gw_688 gw_66 gw_689
theorem hH_amend : yL_amend.cls ≠ "java/lang/invoke/MethodHandle" ∧ yL_amend.cls ≠ "java/lang/invoke/VarHandle" ∧ (parseMethodDescriptor yL_amend.desc).map (fun d => d.parameters.length) = some 5 := ⟨by decide +kernel, by decide +kernel, by decide +kernel⟩
theorem gL_amend : GoodIn gw (wsV RL 158 RX10 yX10_amend (Cond.code yX10_amend cX10_amend 4 (some .int) :: gw)) := gdV gw_1747 gw_1748 gw_1749 gw_81 gw_1750
theorem hL_amend : yX10_amend.cls = RX10 ∧ yX10_amend.cls ≠ "java/lang/invoke/MethodHandle" ∧ yX10_amend.cls ≠ "java/lang/invoke/VarHandle" ∧ (parseMethodDescriptor yX10_amend.desc).map (fun d => d.parameters.length) = some 3 := ⟨rfl, by decide +kernel, by decide +kernel, by decide +kernel⟩
theorem gH_prune : GoodIn gw (va_wsS RL 159 yL_prune (Cond.codeWith yL_prune cL_prune 5 (some .int) [(0, 10, 13, 24), (0, 10, 17, 13)] :: gw)) := gdSW gw_719 gw_720 gw_66 gw_721
theorem hH_prune : yL_prune.cls ≠ "java/lang/invoke/MethodHandle" ∧ yL_prune.cls ≠ "java/lang/invoke/VarHandle" ∧ (parseMethodDescriptor yL_prune.desc).map (fun d => d.parameters.length) = some 4 := ⟨by decide +kernel, by decide +kernel, by decide +kernel⟩
theorem gL_prune : GoodIn gw (wsV RL 161 RX10 yX10_prune (Cond.code yX10_prune cX10_prune 3 (some .int) :: gw)) := gdV gw_1763 gw_1764 gw_1765 gw_81 gw_1766
theorem hL_prune : yX10_prune.cls = RX10 ∧ yX10_prune.cls ≠ "java/lang/invoke/MethodHandle" ∧ yX10_prune.cls ≠ "java/lang/invoke/VarHandle" ∧ (parseMethodDescriptor yX10_prune.desc).map (fun d => d.parameters.length) = some 2 := ⟨rfl, by decide +kernel, by decide +kernel, by decide +kernel⟩
theorem gH_regrow : GoodIn gw (va_wsS RL 162 yL_regrow (Cond.codeWith yL_regrow cL_regrow 4 (some .int) [(0, 9, 12, 24), (0, 9, 15, 15)] :: gw)) := gdSW gw_737 gw_738 gw_66 gw_739
theorem hH_regrow : yL_regrow.cls ≠ "java/lang/invoke/MethodHandle" ∧ yL_regrow.cls ≠ "java/lang/invoke/VarHandle" ∧ (parseMethodDescriptor yL_regrow.desc).map (fun d => d.parameters.length) = some 3 := ⟨by decide +kernel, by decide +kernel, by decide +kernel⟩
theorem gL_regrow : GoodIn gw (wsV RL 165 RX10 yX10_regrow (Cond.code yX10_regrow cX10_regrow 2 (some .int) :: gw)) := gdV gw_1787 gw_1788 gw_1789 gw_81 gw_1790
theorem hL_regrow : yX10_regrow.cls = RX10 ∧ yX10_regrow.cls ≠ "java/lang/invoke/MethodHandle" ∧ yX10_regrow.cls ≠ "java/lang/invoke/VarHandle" ∧ (parseMethodDescriptor yX10_regrow.desc).map (fun d => d.parameters.length) = some 1 := ⟨rfl, by decide +kernel, by decide +kernel, by decide +kernel⟩
theorem gH_vote : GoodIn gw (va_wsS RL 166 yL_vote (Cond.codeWith yL_vote cL_vote 4 (some .int) [(0, 9, 12, 24), (0, 9, 15, 15)] :: gw)) := gdSW gw_758 gw_759 gw_66 gw_760
theorem hH_vote : yL_vote.cls ≠ "java/lang/invoke/MethodHandle" ∧ yL_vote.cls ≠ "java/lang/invoke/VarHandle" ∧ (parseMethodDescriptor yL_vote.desc).map (fun d => d.parameters.length) = some 3 := ⟨by decide +kernel, by decide +kernel, by decide +kernel⟩
theorem gL_vote : GoodIn gw (wsV RL 168 RX10 yX10_vote (Cond.code yX10_vote cX10_vote 2 (some .char) :: gw)) := gdV gw_1804 gw_1805 gw_1806 gw_81 gw_1807
theorem hL_vote : yX10_vote.cls = RX10 ∧ yX10_vote.cls ≠ "java/lang/invoke/MethodHandle" ∧ yX10_vote.cls ≠ "java/lang/invoke/VarHandle" ∧ (parseMethodDescriptor yX10_vote.desc).map (fun d => d.parameters.length) = some 1 := ⟨rfl, by decide +kernel, by decide +kernel, by decide +kernel⟩
theorem gV_L_X9_passSeason_169 : GoodIn gw (wsV RL 169 RX9 yX9_passSeason (Cond.code yX9_passSeason cX9_passSeason 1 (some .int) :: gw)) := gdV gw_374 gw_375 gw_376 gw_67 gw_377
theorem hV_X9_passSeason : yX9_passSeason.cls = RX9 ∧ yX9_passSeason.cls ≠ "java/lang/invoke/MethodHandle" ∧ yX9_passSeason.cls ≠ "java/lang/invoke/VarHandle" ∧ (parseMethodDescriptor yX9_passSeason.desc).map (fun d => d.parameters.length) = some 0 := ⟨rfl, by decide +kernel, by decide +kernel, by decide +kernel⟩
theorem gL_passSeason : GoodIn gw (wsV RL 172 RX10 yX10_passSeason (Cond.code yX10_passSeason cX10_passSeason 1 (some .int) :: gw)) := gdV gw_1835 gw_1836 gw_1837 gw_81 gw_1838
theorem hL_passSeason : yX10_passSeason.cls = RX10 ∧ yX10_passSeason.cls ≠ "java/lang/invoke/MethodHandle" ∧ yX10_passSeason.cls ≠ "java/lang/invoke/VarHandle" ∧ (parseMethodDescriptor yX10_passSeason.desc).map (fun d => d.parameters.length) = some 0 := ⟨rfl, by decide +kernel, by decide +kernel, by decide +kernel⟩
theorem gV_L_X9_hedgeCount_173 : GoodIn gw (wsV RL 173 RX9 yX9_hedgeCount (Cond.code yX9_hedgeCount cX9_hedgeCount 1 (some .int) :: gw)) := gdV gw_423 gw_424 gw_425 gw_67 gw_426
theorem hV_X9_hedgeCount : yX9_hedgeCount.cls = RX9 ∧ yX9_hedgeCount.cls ≠ "java/lang/invoke/MethodHandle" ∧ yX9_hedgeCount.cls ≠ "java/lang/invoke/VarHandle" ∧ (parseMethodDescriptor yX9_hedgeCount.desc).map (fun d => d.parameters.length) = some 0 := ⟨rfl, by decide +kernel, by decide +kernel, by decide +kernel⟩
theorem gL_hedgeCount : GoodIn gw (wsV RL 176 RX10 yX10_hedgeCount (Cond.code yX10_hedgeCount cX10_hedgeCount 1 (some .int) :: gw)) := gdV gw_1844 gw_1845 gw_1846 gw_81 gw_1847
theorem hL_hedgeCount : yX10_hedgeCount.cls = RX10 ∧ yX10_hedgeCount.cls ≠ "java/lang/invoke/MethodHandle" ∧ yX10_hedgeCount.cls ≠ "java/lang/invoke/VarHandle" ∧ (parseMethodDescriptor yX10_hedgeCount.desc).map (fun d => d.parameters.length) = some 0 := ⟨rfl, by decide +kernel, by decide +kernel, by decide +kernel⟩
theorem gH_leaves : GoodIn gw (va_wsS RL 177 yL_leaves (Cond.codeWith yL_leaves cL_leaves 4 (some .int) [(0, 9, 12, 40)] :: gw)) := gdSW gw_796 gw_797 gw_66 gw_798
theorem hH_leaves : yL_leaves.cls ≠ "java/lang/invoke/MethodHandle" ∧ yL_leaves.cls ≠ "java/lang/invoke/VarHandle" ∧ (parseMethodDescriptor yL_leaves.desc).map (fun d => d.parameters.length) = some 3 := ⟨by decide +kernel, by decide +kernel, by decide +kernel⟩
theorem gL_leaves : GoodIn gw (wsV RL 179 RX10 yX10_leaves (Cond.code yX10_leaves cX10_leaves 2 (some .int) :: gw)) := gdV gw_1848 gw_1849 gw_1850 gw_81 gw_1851
theorem hL_leaves : yX10_leaves.cls = RX10 ∧ yX10_leaves.cls ≠ "java/lang/invoke/MethodHandle" ∧ yX10_leaves.cls ≠ "java/lang/invoke/VarHandle" ∧ (parseMethodDescriptor yX10_leaves.desc).map (fun d => d.parameters.length) = some 1 := ⟨rfl, by decide +kernel, by decide +kernel, by decide +kernel⟩
theorem gH_thorns : GoodIn gw (va_wsS RL 180 yL_thorns (Cond.codeWith yL_thorns cL_thorns 4 (some .int) [(0, 9, 12, 40)] :: gw)) := gdSW gw_848 gw_849 gw_66 gw_850
theorem hH_thorns : yL_thorns.cls ≠ "java/lang/invoke/MethodHandle" ∧ yL_thorns.cls ≠ "java/lang/invoke/VarHandle" ∧ (parseMethodDescriptor yL_thorns.desc).map (fun d => d.parameters.length) = some 3 := ⟨by decide +kernel, by decide +kernel, by decide +kernel⟩
theorem gL_thorns : GoodIn gw (wsV RL 182 RX10 yX10_thorns (Cond.code yX10_thorns cX10_thorns 2 (some .int) :: gw)) := gdV gw_1856 gw_1857 gw_1858 gw_81 gw_1859
theorem hL_thorns : yX10_thorns.cls = RX10 ∧ yX10_thorns.cls ≠ "java/lang/invoke/MethodHandle" ∧ yX10_thorns.cls ≠ "java/lang/invoke/VarHandle" ∧ (parseMethodDescriptor yX10_thorns.desc).map (fun d => d.parameters.length) = some 1 := ⟨rfl, by decide +kernel, by decide +kernel, by decide +kernel⟩
theorem gH_hedgeAtRank : GoodIn gw (va_wsS RL 183 yL_hedgeAtRank (Cond.codeWith yL_hedgeAtRank cL_hedgeAtRank 4 (some .int) [(0, 9, 12, 24)] :: gw)) := gdSW gw_855 gw_856 gw_66 gw_857
theorem hH_hedgeAtRank : yL_hedgeAtRank.cls ≠ "java/lang/invoke/MethodHandle" ∧ yL_hedgeAtRank.cls ≠ "java/lang/invoke/VarHandle" ∧ (parseMethodDescriptor yL_hedgeAtRank.desc).map (fun d => d.parameters.length) = some 3 := ⟨by decide +kernel, by decide +kernel, by decide +kernel⟩
theorem gL_hedgeAtRank : GoodIn gw (wsV RL 185 RX10 yX10_hedgeAtRank (Cond.code yX10_hedgeAtRank cX10_hedgeAtRank 5 (some .int) :: gw)) := gdV gw_1860 gw_1861 gw_1862 gw_81 gw_1863
theorem hL_hedgeAtRank : yX10_hedgeAtRank.cls = RX10 ∧ yX10_hedgeAtRank.cls ≠ "java/lang/invoke/MethodHandle" ∧ yX10_hedgeAtRank.cls ≠ "java/lang/invoke/VarHandle" ∧ (parseMethodDescriptor yX10_hedgeAtRank.desc).map (fun d => d.parameters.length) = some 1 := ⟨rfl, by decide +kernel, by decide +kernel, by decide +kernel⟩
theorem gH_leavesInFavour : GoodIn gw (va_wsS RL 186 yL_leavesInFavour (Cond.codeWith yL_leavesInFavour cL_leavesInFavour 4 (some .int) [(0, 9, 12, 24)] :: gw)) := gdSW gw_877 gw_878 gw_66 gw_879
theorem hH_leavesInFavour : yL_leavesInFavour.cls ≠ "java/lang/invoke/MethodHandle" ∧ yL_leavesInFavour.cls ≠ "java/lang/invoke/VarHandle" ∧ (parseMethodDescriptor yL_leavesInFavour.desc).map (fun d => d.parameters.length) = some 3 := ⟨by decide +kernel, by decide +kernel, by decide +kernel⟩
theorem gL_leavesInFavour : GoodIn gw (wsV RL 188 RX10 yX10_leavesInFavour (Cond.code yX10_leavesInFavour cX10_leavesInFavour 3 (some .int) :: gw)) := gdV gw_1868 gw_1869 gw_1870 gw_81 gw_1871
theorem hL_leavesInFavour : yX10_leavesInFavour.cls = RX10 ∧ yX10_leavesInFavour.cls ≠ "java/lang/invoke/MethodHandle" ∧ yX10_leavesInFavour.cls ≠ "java/lang/invoke/VarHandle" ∧ (parseMethodDescriptor yX10_leavesInFavour.desc).map (fun d => d.parameters.length) = some 1 := ⟨rfl, by decide +kernel, by decide +kernel, by decide +kernel⟩
theorem gH_wouldVeto : GoodIn gw (va_wsS RL 189 yL_wouldVeto (Cond.codeWith yL_wouldVeto cL_wouldVeto 5 (some .int) [(0, 17, 20, 40), (0, 17, 24, 24)] :: gw)) := gdSW gw_886 gw_887 gw_66 gw_888
theorem hH_wouldVeto : yL_wouldVeto.cls ≠ "java/lang/invoke/MethodHandle" ∧ yL_wouldVeto.cls ≠ "java/lang/invoke/VarHandle" ∧ (parseMethodDescriptor yL_wouldVeto.desc).map (fun d => d.parameters.length) = some 4 := ⟨by decide +kernel, by decide +kernel, by decide +kernel⟩
theorem gL_wouldVeto : GoodIn gw (wsV RL 191 RX10 yX10_wouldVeto (Cond.code yX10_wouldVeto cX10_wouldVeto 4 (some .boolean) :: gw)) := gdV gw_1872 gw_1873 gw_1874 gw_81 gw_1875
theorem hL_wouldVeto : yX10_wouldVeto.cls = RX10 ∧ yX10_wouldVeto.cls ≠ "java/lang/invoke/MethodHandle" ∧ yX10_wouldVeto.cls ≠ "java/lang/invoke/VarHandle" ∧ (parseMethodDescriptor yX10_wouldVeto.desc).map (fun d => d.parameters.length) = some 2 := ⟨rfl, by decide +kernel, by decide +kernel, by decide +kernel⟩
theorem gV_L_X9_motionCount_192 : GoodIn gw (wsV RL 192 RX9 yX9_motionCount (Cond.code yX9_motionCount cX9_motionCount 1 (some .int) :: gw)) := gdV gw_427 gw_428 gw_429 gw_67 gw_430
theorem hV_X9_motionCount : yX9_motionCount.cls = RX9 ∧ yX9_motionCount.cls ≠ "java/lang/invoke/MethodHandle" ∧ yX9_motionCount.cls ≠ "java/lang/invoke/VarHandle" ∧ (parseMethodDescriptor yX9_motionCount.desc).map (fun d => d.parameters.length) = some 0 := ⟨rfl, by decide +kernel, by decide +kernel, by decide +kernel⟩
theorem gL_motionCount : GoodIn gw (wsV RL 195 RX10 yX10_motionCount (Cond.code yX10_motionCount cX10_motionCount 1 (some .int) :: gw)) := gdV gw_1876 gw_1877 gw_1878 gw_81 gw_1879
theorem hL_motionCount : yX10_motionCount.cls = RX10 ∧ yX10_motionCount.cls ≠ "java/lang/invoke/MethodHandle" ∧ yX10_motionCount.cls ≠ "java/lang/invoke/VarHandle" ∧ (parseMethodDescriptor yX10_motionCount.desc).map (fun d => d.parameters.length) = some 0 := ⟨rfl, by decide +kernel, by decide +kernel, by decide +kernel⟩
theorem gH_motionAt : GoodIn gw (va_wsS RL 196 yL_motionAt (Cond.codeWith yL_motionAt cL_motionAt 4 (some .int) [(0, 9, 12, 40)] :: gw)) := gdSW gw_894 gw_895 gw_66 gw_896
theorem hH_motionAt : yL_motionAt.cls ≠ "java/lang/invoke/MethodHandle" ∧ yL_motionAt.cls ≠ "java/lang/invoke/VarHandle" ∧ (parseMethodDescriptor yL_motionAt.desc).map (fun d => d.parameters.length) = some 3 := ⟨by decide +kernel, by decide +kernel, by decide +kernel⟩
theorem gL_motionAt : GoodIn gw (wsV RL 198 RX10 yX10_motionAt (Cond.code yX10_motionAt cX10_motionAt 2 (some .int) :: gw)) := gdV gw_1880 gw_1881 gw_1882 gw_81 gw_1883
theorem hL_motionAt : yX10_motionAt.cls = RX10 ∧ yX10_motionAt.cls ≠ "java/lang/invoke/MethodHandle" ∧ yX10_motionAt.cls ≠ "java/lang/invoke/VarHandle" ∧ (parseMethodDescriptor yX10_motionAt.desc).map (fun d => d.parameters.length) = some 1 := ⟨rfl, by decide +kernel, by decide +kernel, by decide +kernel⟩
theorem gH_tone : GoodIn gw (va_wsS RL 199 yL_tone (Cond.codeWith yL_tone cL_tone 4 (some .int) [(0, 9, 12, 24)] :: gw)) := gdSW gw_906 gw_907 gw_66 gw_908
theorem hH_tone : yL_tone.cls ≠ "java/lang/invoke/MethodHandle" ∧ yL_tone.cls ≠ "java/lang/invoke/VarHandle" ∧ (parseMethodDescriptor yL_tone.desc).map (fun d => d.parameters.length) = some 3 := ⟨by decide +kernel, by decide +kernel, by decide +kernel⟩
theorem gL_tone : GoodIn gw (wsV RL 201 RX10 yX10_tone (Cond.code yX10_tone cX10_tone 2 (some .int) :: gw)) := gdV gw_1884 gw_1885 gw_1886 gw_81 gw_1887
theorem hL_tone : yX10_tone.cls = RX10 ∧ yX10_tone.cls ≠ "java/lang/invoke/MethodHandle" ∧ yX10_tone.cls ≠ "java/lang/invoke/VarHandle" ∧ (parseMethodDescriptor yX10_tone.desc).map (fun d => d.parameters.length) = some 1 := ⟨rfl, by decide +kernel, by decide +kernel, by decide +kernel⟩
theorem gH_weight : GoodIn gw (va_wsS RL 202 yL_weight (Cond.codeWith yL_weight cL_weight 4 (some .int) [(0, 9, 12, 24)] :: gw)) := gdSW gw_913 gw_914 gw_66 gw_915
theorem hH_weight : yL_weight.cls ≠ "java/lang/invoke/MethodHandle" ∧ yL_weight.cls ≠ "java/lang/invoke/VarHandle" ∧ (parseMethodDescriptor yL_weight.desc).map (fun d => d.parameters.length) = some 3 := ⟨by decide +kernel, by decide +kernel, by decide +kernel⟩
theorem gL_weight : GoodIn gw (wsV RL 204 RX10 yX10_weight (Cond.code yX10_weight cX10_weight 2 (some .int) :: gw)) := gdV gw_1892 gw_1893 gw_1894 gw_81 gw_1895
theorem hL_weight : yX10_weight.cls = RX10 ∧ yX10_weight.cls ≠ "java/lang/invoke/MethodHandle" ∧ yX10_weight.cls ≠ "java/lang/invoke/VarHandle" ∧ (parseMethodDescriptor yX10_weight.desc).map (fun d => d.parameters.length) = some 1 := ⟨rfl, by decide +kernel, by decide +kernel, by decide +kernel⟩
theorem gH_parent : GoodIn gw (va_wsS RL 205 yL_parent (Cond.codeWith yL_parent cL_parent 4 (some .int) [(0, 9, 12, 24)] :: gw)) := gdSW gw_920 gw_921 gw_66 gw_922
theorem hH_parent : yL_parent.cls ≠ "java/lang/invoke/MethodHandle" ∧ yL_parent.cls ≠ "java/lang/invoke/VarHandle" ∧ (parseMethodDescriptor yL_parent.desc).map (fun d => d.parameters.length) = some 3 := ⟨by decide +kernel, by decide +kernel, by decide +kernel⟩
theorem gL_parent : GoodIn gw (wsV RL 207 RX10 yX10_parent (Cond.code yX10_parent cX10_parent 3 (some .int) :: gw)) := gdV gw_1896 gw_1897 gw_1898 gw_81 gw_1899
theorem hL_parent : yX10_parent.cls = RX10 ∧ yX10_parent.cls ≠ "java/lang/invoke/MethodHandle" ∧ yX10_parent.cls ≠ "java/lang/invoke/VarHandle" ∧ (parseMethodDescriptor yX10_parent.desc).map (fun d => d.parameters.length) = some 1 := ⟨rfl, by decide +kernel, by decide +kernel, by decide +kernel⟩
theorem gH_depth : GoodIn gw (va_wsS RL 208 yL_depth (Cond.codeWith yL_depth cL_depth 4 (some .int) [(0, 9, 12, 24)] :: gw)) := gdSW gw_928 gw_929 gw_66 gw_930
theorem hH_depth : yL_depth.cls ≠ "java/lang/invoke/MethodHandle" ∧ yL_depth.cls ≠ "java/lang/invoke/VarHandle" ∧ (parseMethodDescriptor yL_depth.desc).map (fun d => d.parameters.length) = some 3 := ⟨by decide +kernel, by decide +kernel, by decide +kernel⟩
theorem gL_depth : GoodIn gw (wsV RL 210 RX10 yX10_depth (Cond.code yX10_depth cX10_depth 2 (some .int) :: gw)) := gdV gw_1900 gw_1901 gw_1902 gw_81 gw_1903
theorem hL_depth : yX10_depth.cls = RX10 ∧ yX10_depth.cls ≠ "java/lang/invoke/MethodHandle" ∧ yX10_depth.cls ≠ "java/lang/invoke/VarHandle" ∧ (parseMethodDescriptor yX10_depth.desc).map (fun d => d.parameters.length) = some 1 := ⟨rfl, by decide +kernel, by decide +kernel, by decide +kernel⟩
theorem gH_isTip : GoodIn gw (va_wsS RL 211 yL_isTip (Cond.codeWith yL_isTip cL_isTip 4 (some .int) [(0, 16, 19, 24)] :: gw)) := gdSW gw_936 gw_937 gw_66 gw_938
theorem hH_isTip : yL_isTip.cls ≠ "java/lang/invoke/MethodHandle" ∧ yL_isTip.cls ≠ "java/lang/invoke/VarHandle" ∧ (parseMethodDescriptor yL_isTip.desc).map (fun d => d.parameters.length) = some 3 := ⟨by decide +kernel, by decide +kernel, by decide +kernel⟩
theorem gL_isTip : GoodIn gw (wsV RL 213 RX10 yX10_isTip (Cond.code yX10_isTip cX10_isTip 2 (some .boolean) :: gw)) := gdV gw_1904 gw_1905 gw_1906 gw_81 gw_1907
theorem hL_isTip : yX10_isTip.cls = RX10 ∧ yX10_isTip.cls ≠ "java/lang/invoke/MethodHandle" ∧ yX10_isTip.cls ≠ "java/lang/invoke/VarHandle" ∧ (parseMethodDescriptor yX10_isTip.desc).map (fun d => d.parameters.length) = some 1 := ⟨rfl, by decide +kernel, by decide +kernel, by decide +kernel⟩
theorem gH_branchSize : GoodIn gw (va_wsS RL 214 yL_branchSize (Cond.codeWith yL_branchSize cL_branchSize 4 (some .int) [(0, 9, 12, 24)] :: gw)) := gdSW gw_944 gw_945 gw_66 gw_946
theorem hH_branchSize : yL_branchSize.cls ≠ "java/lang/invoke/MethodHandle" ∧ yL_branchSize.cls ≠ "java/lang/invoke/VarHandle" ∧ (parseMethodDescriptor yL_branchSize.desc).map (fun d => d.parameters.length) = some 3 := ⟨by decide +kernel, by decide +kernel, by decide +kernel⟩
theorem gL_branchSize : GoodIn gw (wsV RL 216 RX10 yX10_branchSize (Cond.code yX10_branchSize cX10_branchSize 5 (some .int) :: gw)) := gdV gw_1908 gw_1909 gw_1910 gw_81 gw_1911
theorem hL_branchSize : yX10_branchSize.cls = RX10 ∧ yX10_branchSize.cls ≠ "java/lang/invoke/MethodHandle" ∧ yX10_branchSize.cls ≠ "java/lang/invoke/VarHandle" ∧ (parseMethodDescriptor yX10_branchSize.desc).map (fun d => d.parameters.length) = some 1 := ⟨rfl, by decide +kernel, by decide +kernel, by decide +kernel⟩
theorem gH_lastTip : GoodIn gw (va_wsS RL 217 yL_lastTip (Cond.codeWith yL_lastTip cL_lastTip 4 (some .int) [(0, 9, 12, 24)] :: gw)) := gdSW gw_955 gw_956 gw_66 gw_957
theorem hH_lastTip : yL_lastTip.cls ≠ "java/lang/invoke/MethodHandle" ∧ yL_lastTip.cls ≠ "java/lang/invoke/VarHandle" ∧ (parseMethodDescriptor yL_lastTip.desc).map (fun d => d.parameters.length) = some 3 := ⟨by decide +kernel, by decide +kernel, by decide +kernel⟩
theorem gL_lastTip : GoodIn gw (wsV RL 219 RX10 yX10_lastTip (Cond.code yX10_lastTip cX10_lastTip 3 (some .int) :: gw)) := gdV gw_1912 gw_1913 gw_1914 gw_81 gw_1915
theorem hL_lastTip : yX10_lastTip.cls = RX10 ∧ yX10_lastTip.cls ≠ "java/lang/invoke/MethodHandle" ∧ yX10_lastTip.cls ≠ "java/lang/invoke/VarHandle" ∧ (parseMethodDescriptor yX10_lastTip.desc).map (fun d => d.parameters.length) = some 1 := ⟨rfl, by decide +kernel, by decide +kernel, by decide +kernel⟩
theorem gH_motionAtRank : GoodIn gw (va_wsS RL 220 yL_motionAtRank (Cond.codeWith yL_motionAtRank cL_motionAtRank 4 (some .int) [(0, 9, 12, 40)] :: gw)) := gdSW gw_963 gw_964 gw_66 gw_965
theorem hH_motionAtRank : yL_motionAtRank.cls ≠ "java/lang/invoke/MethodHandle" ∧ yL_motionAtRank.cls ≠ "java/lang/invoke/VarHandle" ∧ (parseMethodDescriptor yL_motionAtRank.desc).map (fun d => d.parameters.length) = some 3 := ⟨by decide +kernel, by decide +kernel, by decide +kernel⟩
theorem gL_motionAtRank : GoodIn gw (wsV RL 222 RX10 yX10_motionAtRank (Cond.code yX10_motionAtRank cX10_motionAtRank 5 (some .int) :: gw)) := gdV gw_1916 gw_1917 gw_1918 gw_81 gw_1919
theorem hL_motionAtRank : yX10_motionAtRank.cls = RX10 ∧ yX10_motionAtRank.cls ≠ "java/lang/invoke/MethodHandle" ∧ yX10_motionAtRank.cls ≠ "java/lang/invoke/VarHandle" ∧ (parseMethodDescriptor yX10_motionAtRank.desc).map (fun d => d.parameters.length) = some 1 := ⟨rfl, by decide +kernel, by decide +kernel, by decide +kernel⟩
theorem gH_commonMotion : GoodIn gw (va_wsS RL 223 yL_commonMotion (Cond.codeWith yL_commonMotion cL_commonMotion 5 (some .int) [(0, 10, 13, 24), (0, 10, 17, 86)] :: gw)) := gdSW gw_983 gw_984 gw_66 gw_985
theorem hH_commonMotion : yL_commonMotion.cls ≠ "java/lang/invoke/MethodHandle" ∧ yL_commonMotion.cls ≠ "java/lang/invoke/VarHandle" ∧ (parseMethodDescriptor yL_commonMotion.desc).map (fun d => d.parameters.length) = some 4 := ⟨by decide +kernel, by decide +kernel, by decide +kernel⟩
theorem gL_commonMotion : GoodIn gw (wsV RL 225 RX10 yX10_commonMotion (Cond.code yX10_commonMotion cX10_commonMotion 6 (some .int) :: gw)) := gdV gw_1924 gw_1925 gw_1926 gw_81 gw_1927
theorem hL_commonMotion : yX10_commonMotion.cls = RX10 ∧ yX10_commonMotion.cls ≠ "java/lang/invoke/MethodHandle" ∧ yX10_commonMotion.cls ≠ "java/lang/invoke/VarHandle" ∧ (parseMethodDescriptor yX10_commonMotion.desc).map (fun d => d.parameters.length) = some 2 := ⟨rfl, by decide +kernel, by decide +kernel, by decide +kernel⟩
theorem gH_commonMotionByRows : GoodIn gw (va_wsS RL 226 yL_commonMotionByRows (Cond.codeWith yL_commonMotionByRows cL_commonMotionByRows 5 (some .int) [(0, 10, 13, 24), (0, 10, 17, 86)] :: gw)) := gdSW gw_1012 gw_1013 gw_66 gw_1014
theorem hH_commonMotionByRows : yL_commonMotionByRows.cls ≠ "java/lang/invoke/MethodHandle" ∧ yL_commonMotionByRows.cls ≠ "java/lang/invoke/VarHandle" ∧ (parseMethodDescriptor yL_commonMotionByRows.desc).map (fun d => d.parameters.length) = some 4 := ⟨by decide +kernel, by decide +kernel, by decide +kernel⟩
theorem gL_commonMotionByRows : GoodIn gw (wsV RL 228 RX10 yX10_commonMotionByRows (Cond.code yX10_commonMotionByRows cX10_commonMotionByRows 3 (some .int) :: gw)) := gdV gw_1932 gw_1933 gw_1934 gw_81 gw_1935
theorem hL_commonMotionByRows : yX10_commonMotionByRows.cls = RX10 ∧ yX10_commonMotionByRows.cls ≠ "java/lang/invoke/MethodHandle" ∧ yX10_commonMotionByRows.cls ≠ "java/lang/invoke/VarHandle" ∧ (parseMethodDescriptor yX10_commonMotionByRows.desc).map (fun d => d.parameters.length) = some 2 := ⟨rfl, by decide +kernel, by decide +kernel, by decide +kernel⟩
theorem gH_pathSize : GoodIn gw (va_wsS RL 229 yL_pathSize (Cond.codeWith yL_pathSize cL_pathSize 5 (some .int) [(0, 10, 13, 24), (0, 10, 17, 86)] :: gw)) := gdSW gw_1020 gw_1021 gw_66 gw_1022
theorem hH_pathSize : yL_pathSize.cls ≠ "java/lang/invoke/MethodHandle" ∧ yL_pathSize.cls ≠ "java/lang/invoke/VarHandle" ∧ (parseMethodDescriptor yL_pathSize.desc).map (fun d => d.parameters.length) = some 4 := ⟨by decide +kernel, by decide +kernel, by decide +kernel⟩
theorem gL_pathSize : GoodIn gw (wsV RL 231 RX10 yX10_pathSize (Cond.code yX10_pathSize cX10_pathSize 3 (some .int) :: gw)) := gdV gw_1937 gw_1938 gw_1939 gw_81 gw_1940
theorem hL_pathSize : yX10_pathSize.cls = RX10 ∧ yX10_pathSize.cls ≠ "java/lang/invoke/MethodHandle" ∧ yX10_pathSize.cls ≠ "java/lang/invoke/VarHandle" ∧ (parseMethodDescriptor yX10_pathSize.desc).map (fun d => d.parameters.length) = some 2 := ⟨rfl, by decide +kernel, by decide +kernel, by decide +kernel⟩
theorem gH_longestPath : GoodIn gw (va_wsS RL 232 yL_longestPath (Cond.codeWith yL_longestPath cL_longestPath 4 (some .int) [(0, 9, 12, 24)] :: gw)) := gdSW gw_1028 gw_1029 gw_66 gw_1030
theorem hH_longestPath : yL_longestPath.cls ≠ "java/lang/invoke/MethodHandle" ∧ yL_longestPath.cls ≠ "java/lang/invoke/VarHandle" ∧ (parseMethodDescriptor yL_longestPath.desc).map (fun d => d.parameters.length) = some 3 := ⟨by decide +kernel, by decide +kernel, by decide +kernel⟩
theorem gL_longestPath : GoodIn gw (wsV RL 234 RX10 yX10_longestPath (Cond.code yX10_longestPath cX10_longestPath 6 (some .int) :: gw)) := gdV gw_1945 gw_1946 gw_1947 gw_81 gw_1948
theorem hL_longestPath : yX10_longestPath.cls = RX10 ∧ yX10_longestPath.cls ≠ "java/lang/invoke/MethodHandle" ∧ yX10_longestPath.cls ≠ "java/lang/invoke/VarHandle" ∧ (parseMethodDescriptor yX10_longestPath.desc).map (fun d => d.parameters.length) = some 1 := ⟨rfl, by decide +kernel, by decide +kernel, by decide +kernel⟩
theorem gH_longestPathBySweeps : GoodIn gw (va_wsS RL 235 yL_longestPathBySweeps (Cond.codeWith yL_longestPathBySweeps cL_longestPathBySweeps 4 (some .int) [(0, 9, 12, 24)] :: gw)) := gdSW gw_1036 gw_1037 gw_66 gw_1038
theorem hH_longestPathBySweeps : yL_longestPathBySweeps.cls ≠ "java/lang/invoke/MethodHandle" ∧ yL_longestPathBySweeps.cls ≠ "java/lang/invoke/VarHandle" ∧ (parseMethodDescriptor yL_longestPathBySweeps.desc).map (fun d => d.parameters.length) = some 3 := ⟨by decide +kernel, by decide +kernel, by decide +kernel⟩
theorem gL_longestPathBySweeps : GoodIn gw (wsV RL 237 RX10 yX10_longestPathBySweeps (Cond.code yX10_longestPathBySweeps cX10_longestPathBySweeps 2 (some .int) :: gw)) := gdV gw_1949 gw_1950 gw_1951 gw_81 gw_1952
theorem hL_longestPathBySweeps : yX10_longestPathBySweeps.cls = RX10 ∧ yX10_longestPathBySweeps.cls ≠ "java/lang/invoke/MethodHandle" ∧ yX10_longestPathBySweeps.cls ≠ "java/lang/invoke/VarHandle" ∧ (parseMethodDescriptor yX10_longestPathBySweeps.desc).map (fun d => d.parameters.length) = some 1 := ⟨rfl, by decide +kernel, by decide +kernel, by decide +kernel⟩
theorem gV_L_X9_bestWorth_238 : GoodIn gw (wsV RL 238 RX9 yX9_bestWorth (Cond.code yX9_bestWorth cX9_bestWorth 1 (some .int) :: gw)) := gdV gw_431 gw_432 gw_433 gw_67 gw_434
theorem hV_X9_bestWorth : yX9_bestWorth.cls = RX9 ∧ yX9_bestWorth.cls ≠ "java/lang/invoke/MethodHandle" ∧ yX9_bestWorth.cls ≠ "java/lang/invoke/VarHandle" ∧ (parseMethodDescriptor yX9_bestWorth.desc).map (fun d => d.parameters.length) = some 0 := ⟨rfl, by decide +kernel, by decide +kernel, by decide +kernel⟩
theorem gL_bestWorth : GoodIn gw (wsV RL 241 RX10 yX10_bestWorth (Cond.code yX10_bestWorth cX10_bestWorth 1 (some .int) :: gw)) := gdV gw_1954 gw_1955 gw_1956 gw_81 gw_1957
theorem hL_bestWorth : yX10_bestWorth.cls = RX10 ∧ yX10_bestWorth.cls ≠ "java/lang/invoke/MethodHandle" ∧ yX10_bestWorth.cls ≠ "java/lang/invoke/VarHandle" ∧ (parseMethodDescriptor yX10_bestWorth.desc).map (fun d => d.parameters.length) = some 0 := ⟨rfl, by decide +kernel, by decide +kernel, by decide +kernel⟩
theorem gV_L_X9_bestWorthBySets_242 : GoodIn gw (wsV RL 242 RX9 yX9_bestWorthBySets (Cond.code yX9_bestWorthBySets cX9_bestWorthBySets 1 (some .int) :: gw)) := gdV gw_445 gw_446 gw_447 gw_67 gw_448
theorem hV_X9_bestWorthBySets : yX9_bestWorthBySets.cls = RX9 ∧ yX9_bestWorthBySets.cls ≠ "java/lang/invoke/MethodHandle" ∧ yX9_bestWorthBySets.cls ≠ "java/lang/invoke/VarHandle" ∧ (parseMethodDescriptor yX9_bestWorthBySets.desc).map (fun d => d.parameters.length) = some 0 := ⟨rfl, by decide +kernel, by decide +kernel, by decide +kernel⟩
theorem gL_bestWorthBySets : GoodIn gw (wsV RL 245 RX10 yX10_bestWorthBySets (Cond.code yX10_bestWorthBySets cX10_bestWorthBySets 1 (some .int) :: gw)) := gdV gw_1962 gw_1963 gw_1964 gw_81 gw_1965
theorem hL_bestWorthBySets : yX10_bestWorthBySets.cls = RX10 ∧ yX10_bestWorthBySets.cls ≠ "java/lang/invoke/MethodHandle" ∧ yX10_bestWorthBySets.cls ≠ "java/lang/invoke/VarHandle" ∧ (parseMethodDescriptor yX10_bestWorthBySets.desc).map (fun d => d.parameters.length) = some 0 := ⟨rfl, by decide +kernel, by decide +kernel, by decide +kernel⟩
theorem gV_L_X9_goodSets_246 : GoodIn gw (wsV RL 246 RX9 yX9_goodSets (Cond.code yX9_goodSets cX9_goodSets 1 (some .int) :: gw)) := gdV gw_459 gw_460 gw_461 gw_67 gw_462
theorem hV_X9_goodSets : yX9_goodSets.cls = RX9 ∧ yX9_goodSets.cls ≠ "java/lang/invoke/MethodHandle" ∧ yX9_goodSets.cls ≠ "java/lang/invoke/VarHandle" ∧ (parseMethodDescriptor yX9_goodSets.desc).map (fun d => d.parameters.length) = some 0 := ⟨rfl, by decide +kernel, by decide +kernel, by decide +kernel⟩
theorem gL_goodSets : GoodIn gw (wsV RL 249 RX10 yX10_goodSets (Cond.code yX10_goodSets cX10_goodSets 1 (some .int) :: gw)) := gdV gw_1967 gw_1968 gw_1969 gw_81 gw_1970
theorem hL_goodSets : yX10_goodSets.cls = RX10 ∧ yX10_goodSets.cls ≠ "java/lang/invoke/MethodHandle" ∧ yX10_goodSets.cls ≠ "java/lang/invoke/VarHandle" ∧ (parseMethodDescriptor yX10_goodSets.desc).map (fun d => d.parameters.length) = some 0 := ⟨rfl, by decide +kernel, by decide +kernel, by decide +kernel⟩
theorem gV_L_X9_season_250 : GoodIn gw (wsV RL 250 RX9 yX9_season (Cond.code yX9_season cX9_season 1 (some .int) :: gw)) := gdV gw_467 gw_468 gw_469 gw_67 gw_470
theorem hV_X9_season : yX9_season.cls = RX9 ∧ yX9_season.cls ≠ "java/lang/invoke/MethodHandle" ∧ yX9_season.cls ≠ "java/lang/invoke/VarHandle" ∧ (parseMethodDescriptor yX9_season.desc).map (fun d => d.parameters.length) = some 0 := ⟨rfl, by decide +kernel, by decide +kernel, by decide +kernel⟩
theorem gL_season : GoodIn gw (wsV RL 253 RX10 yX10_season (Cond.code yX10_season cX10_season 1 (some .int) :: gw)) := gdV gw_1971 gw_1972 gw_1973 gw_81 gw_1974
theorem hL_season : yX10_season.cls = RX10 ∧ yX10_season.cls ≠ "java/lang/invoke/MethodHandle" ∧ yX10_season.cls ≠ "java/lang/invoke/VarHandle" ∧ (parseMethodDescriptor yX10_season.desc).map (fun d => d.parameters.length) = some 0 := ⟨rfl, by decide +kernel, by decide +kernel, by decide +kernel⟩
theorem gH_minutesIn : GoodIn gw (va_wsS RL 254 yL_minutesIn (Cond.codeWith yL_minutesIn cL_minutesIn 4 (some .int) [(0, 9, 12, 13)] :: gw)) := gdSW gw_1044 gw_1045 gw_66 gw_1046
theorem hH_minutesIn : yL_minutesIn.cls ≠ "java/lang/invoke/MethodHandle" ∧ yL_minutesIn.cls ≠ "java/lang/invoke/VarHandle" ∧ (parseMethodDescriptor yL_minutesIn.desc).map (fun d => d.parameters.length) = some 3 := ⟨by decide +kernel, by decide +kernel, by decide +kernel⟩
theorem gL_minutesIn : GoodIn gw (wsV RL 256 RX10 yX10_minutesIn (Cond.code yX10_minutesIn cX10_minutesIn 2 (some .int) :: gw)) := gdV gw_1975 gw_1976 gw_1977 gw_81 gw_1978
theorem hL_minutesIn : yX10_minutesIn.cls = RX10 ∧ yX10_minutesIn.cls ≠ "java/lang/invoke/MethodHandle" ∧ yX10_minutesIn.cls ≠ "java/lang/invoke/VarHandle" ∧ (parseMethodDescriptor yX10_minutesIn.desc).map (fun d => d.parameters.length) = some 1 := ⟨rfl, by decide +kernel, by decide +kernel, by decide +kernel⟩
theorem gV_L_X9_adoptedWeight_257 : GoodIn gw (wsV RL 257 RX9 yX9_adoptedWeight (Cond.code yX9_adoptedWeight cX9_adoptedWeight 1 (some .int) :: gw)) := gdV gw_471 gw_472 gw_473 gw_67 gw_474
theorem hV_X9_adoptedWeight : yX9_adoptedWeight.cls = RX9 ∧ yX9_adoptedWeight.cls ≠ "java/lang/invoke/MethodHandle" ∧ yX9_adoptedWeight.cls ≠ "java/lang/invoke/VarHandle" ∧ (parseMethodDescriptor yX9_adoptedWeight.desc).map (fun d => d.parameters.length) = some 0 := ⟨rfl, by decide +kernel, by decide +kernel, by decide +kernel⟩
theorem gL_adoptedWeight : GoodIn gw (wsV RL 260 RX10 yX10_adoptedWeight (Cond.code yX10_adoptedWeight cX10_adoptedWeight 1 (some .int) :: gw)) := gdV gw_1980 gw_1981 gw_1982 gw_81 gw_1983
theorem hL_adoptedWeight : yX10_adoptedWeight.cls = RX10 ∧ yX10_adoptedWeight.cls ≠ "java/lang/invoke/MethodHandle" ∧ yX10_adoptedWeight.cls ≠ "java/lang/invoke/VarHandle" ∧ (parseMethodDescriptor yX10_adoptedWeight.desc).map (fun d => d.parameters.length) = some 0 := ⟨rfl, by decide +kernel, by decide +kernel, by decide +kernel⟩
theorem gV_L_X9_weightTotal_261 : GoodIn gw (wsV RL 261 RX9 yX9_weightTotal (Cond.code yX9_weightTotal cX9_weightTotal 1 (some .int) :: gw)) := gdV gw_475 gw_476 gw_477 gw_67 gw_478
theorem hV_X9_weightTotal : yX9_weightTotal.cls = RX9 ∧ yX9_weightTotal.cls ≠ "java/lang/invoke/MethodHandle" ∧ yX9_weightTotal.cls ≠ "java/lang/invoke/VarHandle" ∧ (parseMethodDescriptor yX9_weightTotal.desc).map (fun d => d.parameters.length) = some 0 := ⟨rfl, by decide +kernel, by decide +kernel, by decide +kernel⟩
theorem gL_weightTotal : GoodIn gw (wsV RL 264 RX10 yX10_weightTotal (Cond.code yX10_weightTotal cX10_weightTotal 3 (some .int) :: gw)) := gdV gw_1984 gw_1985 gw_1986 gw_81 gw_1987
theorem hL_weightTotal : yX10_weightTotal.cls = RX10 ∧ yX10_weightTotal.cls ≠ "java/lang/invoke/MethodHandle" ∧ yX10_weightTotal.cls ≠ "java/lang/invoke/VarHandle" ∧ (parseMethodDescriptor yX10_weightTotal.desc).map (fun d => d.parameters.length) = some 0 := ⟨rfl, by decide +kernel, by decide +kernel, by decide +kernel⟩
theorem gV_L_X9_weightByAccounts_265 : GoodIn gw (wsV RL 265 RX9 yX9_weightByAccounts (Cond.code yX9_weightByAccounts cX9_weightByAccounts 1 (some .int) :: gw)) := gdV gw_483 gw_484 gw_485 gw_67 gw_486
theorem hV_X9_weightByAccounts : yX9_weightByAccounts.cls = RX9 ∧ yX9_weightByAccounts.cls ≠ "java/lang/invoke/MethodHandle" ∧ yX9_weightByAccounts.cls ≠ "java/lang/invoke/VarHandle" ∧ (parseMethodDescriptor yX9_weightByAccounts.desc).map (fun d => d.parameters.length) = some 0 := ⟨rfl, by decide +kernel, by decide +kernel, by decide +kernel⟩
theorem gL_weightByAccounts : GoodIn gw (wsV RL 268 RX10 yX10_weightByAccounts (Cond.code yX10_weightByAccounts cX10_weightByAccounts 1 (some .int) :: gw)) := gdV gw_1988 gw_1989 gw_1990 gw_81 gw_1991
theorem hL_weightByAccounts : yX10_weightByAccounts.cls = RX10 ∧ yX10_weightByAccounts.cls ≠ "java/lang/invoke/MethodHandle" ∧ yX10_weightByAccounts.cls ≠ "java/lang/invoke/VarHandle" ∧ (parseMethodDescriptor yX10_weightByAccounts.desc).map (fun d => d.parameters.length) = some 0 := ⟨rfl, by decide +kernel, by decide +kernel, by decide +kernel⟩
theorem gH_meanLeaves : GoodIn gw (va_wsS RL 269 yL_meanLeaves (Cond.codeWith yL_meanLeaves cL_meanLeaves 3 (some .int) [(0, 7, 10, 107)] :: gw)) := gdSW gw_1054 gw_1055 gw_66 gw_1056
theorem hH_meanLeaves : yL_meanLeaves.cls ≠ "java/lang/invoke/MethodHandle" ∧ yL_meanLeaves.cls ≠ "java/lang/invoke/VarHandle" ∧ (parseMethodDescriptor yL_meanLeaves.desc).map (fun d => d.parameters.length) = some 2 := ⟨by decide +kernel, by decide +kernel, by decide +kernel⟩
theorem gL_meanLeaves : GoodIn gw (wsV RL 272 RX10 yX10_meanLeaves (Cond.code yX10_meanLeaves cX10_meanLeaves 1 (some .double) :: gw)) := gdV gw_1993 gw_1994 gw_1995 gw_81 gw_1996
theorem hL_meanLeaves : yX10_meanLeaves.cls = RX10 ∧ yX10_meanLeaves.cls ≠ "java/lang/invoke/MethodHandle" ∧ yX10_meanLeaves.cls ≠ "java/lang/invoke/VarHandle" ∧ (parseMethodDescriptor yX10_meanLeaves.desc).map (fun d => d.parameters.length) = some 0 := ⟨rfl, by decide +kernel, by decide +kernel, by decide +kernel⟩
theorem gH_carriedShare : GoodIn gw (va_wsS RL 273 yL_carriedShare (Cond.codeWith yL_carriedShare cL_carriedShare 3 (some .int) [(0, 8, 11, 107)] :: gw)) := gdSW gw_1079 gw_1080 gw_66 gw_1081
theorem hH_carriedShare : yL_carriedShare.cls ≠ "java/lang/invoke/MethodHandle" ∧ yL_carriedShare.cls ≠ "java/lang/invoke/VarHandle" ∧ (parseMethodDescriptor yL_carriedShare.desc).map (fun d => d.parameters.length) = some 2 := ⟨by decide +kernel, by decide +kernel, by decide +kernel⟩
theorem gL_carriedShare : GoodIn gw (wsV RL 275 RX10 yX10_carriedShare (Cond.code yX10_carriedShare cX10_carriedShare 1 (some .float) :: gw)) := gdV gw_1997 gw_1998 gw_1999 gw_81 gw_2000
theorem hL_carriedShare : yX10_carriedShare.cls = RX10 ∧ yX10_carriedShare.cls ≠ "java/lang/invoke/MethodHandle" ∧ yX10_carriedShare.cls ≠ "java/lang/invoke/VarHandle" ∧ (parseMethodDescriptor yX10_carriedShare.desc).map (fun d => d.parameters.length) = some 0 := ⟨rfl, by decide +kernel, by decide +kernel, by decide +kernel⟩
theorem gV_L_X9_isConsistent_276 : GoodIn gw (wsV RL 276 RX9 yX9_isConsistent (Cond.code yX9_isConsistent cX9_isConsistent 2 (some .boolean) :: gw)) := gdV gw_491 gw_492 gw_493 gw_67 gw_494
theorem hV_X9_isConsistent : yX9_isConsistent.cls = RX9 ∧ yX9_isConsistent.cls ≠ "java/lang/invoke/MethodHandle" ∧ yX9_isConsistent.cls ≠ "java/lang/invoke/VarHandle" ∧ (parseMethodDescriptor yX9_isConsistent.desc).map (fun d => d.parameters.length) = some 0 := ⟨rfl, by decide +kernel, by decide +kernel, by decide +kernel⟩
theorem gL_isConsistent : GoodIn gw (wsV RL 280 RX10 yX10_isConsistent (Cond.code yX10_isConsistent cX10_isConsistent 1 (some .boolean) :: gw)) := gdV gw_2001 gw_2002 gw_2003 gw_81 gw_2004
theorem hL_isConsistent : yX10_isConsistent.cls = RX10 ∧ yX10_isConsistent.cls ≠ "java/lang/invoke/MethodHandle" ∧ yX10_isConsistent.cls ≠ "java/lang/invoke/VarHandle" ∧ (parseMethodDescriptor yX10_isConsistent.desc).map (fun d => d.parameters.length) = some 0 := ⟨rfl, by decide +kernel, by decide +kernel, by decide +kernel⟩
theorem gH_append : GoodIn gw (va_wsS RL 281 yL_append (Cond.codeWith yL_append cL_append 4 (some .int) [(0, 9, 12, 15)] :: gw)) := gdSW gw_1087 gw_1088 gw_66 gw_1089
theorem hH_append : yL_append.cls ≠ "java/lang/invoke/MethodHandle" ∧ yL_append.cls ≠ "java/lang/invoke/VarHandle" ∧ (parseMethodDescriptor yL_append.desc).map (fun d => d.parameters.length) = some 3 := ⟨by decide +kernel, by decide +kernel, by decide +kernel⟩
theorem gL_append : GoodIn gw (wsV RL 284 RX10 yX10_append (Cond.code yX10_append cX10_append 2 (some .int) :: gw)) := gdV gw_2005 gw_2006 gw_2007 gw_81 gw_2008
theorem hL_append : yX10_append.cls = RX10 ∧ yX10_append.cls ≠ "java/lang/invoke/MethodHandle" ∧ yX10_append.cls ≠ "java/lang/invoke/VarHandle" ∧ (parseMethodDescriptor yX10_append.desc).map (fun d => d.parameters.length) = some 1 := ⟨rfl, by decide +kernel, by decide +kernel, by decide +kernel⟩
theorem gH_run : GoodIn gw (va_wsS RL 285 yL_run (Cond.codeWith yL_run cL_run 3 (some .int) [(0, 8, 11, 13), (0, 8, 14, 86)] :: gw)) := gdSW gw_1105 gw_1106 gw_66 gw_1107
theorem hH_run : yL_run.cls ≠ "java/lang/invoke/MethodHandle" ∧ yL_run.cls ≠ "java/lang/invoke/VarHandle" ∧ (parseMethodDescriptor yL_run.desc).map (fun d => d.parameters.length) = some 2 := ⟨by decide +kernel, by decide +kernel, by decide +kernel⟩
theorem gL_run : GoodIn gw (wsV RL 288 RX10 yX10_run (Cond.code yX10_run cX10_run 4 (some .int) :: gw)) := gdV gw_2009 gw_2010 gw_2011 gw_81 gw_2012
theorem hL_run : yX10_run.cls = RX10 ∧ yX10_run.cls ≠ "java/lang/invoke/MethodHandle" ∧ yX10_run.cls ≠ "java/lang/invoke/VarHandle" ∧ (parseMethodDescriptor yX10_run.desc).map (fun d => d.parameters.length) = some 0 := ⟨rfl, by decide +kernel, by decide +kernel, by decide +kernel⟩
theorem gH_errorPosition : GoodIn gw (va_wsS RL 289 yL_errorPosition (Cond.codeWith yL_errorPosition cL_errorPosition 3 (some .int) [(0, 8, 11, 24)] :: gw)) := gdSW gw_1318 gw_1319 gw_66 gw_1320
theorem hH_errorPosition : yL_errorPosition.cls ≠ "java/lang/invoke/MethodHandle" ∧ yL_errorPosition.cls ≠ "java/lang/invoke/VarHandle" ∧ (parseMethodDescriptor yL_errorPosition.desc).map (fun d => d.parameters.length) = some 2 := ⟨by decide +kernel, by decide +kernel, by decide +kernel⟩
theorem gL_errorPosition : GoodIn gw (wsV RL 291 RX10 yX10_errorPosition (Cond.code yX10_errorPosition cX10_errorPosition 1 (some .int) :: gw)) := gdV gw_2055 gw_2056 gw_2057 gw_81 gw_2058
theorem hL_errorPosition : yX10_errorPosition.cls = RX10 ∧ yX10_errorPosition.cls ≠ "java/lang/invoke/MethodHandle" ∧ yX10_errorPosition.cls ≠ "java/lang/invoke/VarHandle" ∧ (parseMethodDescriptor yX10_errorPosition.desc).map (fun d => d.parameters.length) = some 0 := ⟨rfl, by decide +kernel, by decide +kernel, by decide +kernel⟩
theorem gH_failedCommand : GoodIn gw (va_wsS RL 292 yL_failedCommand (Cond.codeWith yL_failedCommand cL_failedCommand 3 (some .int) [(0, 8, 11, 24)] :: gw)) := gdSW gw_1326 gw_1327 gw_66 gw_1328
theorem hH_failedCommand : yL_failedCommand.cls ≠ "java/lang/invoke/MethodHandle" ∧ yL_failedCommand.cls ≠ "java/lang/invoke/VarHandle" ∧ (parseMethodDescriptor yL_failedCommand.desc).map (fun d => d.parameters.length) = some 2 := ⟨by decide +kernel, by decide +kernel, by decide +kernel⟩
theorem gL_failedCommand : GoodIn gw (wsV RL 294 RX10 yX10_failedCommand (Cond.code yX10_failedCommand cX10_failedCommand 1 (some .int) :: gw)) := gdV gw_2059 gw_2060 gw_2061 gw_81 gw_2062
theorem hL_failedCommand : yX10_failedCommand.cls = RX10 ∧ yX10_failedCommand.cls ≠ "java/lang/invoke/MethodHandle" ∧ yX10_failedCommand.cls ≠ "java/lang/invoke/VarHandle" ∧ (parseMethodDescriptor yX10_failedCommand.desc).map (fun d => d.parameters.length) = some 0 := ⟨rfl, by decide +kernel, by decide +kernel, by decide +kernel⟩
theorem gH_writeBranch : GoodIn gw (va_wsS RL 295 yL_writeBranch (Cond.codeWith yL_writeBranch cL_writeBranch 4 (some .int) [(0, 9, 12, 24)] :: gw)) := gdSW gw_1334 gw_1335 gw_66 gw_1336
theorem hH_writeBranch : yL_writeBranch.cls ≠ "java/lang/invoke/MethodHandle" ∧ yL_writeBranch.cls ≠ "java/lang/invoke/VarHandle" ∧ (parseMethodDescriptor yL_writeBranch.desc).map (fun d => d.parameters.length) = some 3 := ⟨by decide +kernel, by decide +kernel, by decide +kernel⟩
theorem gL_writeBranch : GoodIn gw (wsV RL 297 RX10 yX10_writeBranch (Cond.code yX10_writeBranch cX10_writeBranch 5 (some .int) :: gw)) := gdV gw_2063 gw_2064 gw_2065 gw_81 gw_2066
theorem hL_writeBranch : yX10_writeBranch.cls = RX10 ∧ yX10_writeBranch.cls ≠ "java/lang/invoke/MethodHandle" ∧ yX10_writeBranch.cls ≠ "java/lang/invoke/VarHandle" ∧ (parseMethodDescriptor yX10_writeBranch.desc).map (fun d => d.parameters.length) = some 1 := ⟨rfl, by decide +kernel, by decide +kernel, by decide +kernel⟩
theorem gH_outputAt : GoodIn gw (va_wsS RL 298 yL_outputAt (Cond.codeWith yL_outputAt cL_outputAt 4 (some .int) [(0, 9, 12, 40)] :: gw)) := gdSW gw_1579 gw_1580 gw_66 gw_1581
theorem hH_outputAt : yL_outputAt.cls ≠ "java/lang/invoke/MethodHandle" ∧ yL_outputAt.cls ≠ "java/lang/invoke/VarHandle" ∧ (parseMethodDescriptor yL_outputAt.desc).map (fun d => d.parameters.length) = some 3 := ⟨by decide +kernel, by decide +kernel, by decide +kernel⟩
theorem gL_outputAt : GoodIn gw (wsV RL 300 RX10 yX10_outputAt (Cond.code yX10_outputAt cX10_outputAt 2 (some .char) :: gw)) := gdV gw_2083 gw_2084 gw_2085 gw_81 gw_2086
theorem hL_outputAt : yX10_outputAt.cls = RX10 ∧ yX10_outputAt.cls ≠ "java/lang/invoke/MethodHandle" ∧ yX10_outputAt.cls ≠ "java/lang/invoke/VarHandle" ∧ (parseMethodDescriptor yX10_outputAt.desc).map (fun d => d.parameters.length) = some 1 := ⟨rfl, by decide +kernel, by decide +kernel, by decide +kernel⟩
theorem gH_undo : GoodIn gw (va_wsS RL 301 yL_undo (Cond.codeWith yL_undo cL_undo 3 (some .int) [(0, 8, 11, 15)] :: gw)) := gdSW gw_1597 gw_1598 gw_66 gw_1599
theorem hH_undo : yL_undo.cls ≠ "java/lang/invoke/MethodHandle" ∧ yL_undo.cls ≠ "java/lang/invoke/VarHandle" ∧ (parseMethodDescriptor yL_undo.desc).map (fun d => d.parameters.length) = some 2 := ⟨by decide +kernel, by decide +kernel, by decide +kernel⟩
theorem gL_undo : GoodIn gw (wsV RL 303 RX10 yX10_undo (Cond.code yX10_undo cX10_undo 2 (some .int) :: gw)) := gdV gw_2087 gw_2088 gw_2089 gw_81 gw_2090
theorem hL_undo : yX10_undo.cls = RX10 ∧ yX10_undo.cls ≠ "java/lang/invoke/MethodHandle" ∧ yX10_undo.cls ≠ "java/lang/invoke/VarHandle" ∧ (parseMethodDescriptor yX10_undo.desc).map (fun d => d.parameters.length) = some 0 := ⟨rfl, by decide +kernel, by decide +kernel, by decide +kernel⟩
theorem gV_L_X9_save_304 : GoodIn gw (wsV RL 304 RX9 yX9_save (Cond.code yX9_save cX9_save 1 (none) :: gw)) := gdV gw_538 gw_539 gw_540 gw_67 gw_541
theorem hV_X9_save : yX9_save.cls = RX9 ∧ yX9_save.cls ≠ "java/lang/invoke/MethodHandle" ∧ yX9_save.cls ≠ "java/lang/invoke/VarHandle" ∧ (parseMethodDescriptor yX9_save.desc).map (fun d => d.parameters.length) = some 0 := ⟨rfl, by decide +kernel, by decide +kernel, by decide +kernel⟩
theorem gL_save : GoodIn gw (wsV RL 307 RX10 yX10_save (Cond.code yX10_save cX10_save 2 (none) :: gw)) := gdV gw_2091 gw_2092 gw_2093 gw_81 gw_2094
theorem hL_save : yX10_save.cls = RX10 ∧ yX10_save.cls ≠ "java/lang/invoke/MethodHandle" ∧ yX10_save.cls ≠ "java/lang/invoke/VarHandle" ∧ (parseMethodDescriptor yX10_save.desc).map (fun d => d.parameters.length) = some 0 := ⟨rfl, by decide +kernel, by decide +kernel, by decide +kernel⟩
theorem gH_restore : GoodIn gw (va_wsS RL 308 yL_restore (Cond.codeWith yL_restore cL_restore 2 (some .int) [(0, 4, 7, 15)] :: gw)) := gdSW gw_1609 gw_1610 gw_66 gw_1611
theorem hH_restore : yL_restore.cls ≠ "java/lang/invoke/MethodHandle" ∧ yL_restore.cls ≠ "java/lang/invoke/VarHandle" ∧ (parseMethodDescriptor yL_restore.desc).map (fun d => d.parameters.length) = some 1 := ⟨by decide +kernel, by decide +kernel, by decide +kernel⟩
theorem gL_restore : GoodIn gw (wsV RL 311 RX10 yX10_restore (Cond.code yX10_restore cX10_restore 2 (none) :: gw)) := gdV gw_2095 gw_2096 gw_2097 gw_81 gw_2098
theorem hL_restore : yX10_restore.cls = RX10 ∧ yX10_restore.cls ≠ "java/lang/invoke/MethodHandle" ∧ yX10_restore.cls ≠ "java/lang/invoke/VarHandle" ∧ (parseMethodDescriptor yX10_restore.desc).map (fun d => d.parameters.length) = some 0 := ⟨rfl, by decide +kernel, by decide +kernel, by decide +kernel⟩
theorem law_end {p : Program} {l : Launch} {e : Env} {s : State} {m : MethodId} {below : List Frame} {meth : Method} {c : Code} {b : Nat} {xs : Nat → Int32} {D : va_G} {aT : Nat → ClassId} {A : Nat → Prop} {ls : Array Slot} {H : Heap} {locs : List Loc} {cells slots : Nat} (hAe : A = fun q => s.heap.size ≤ q) (C : CxX p c code s #[Value.ref b] m D aT RL) (hml : c.maxLocals = 9) (hr : meth.sig.returnType = ret) (hlocks : meth.locks = false) (hX : va_X b 4 xs s s.heap) (hbl : b < s.heap.size) (hS : va_S A s.heap H locs) (hc : cells ≤ 600006) (hs : slots ≤ 7302048) (hl : lv_has ls 9 [(0, .ref b), (5, .int (nI 0))]) : W p l e room_1 s m #[Value.ref b] below meth c H locs cells slots (lw_Z below #[Value.ref b] s) (F0 m 2497 ls []) := by
  have hx := C.1
  have hb := C.2.1
  have hbA : ¬ A b := by rw [hAe]; exact Nat.not_le.mpr hbl
  refine lv_iinc (v := nI 4) (lv' := [(5, .int (nI 4)), (0, .ref b)]) hx hb dL_law_2497 hl (k := 1) rfl rfl (by decide) rfl (fun ls hl => ?_)
  refine lv_goto (tgt := 28) hx hb dL_law_2500 (by decide) ?_
  refine lv_iload hx hb dL_law_28 (lv_at hl 0 rfl) ?_
  refine lv_aload_n hx hb dL_law_30 rfl (lv_at hl 1 rfl) ?_
  refine va_slen hx hb hX hbl hbA hS dL_law_31 ?_
  refine lv_iconst (v := nI 4) hx hb dL_law_32 (by decide) ?_
  refine lv_isub hx hb dL_law_33 ?_
  refine r_eq (y := nI 0) (by decide) ?_
  refine lv_icmp_gt hx hb (x := nI 4) (y := nI 0) (tgt := 2503) dL_law_34 (by decide) (fun _ => ?_) (fun q => ?_)
  · refine lv_iconst (v := nI 1) hx hb dL_law_2503 (by decide) ?_
    refine va_forget (fun q hq => by have h := hS.2.2 q hq; rw [hAe] at h; exact h) ?_
    refine W.widen (k := 600006) (n := 7302048) hc hs ?_
    exact lw_ret (Drawn.sameBut.refl s.drawn lw_cs) hx hb hr hlocks dL_law_2504
  · exact absurd (by decide) q
