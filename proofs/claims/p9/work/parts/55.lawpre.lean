theorem ex_i {α : Type} {P : α → Prop} {Q : Prop} (h : ∀ a, P a → Q) : (∃ a, P a) → Q := fun q => Exists.elim q h
section CXLW
variable {p : Program} {l : Launch} {e : Env} {R : Room} {s : State} {m : MethodId} {args : Array Value} {below : List Frame} {meth : Method} {c : Code} {H : Heap} {locs : List Loc} {cells slots : Nat} {Q : State → Prop} {cc : ByteArray} {pc : Nat} {ls : Array Slot} {rest : List Value} {D : va_G} {aT : Nat → ClassId} {ad : Nat → Nat} {S : MSt} {Wd : va_W} {A : Nat → Prop} {H0 : Heap} {own : String} {a nL : Nat}
/-- a call of the reference from anywhere -/
theorem cx_runMd (C : CxX p c cc s args m D aT own) (hml : c.maxLocals = nL) (hls : ls.size = nL) (hW : CxB D Wd A s.heap H locs) (hA : ∀ q, s.heap.size ≤ q → A q) {y : MethodName} {b : ByteArray} {L : Nat} {ret : Option FieldType} {fr lo idx n : Nat} {As st : List Value} {Qk : Nat → Array Value → State → Outcome → State → Prop} (hM : ∀ sz, Met l y (Cond.code y b L ret :: gw) (mdR fr lo) (va_Pc (.ref (ad 0) :: As) (mdB1 D aT ad S sz)) (Qk sz) 0 0 (va_A (mdW aT ad S) sz))
    (hT : GoodIn gw (wsV own idx RX10 y (Cond.code y b L ret :: gw))) (hd : y.cls = RX10 ∧ y.cls ≠ "java/lang/invoke/MethodHandle" ∧ y.cls ≠ "java/lang/invoke/VarHandle" ∧ (parseMethodDescriptor y.desc).map (fun d => d.parameters.length) = some n) (hn : As.length = n)
    (hR : fr + 1 ≤ R.frames ∧ 8 + (L + 11) + lo ≤ R.locals) (hcs : cells ≤ R.cells ∧ slots ≤ R.slots) (is : List Nat) (his : is.map (fun i => Wd[i]?) = (mdW aT ad S).map some) (hnd : va_nd is = true)
    (hst : st = As.reverse ++ .ref (ad 0) :: rest) (hw : (rest.map fun v => v.category).sum ≤ 8) (hdg : decode cc pc = .ok (.invokevirtual idx, 3)) : va_Run p l e R s m args below meth c H locs cells slots 0 0 (F0 m pc ls st) rest (Qk H.size (Value.ref (ad 0) :: As).toArray) (va_A (mdW aT ad S) H.size) := by
  obtain ⟨hx, hb, hg, hown, hK⟩ := C
  subst hst
  have hPm : va_P D vwCl (mdW aT ad S) H := hW.1.sub is (cx_fm his)
  exact va_runV (As := As) (rest := rest) ⟨hx, hb, hml, hown, hg⟩ (hM H.size) (cwV n hg hT rfl rfl rfl hd hR) ⟨md_blind _ _, va_recv hK hPm (ci := 13) (q0 := 0) rfl rfl, fun U hU hw => ⟨rfl, by rw [hU], by rw [hU]; exact hPm, va_K.moved hw.alike hK, (hW.2.1.sub is hnd his).weaken (fun _ _ _ _ => trivial)⟩⟩ rfl hn hls rfl (lv_room hw) hdg hcs
section MDK
variable {st : List Value} {Wr : va_W} {a' : Array Value}
theorem cx_mdi {post : Int32 → MSt → Prop} (hr : va_Run p l e R s m args below meth c H locs cells slots 0 0 (F0 m pc ls st) rest (va_Qi post (mdB2 D aT ad S H.size) (va_A (mdW aT ad S) H.size) a') (va_A (mdW aT ad S) H.size)) (hW : CxB D Wd A s.heap H locs) (hA : ∀ q, s.heap.size ≤ q → A q) (is isR : List Nat) (his : is.map (fun i => Wd[i]?) = (mdW aT ad S).map some) (hR : isR.map (fun i => Wd[i]?) = Wr.map some) (hn : va_nd isR = true) (hdis : ∀ i ∈ isR, i ∉ is)
    (kk : ∀ (r : Int32) (S1 : MSt) (H1 : Heap) (locs1 : List Loc), post r S1 → CxB D (Wr ++ mdW aT ad S1) A s.heap H1 locs1 → W p l e R s m args below meth c H1 locs1 cells slots Q (F0 m (pc + 3) ls (.int r :: rest))) : W p l e R s m args below meth c H locs cells slots Q (F0 m pc ls st) := by
  have hF := va_free hW.2.1 hW.2.2 hA is his
  exact va_calli hr hW.2.2 (fun q _ h => hF q h) hF (fun r u t H1 locs1 ht _ hp hB _ hk hS1 => kk r u H1 locs1 hp (cx_back (W1 := mdW aT ad u) hW hA is isR his hR hn hdis ht hB hk hS1))
theorem cx_mdv {post : MSt → Prop} (hr : va_Run p l e R s m args below meth c H locs cells slots 0 0 (F0 m pc ls st) rest (va_Qv post (mdB2 D aT ad S H.size) (va_A (mdW aT ad S) H.size) a') (va_A (mdW aT ad S) H.size)) (hW : CxB D Wd A s.heap H locs) (hA : ∀ q, s.heap.size ≤ q → A q) (is isR : List Nat) (his : is.map (fun i => Wd[i]?) = (mdW aT ad S).map some) (hR : isR.map (fun i => Wd[i]?) = Wr.map some) (hn : va_nd isR = true) (hdis : ∀ i ∈ isR, i ∉ is)
    (kk : ∀ (S1 : MSt) (H1 : Heap) (locs1 : List Loc), post S1 → CxB D (Wr ++ mdW aT ad S1) A s.heap H1 locs1 → W p l e R s m args below meth c H1 locs1 cells slots Q (F0 m (pc + 3) ls rest)) : W p l e R s m args below meth c H locs cells slots Q (F0 m pc ls st) := by
  have hF := va_free hW.2.1 hW.2.2 hA is his
  exact va_callv hr hW.2.2 (fun q _ h => hF q h) hF (fun u t H1 locs1 ht _ hp hB _ hk hS1 => kk u H1 locs1 hp (cx_back (W1 := mdW aT ad u) hW hA is isR his hR hn hdis ht hB hk hS1))
theorem cx_mdd {post : UInt64 → MSt → Prop} (hr : va_Run p l e R s m args below meth c H locs cells slots 0 0 (F0 m pc ls st) rest (va_Qd post (mdB2 D aT ad S H.size) (va_A (mdW aT ad S) H.size) a') (va_A (mdW aT ad S) H.size)) (hW : CxB D Wd A s.heap H locs) (hA : ∀ q, s.heap.size ≤ q → A q) (is isR : List Nat) (his : is.map (fun i => Wd[i]?) = (mdW aT ad S).map some) (hR : isR.map (fun i => Wd[i]?) = Wr.map some) (hn : va_nd isR = true) (hdis : ∀ i ∈ isR, i ∉ is)
    (kk : ∀ (r : UInt64) (S1 : MSt) (H1 : Heap) (locs1 : List Loc), post r S1 → CxB D (Wr ++ mdW aT ad S1) A s.heap H1 locs1 → W p l e R s m args below meth c H1 locs1 cells slots Q (F0 m (pc + 3) ls (.double r :: rest))) : W p l e R s m args below meth c H locs cells slots Q (F0 m pc ls st) := by
  have hF := va_free hW.2.1 hW.2.2 hA is his
  exact va_calld hr hW.2.2 (fun q _ h => hF q h) hF (fun r u t H1 locs1 ht _ hp hB _ hk hS1 => kk r u H1 locs1 hp (cx_back (W1 := mdW aT ad u) hW hA is isR his hR hn hdis ht hB hk hS1))
theorem cx_mdf {post : UInt32 → MSt → Prop} (hr : va_Run p l e R s m args below meth c H locs cells slots 0 0 (F0 m pc ls st) rest (va_Qf post (mdB2 D aT ad S H.size) (va_A (mdW aT ad S) H.size) a') (va_A (mdW aT ad S) H.size)) (hW : CxB D Wd A s.heap H locs) (hA : ∀ q, s.heap.size ≤ q → A q) (is isR : List Nat) (his : is.map (fun i => Wd[i]?) = (mdW aT ad S).map some) (hR : isR.map (fun i => Wd[i]?) = Wr.map some) (hn : va_nd isR = true) (hdis : ∀ i ∈ isR, i ∉ is)
    (kk : ∀ (r : UInt32) (S1 : MSt) (H1 : Heap) (locs1 : List Loc), post r S1 → CxB D (Wr ++ mdW aT ad S1) A s.heap H1 locs1 → W p l e R s m args below meth c H1 locs1 cells slots Q (F0 m (pc + 3) ls (.float r :: rest))) : W p l e R s m args below meth c H locs cells slots Q (F0 m pc ls st) := by
  have hF := va_free hW.2.1 hW.2.2 hA is his
  exact va_callf hr hW.2.2 (fun q _ h => hF q h) hF (fun r u t H1 locs1 ht _ hp hB _ hk hS1 => kk r u H1 locs1 hp (cx_back (W1 := mdW aT ad u) hW hA is isR his hR hn hdis ht hB hk hS1))
theorem cx_mdi2 (C : CxX p c cc s args m D aT own) (hml : c.maxLocals = nL) (hls : ls.size = nL) (hW : CxB D Wd A s.heap H locs) (hA : ∀ q, s.heap.size ≤ q → A q) {y : MethodName} {b : ByteArray} {L : Nat} {ret : FieldType} {post : Int32 → MSt → Prop} {fr lo idx n : Nat} {As : List Value} (hM : MdI l y b L ret fr lo D aT ad (.ref (ad 0) :: As) S post)
    (hT : GoodIn gw (wsV own idx RX10 y (Cond.code y b L (some ret) :: gw))) (hd : y.cls = RX10 ∧ y.cls ≠ "java/lang/invoke/MethodHandle" ∧ y.cls ≠ "java/lang/invoke/VarHandle" ∧ (parseMethodDescriptor y.desc).map (fun d => d.parameters.length) = some n) (hn : As.length = n)
    (hR : fr + 1 ≤ R.frames ∧ 8 + (L + 11) + lo ≤ R.locals) (hcs : cells ≤ R.cells ∧ slots ≤ R.slots) (is : List Nat) (his : is.map (fun i => Wd[i]?) = (mdW aT ad S).map some) (hnd : va_nd is = true)
    (hst : st = As.reverse ++ .ref (ad 0) :: rest) (hw : (rest.map fun v => v.category).sum ≤ 8) (hdg : decode cc pc = .ok (.invokevirtual idx, 3)) (isR : List Nat) (hRr : isR.map (fun i => Wd[i]?) = Wr.map some) (hn2 : va_nd isR = true) (hdis : ∀ i ∈ isR, i ∉ is)
    (kk : ∀ (r : Int32) (S1 : MSt) (H1 : Heap) (locs1 : List Loc), post r S1 → CxB D (Wr ++ mdW aT ad S1) A s.heap H1 locs1 → W p l e R s m args below meth c H1 locs1 cells slots Q (F0 m (pc + 3) ls (.int r :: rest))) : W p l e R s m args below meth c H locs cells slots Q (F0 m pc ls st) :=
  cx_mdi (cx_runMd (Qk := fun sz => va_Qi post (mdB2 D aT ad S sz) (va_A (mdW aT ad S) sz)) C hml hls hW hA hM hT hd hn hR hcs is his hnd hst hw hdg) hW hA is isR his hRr hn2 hdis kk
theorem cx_mdv2 (C : CxX p c cc s args m D aT own) (hml : c.maxLocals = nL) (hls : ls.size = nL) (hW : CxB D Wd A s.heap H locs) (hA : ∀ q, s.heap.size ≤ q → A q) {y : MethodName} {b : ByteArray} {L : Nat} {post : MSt → Prop} {fr lo idx n : Nat} {As : List Value} (hM : MdV l y b L fr lo D aT ad (.ref (ad 0) :: As) S post)
    (hT : GoodIn gw (wsV own idx RX10 y (Cond.code y b L (none) :: gw))) (hd : y.cls = RX10 ∧ y.cls ≠ "java/lang/invoke/MethodHandle" ∧ y.cls ≠ "java/lang/invoke/VarHandle" ∧ (parseMethodDescriptor y.desc).map (fun d => d.parameters.length) = some n) (hn : As.length = n)
    (hR : fr + 1 ≤ R.frames ∧ 8 + (L + 11) + lo ≤ R.locals) (hcs : cells ≤ R.cells ∧ slots ≤ R.slots) (is : List Nat) (his : is.map (fun i => Wd[i]?) = (mdW aT ad S).map some) (hnd : va_nd is = true)
    (hst : st = As.reverse ++ .ref (ad 0) :: rest) (hw : (rest.map fun v => v.category).sum ≤ 8) (hdg : decode cc pc = .ok (.invokevirtual idx, 3)) (isR : List Nat) (hRr : isR.map (fun i => Wd[i]?) = Wr.map some) (hn2 : va_nd isR = true) (hdis : ∀ i ∈ isR, i ∉ is)
    (kk : ∀ (S1 : MSt) (H1 : Heap) (locs1 : List Loc), post S1 → CxB D (Wr ++ mdW aT ad S1) A s.heap H1 locs1 → W p l e R s m args below meth c H1 locs1 cells slots Q (F0 m (pc + 3) ls rest)) : W p l e R s m args below meth c H locs cells slots Q (F0 m pc ls st) :=
  cx_mdv (cx_runMd (Qk := fun sz => va_Qv post (mdB2 D aT ad S sz) (va_A (mdW aT ad S) sz)) C hml hls hW hA hM hT hd hn hR hcs is his hnd hst hw hdg) hW hA is isR his hRr hn2 hdis kk
theorem cx_mdd2 (C : CxX p c cc s args m D aT own) (hml : c.maxLocals = nL) (hls : ls.size = nL) (hW : CxB D Wd A s.heap H locs) (hA : ∀ q, s.heap.size ≤ q → A q) {y : MethodName} {b : ByteArray} {L : Nat} {post : UInt64 → MSt → Prop} {fr lo idx n : Nat} {As : List Value} (hM : ∀ sz, Met l y (Cond.code y b L (some .double) :: gw) (mdR fr lo) (va_Pc (.ref (ad 0) :: As) (mdB1 D aT ad S sz)) (va_Qd post (mdB2 D aT ad S sz) (va_A (mdW aT ad S) sz)) 0 0 (va_A (mdW aT ad S) sz))
    (hT : GoodIn gw (wsV own idx RX10 y (Cond.code y b L (some .double) :: gw))) (hd : y.cls = RX10 ∧ y.cls ≠ "java/lang/invoke/MethodHandle" ∧ y.cls ≠ "java/lang/invoke/VarHandle" ∧ (parseMethodDescriptor y.desc).map (fun d => d.parameters.length) = some n) (hn : As.length = n)
    (hR : fr + 1 ≤ R.frames ∧ 8 + (L + 11) + lo ≤ R.locals) (hcs : cells ≤ R.cells ∧ slots ≤ R.slots) (is : List Nat) (his : is.map (fun i => Wd[i]?) = (mdW aT ad S).map some) (hnd : va_nd is = true)
    (hst : st = As.reverse ++ .ref (ad 0) :: rest) (hw : (rest.map fun v => v.category).sum ≤ 8) (hdg : decode cc pc = .ok (.invokevirtual idx, 3)) (isR : List Nat) (hRr : isR.map (fun i => Wd[i]?) = Wr.map some) (hn2 : va_nd isR = true) (hdis : ∀ i ∈ isR, i ∉ is)
    (kk : ∀ (r : UInt64) (S1 : MSt) (H1 : Heap) (locs1 : List Loc), post r S1 → CxB D (Wr ++ mdW aT ad S1) A s.heap H1 locs1 → W p l e R s m args below meth c H1 locs1 cells slots Q (F0 m (pc + 3) ls (.double r :: rest))) : W p l e R s m args below meth c H locs cells slots Q (F0 m pc ls st) :=
  cx_mdd (cx_runMd (Qk := fun sz => va_Qd post (mdB2 D aT ad S sz) (va_A (mdW aT ad S) sz)) C hml hls hW hA hM hT hd hn hR hcs is his hnd hst hw hdg) hW hA is isR his hRr hn2 hdis kk
theorem cx_mdf2 (C : CxX p c cc s args m D aT own) (hml : c.maxLocals = nL) (hls : ls.size = nL) (hW : CxB D Wd A s.heap H locs) (hA : ∀ q, s.heap.size ≤ q → A q) {y : MethodName} {b : ByteArray} {L : Nat} {post : UInt32 → MSt → Prop} {fr lo idx n : Nat} {As : List Value} (hM : ∀ sz, Met l y (Cond.code y b L (some .float) :: gw) (mdR fr lo) (va_Pc (.ref (ad 0) :: As) (mdB1 D aT ad S sz)) (va_Qf post (mdB2 D aT ad S sz) (va_A (mdW aT ad S) sz)) 0 0 (va_A (mdW aT ad S) sz))
    (hT : GoodIn gw (wsV own idx RX10 y (Cond.code y b L (some .float) :: gw))) (hd : y.cls = RX10 ∧ y.cls ≠ "java/lang/invoke/MethodHandle" ∧ y.cls ≠ "java/lang/invoke/VarHandle" ∧ (parseMethodDescriptor y.desc).map (fun d => d.parameters.length) = some n) (hn : As.length = n)
    (hR : fr + 1 ≤ R.frames ∧ 8 + (L + 11) + lo ≤ R.locals) (hcs : cells ≤ R.cells ∧ slots ≤ R.slots) (is : List Nat) (his : is.map (fun i => Wd[i]?) = (mdW aT ad S).map some) (hnd : va_nd is = true)
    (hst : st = As.reverse ++ .ref (ad 0) :: rest) (hw : (rest.map fun v => v.category).sum ≤ 8) (hdg : decode cc pc = .ok (.invokevirtual idx, 3)) (isR : List Nat) (hRr : isR.map (fun i => Wd[i]?) = Wr.map some) (hn2 : va_nd isR = true) (hdis : ∀ i ∈ isR, i ∉ is)
    (kk : ∀ (r : UInt32) (S1 : MSt) (H1 : Heap) (locs1 : List Loc), post r S1 → CxB D (Wr ++ mdW aT ad S1) A s.heap H1 locs1 → W p l e R s m args below meth c H1 locs1 cells slots Q (F0 m (pc + 3) ls (.float r :: rest))) : W p l e R s m args below meth c H locs cells slots Q (F0 m pc ls st) :=
  cx_mdf (cx_runMd (Qk := fun sz => va_Qf post (mdB2 D aT ad S sz) (va_A (mdW aT ad S) sz)) C hml hls hW hA hM hT hd hn hR hcs is his hnd hst hw hdg) hW hA is isR his hRr hn2 hdis kk
end MDK
theorem cx_sld (C : CxX p c cc s args m D aT own) (hW : CxB D Wd A s.heap H locs) {b L k : Nat} {xs : Nat → Int32} (hX : va_X b L xs s s.heap) (hbl : b < s.heap.size) (hbA : ¬ A b) (hk : k < L) (hL : L < 2 ^ 31) (hdg : decode cc pc = .ok (.iaload, 1)) (kk : W p l e R s m args below meth c H locs cells slots Q (F0 m (pc + 1) ls (.int (xs k) :: rest))) : W p l e R s m args below meth c H locs cells slots Q (F0 m pc ls (.int (nI k) :: .ref b :: rest)) := by
  refine va_sld C.1 C.2.1 hX hbl hbA hW.2.2 (vp_in_nI hk hL) hdg ?_
  rw [nI_clamp (by omega)]
  exact kk
end CXLW
section LWM
variable {l : Launch} {y : MethodName} {b : ByteArray} {L : Nat} {ret : FieldType} {fr lo : Nat} {D : va_G} {aT : Nat → ClassId} {ad : Nat → Nat} {As : List Value} {S : MSt}
theorem MdI.imp {post post2 : Int32 → MSt → Prop} (h : MdI l y b L ret fr lo D aT ad As S post) (hi : ∀ r S1, post r S1 → post2 r S1) : MdI l y b L ret fr lo D aT ad As S post2 := by
  intro sz p e ha hc hk s m args below hf happ hP hK
  obtain ⟨k, o, h1, h2, h3, hQ⟩ := h sz p e ha hc hk s m args below hf happ hP hK
  obtain ⟨⟨⟨r, u, e1, e2, e3⟩, e4⟩, e5⟩ := hQ
  exact ⟨k, o, h1, h2, h3, ⟨⟨r, u, e1, hi r u e2, e3⟩, e4⟩, e5⟩
theorem MdV.imp {post post2 : MSt → Prop} (h : MdV l y b L fr lo D aT ad As S post) (hi : ∀ S1, post S1 → post2 S1) : MdV l y b L fr lo D aT ad As S post2 := by
  intro sz p e ha hc hk s m args below hf happ hP hK
  obtain ⟨k, o, h1, h2, h3, hQ⟩ := h sz p e ha hc hk s m args below hf happ hP hK
  obtain ⟨⟨⟨u, e1, e2, e3⟩, e4⟩, e5⟩ := hQ
  exact ⟨k, o, h1, h2, h3, ⟨⟨u, e1, hi u e2, e3⟩, e4⟩, e5⟩
/-- .. that answers a double, a float -/
def MdD (l : Launch) (y : MethodName) (b : ByteArray) (L : Nat) (fr lo : Nat) (D : va_G) (aT : Nat → ClassId) (ad : Nat → Nat) (As : List Value) (S : MSt) (post : UInt64 → MSt → Prop) : Prop :=
  ∀ sz, Met l y (Cond.code y b L (some .double) :: gw) (mdR fr lo) (va_Pc As (mdB1 D aT ad S sz)) (va_Qd post (mdB2 D aT ad S sz) (va_A (mdW aT ad S) sz)) 0 0 (va_A (mdW aT ad S) sz)
def MdF (l : Launch) (y : MethodName) (b : ByteArray) (L : Nat) (fr lo : Nat) (D : va_G) (aT : Nat → ClassId) (ad : Nat → Nat) (As : List Value) (S : MSt) (post : UInt32 → MSt → Prop) : Prop :=
  ∀ sz, Met l y (Cond.code y b L (some .float) :: gw) (mdR fr lo) (va_Pc As (mdB1 D aT ad S sz)) (va_Qf post (mdB2 D aT ad S sz) (va_A (mdW aT ad S) sz)) 0 0 (va_A (mdW aT ad S) sz)
theorem MdD.imp {post post2 : UInt64 → MSt → Prop} (h : MdD l y b L fr lo D aT ad As S post) (hi : ∀ r S1, post r S1 → post2 r S1) : MdD l y b L fr lo D aT ad As S post2 := by
  intro sz p e ha hc hk s m args below hf happ hP hK
  obtain ⟨k, o, h1, h2, h3, hQ⟩ := h sz p e ha hc hk s m args below hf happ hP hK
  obtain ⟨⟨⟨r, u, e1, e2, e3⟩, e4⟩, e5⟩ := hQ
  exact ⟨k, o, h1, h2, h3, ⟨⟨r, u, e1, hi r u e2, e3⟩, e4⟩, e5⟩
theorem MdF.imp {post post2 : UInt32 → MSt → Prop} (h : MdF l y b L fr lo D aT ad As S post) (hi : ∀ r S1, post r S1 → post2 r S1) : MdF l y b L fr lo D aT ad As S post2 := by
  intro sz p e ha hc hk s m args below hf happ hP hK
  obtain ⟨k, o, h1, h2, h3, hQ⟩ := h sz p e ha hc hk s m args below hf happ hP hK
  obtain ⟨⟨⟨r, u, e1, e2, e3⟩, e4⟩, e5⟩ := hQ
  exact ⟨k, o, h1, h2, h3, ⟨⟨r, u, e1, hi r u e2, e3⟩, e4⟩, e5⟩
end LWM
theorem sg0_his (K Tt : va_W) : (sgK [] K).map (fun i => (K ++ Tt)[i]?) = K.map some := sg_his [] K Tt
theorem sg0_hR (K Tt : va_W) : (sgR [] K Tt).map (fun i => (K ++ Tt)[i]?) = Tt.map some := sg_hR [] K Tt
section LWC
variable {p : Program} {l : Launch} {e : Env} {R : Room} {s : State} {m : MethodId} {args : Array Value} {below : List Frame} {meth : Method} {c : Code} {H : Heap} {locs : List Loc} {cells slots : Nat} {Q : State → Prop} {cc : ByteArray} {pc : Nat} {ls : Array Slot} {rest st : List Value} {D : va_G} {aT : Nat → ClassId} {ad : Nat → Nat} {S : MSt} {Tt : va_W} {A : Nat → Prop} {own : String} {nL : Nat} {y : MethodName} {b : ByteArray} {L : Nat} {ret : FieldType} {fr lo idx n : Nat} {As : List Value}
/-- the reference called in a world that begins with it -/
theorem lw_mdi (C : CxX p c cc s args m D aT own) (hml : c.maxLocals = nL) (hls : ls.size = nL) (hW : CxB D (mdW aT ad S ++ Tt) A s.heap H locs) (hA : ∀ q, s.heap.size ≤ q → A q) {post : Int32 → MSt → Prop} (hM : MdI l y b L ret fr lo D aT ad (.ref (ad 0) :: As) S post)
    (hT : GoodIn gw (wsV own idx RX10 y (Cond.code y b L (some ret) :: gw))) (hd : y.cls = RX10 ∧ y.cls ≠ "java/lang/invoke/MethodHandle" ∧ y.cls ≠ "java/lang/invoke/VarHandle" ∧ (parseMethodDescriptor y.desc).map (fun d => d.parameters.length) = some n) (hn : As.length = n)
    (hR : fr + 1 ≤ R.frames ∧ 8 + (L + 11) + lo ≤ R.locals) (hcs : cells ≤ R.cells ∧ slots ≤ R.slots) (hst : st = As.reverse ++ .ref (ad 0) :: rest) (hw : (rest.map fun v => v.category).sum ≤ 8) (hdg : decode cc pc = .ok (.invokevirtual idx, 3))
    (kk : ∀ (r : Int32) (S1 : MSt) (H1 : Heap) (locs1 : List Loc), post r S1 → CxB D (mdW aT ad S1 ++ Tt) A s.heap H1 locs1 → W p l e R s m args below meth c H1 locs1 cells slots Q (F0 m (pc + 3) ls (.int r :: rest))) : W p l e R s m args below meth c H locs cells slots Q (F0 m pc ls st) :=
  cx_mdi2 (Wd := mdW aT ad S ++ Tt) (Wr := Tt) C hml hls hW hA hM hT hd hn hR hcs (sgK [] (mdW aT ad S)) (sg0_his _ Tt) (sg_nd [] _) hst hw hdg (sgR [] (mdW aT ad S) Tt) (sg0_hR _ Tt) (sg_ndR [] _ Tt) (sg_dis [] _ Tt) (fun r S1 H1 l1 hp hW1 => kk r S1 H1 l1 hp (hW1.perm List.perm_append_comm))
theorem lw_mdv (C : CxX p c cc s args m D aT own) (hml : c.maxLocals = nL) (hls : ls.size = nL) (hW : CxB D (mdW aT ad S ++ Tt) A s.heap H locs) (hA : ∀ q, s.heap.size ≤ q → A q) {post : MSt → Prop} (hM : MdV l y b L fr lo D aT ad (.ref (ad 0) :: As) S post)
    (hT : GoodIn gw (wsV own idx RX10 y (Cond.code y b L none :: gw))) (hd : y.cls = RX10 ∧ y.cls ≠ "java/lang/invoke/MethodHandle" ∧ y.cls ≠ "java/lang/invoke/VarHandle" ∧ (parseMethodDescriptor y.desc).map (fun d => d.parameters.length) = some n) (hn : As.length = n)
    (hR : fr + 1 ≤ R.frames ∧ 8 + (L + 11) + lo ≤ R.locals) (hcs : cells ≤ R.cells ∧ slots ≤ R.slots) (hst : st = As.reverse ++ .ref (ad 0) :: rest) (hw : (rest.map fun v => v.category).sum ≤ 8) (hdg : decode cc pc = .ok (.invokevirtual idx, 3))
    (kk : ∀ (S1 : MSt) (H1 : Heap) (locs1 : List Loc), post S1 → CxB D (mdW aT ad S1 ++ Tt) A s.heap H1 locs1 → W p l e R s m args below meth c H1 locs1 cells slots Q (F0 m (pc + 3) ls rest)) : W p l e R s m args below meth c H locs cells slots Q (F0 m pc ls st) :=
  cx_mdv2 (Wd := mdW aT ad S ++ Tt) (Wr := Tt) C hml hls hW hA hM hT hd hn hR hcs (sgK [] (mdW aT ad S)) (sg0_his _ Tt) (sg_nd [] _) hst hw hdg (sgR [] (mdW aT ad S) Tt) (sg0_hR _ Tt) (sg_ndR [] _ Tt) (sg_dis [] _ Tt) (fun S1 H1 l1 hp hW1 => kk S1 H1 l1 hp (hW1.perm List.perm_append_comm))
theorem lw_mdd (C : CxX p c cc s args m D aT own) (hml : c.maxLocals = nL) (hls : ls.size = nL) (hW : CxB D (mdW aT ad S ++ Tt) A s.heap H locs) (hA : ∀ q, s.heap.size ≤ q → A q) {post : UInt64 → MSt → Prop} (hM : MdD l y b L fr lo D aT ad (.ref (ad 0) :: As) S post)
    (hT : GoodIn gw (wsV own idx RX10 y (Cond.code y b L (some .double) :: gw))) (hd : y.cls = RX10 ∧ y.cls ≠ "java/lang/invoke/MethodHandle" ∧ y.cls ≠ "java/lang/invoke/VarHandle" ∧ (parseMethodDescriptor y.desc).map (fun d => d.parameters.length) = some n) (hn : As.length = n)
    (hR : fr + 1 ≤ R.frames ∧ 8 + (L + 11) + lo ≤ R.locals) (hcs : cells ≤ R.cells ∧ slots ≤ R.slots) (hst : st = As.reverse ++ .ref (ad 0) :: rest) (hw : (rest.map fun v => v.category).sum ≤ 8) (hdg : decode cc pc = .ok (.invokevirtual idx, 3))
    (kk : ∀ (r : UInt64) (S1 : MSt) (H1 : Heap) (locs1 : List Loc), post r S1 → CxB D (mdW aT ad S1 ++ Tt) A s.heap H1 locs1 → W p l e R s m args below meth c H1 locs1 cells slots Q (F0 m (pc + 3) ls (.double r :: rest))) : W p l e R s m args below meth c H locs cells slots Q (F0 m pc ls st) :=
  cx_mdd2 (Wd := mdW aT ad S ++ Tt) (Wr := Tt) C hml hls hW hA hM hT hd hn hR hcs (sgK [] (mdW aT ad S)) (sg0_his _ Tt) (sg_nd [] _) hst hw hdg (sgR [] (mdW aT ad S) Tt) (sg0_hR _ Tt) (sg_ndR [] _ Tt) (sg_dis [] _ Tt) (fun r S1 H1 l1 hp hW1 => kk r S1 H1 l1 hp (hW1.perm List.perm_append_comm))
theorem lw_mdf (C : CxX p c cc s args m D aT own) (hml : c.maxLocals = nL) (hls : ls.size = nL) (hW : CxB D (mdW aT ad S ++ Tt) A s.heap H locs) (hA : ∀ q, s.heap.size ≤ q → A q) {post : UInt32 → MSt → Prop} (hM : MdF l y b L fr lo D aT ad (.ref (ad 0) :: As) S post)
    (hT : GoodIn gw (wsV own idx RX10 y (Cond.code y b L (some .float) :: gw))) (hd : y.cls = RX10 ∧ y.cls ≠ "java/lang/invoke/MethodHandle" ∧ y.cls ≠ "java/lang/invoke/VarHandle" ∧ (parseMethodDescriptor y.desc).map (fun d => d.parameters.length) = some n) (hn : As.length = n)
    (hR : fr + 1 ≤ R.frames ∧ 8 + (L + 11) + lo ≤ R.locals) (hcs : cells ≤ R.cells ∧ slots ≤ R.slots) (hst : st = As.reverse ++ .ref (ad 0) :: rest) (hw : (rest.map fun v => v.category).sum ≤ 8) (hdg : decode cc pc = .ok (.invokevirtual idx, 3))
    (kk : ∀ (r : UInt32) (S1 : MSt) (H1 : Heap) (locs1 : List Loc), post r S1 → CxB D (mdW aT ad S1 ++ Tt) A s.heap H1 locs1 → W p l e R s m args below meth c H1 locs1 cells slots Q (F0 m (pc + 3) ls (.float r :: rest))) : W p l e R s m args below meth c H locs cells slots Q (F0 m pc ls st) :=
  cx_mdf2 (Wd := mdW aT ad S ++ Tt) (Wr := Tt) C hml hls hW hA hM hT hd hn hR hcs (sgK [] (mdW aT ad S)) (sg0_his _ Tt) (sg_nd [] _) hst hw hdg (sgR [] (mdW aT ad S) Tt) (sg0_hR _ Tt) (sg_ndR [] _ Tt) (sg_dis [] _ Tt) (fun r S1 H1 l1 hp hW1 => kk r S1 H1 l1 hp (hW1.perm List.perm_append_comm))
end LWC
/-- the law's two arrays -/
def oL (aT : Nat → ClassId) (u0 : Nat) (o : Nat → Int64) : va_W := [(u0, .inl (aT 2, 1, .inr (.inl o)))]
def oD (aT : Nat → ClassId) (u1 : Nat) (q : Nat → UInt64) : va_W := [(u1, .inl (aT 3, 1, .inr (.inr (.inr (.inl q)))))]
def sHb (aT : Nat → ClassId) (h1 : Nat) (AD : Nat → Nat → Nat) (BB : Nat → Nat → Nat → Int32) (NH NM : Nat → Nat) : va_W := [(h1, .inl (aT 5, 9, .inr (.inr (.inr (.inr (fun j => some (AD j 0)))))))] ++ (hisL aT AD BB NH NM 0 ++ (hisL aT AD BB NH NM 1 ++ (hisL aT AD BB NH NM 2 ++ (hisL aT AD BB NH NM 3 ++ (hisL aT AD BB NH NM 4 ++ (hisL aT AD BB NH NM 5 ++ (hisL aT AD BB NH NM 6 ++ (hisL aT AD BB NH NM 7 ++ (hisL aT AD BB NH NM 8)))))))))
def sHa (h0 h1 hc : Nat) : va_W := [(h0, .inr (7, [.ref h1, .int (nI hc)]))]
theorem sH_ab (aT : Nat → ClassId) (h0 h1 hc : Nat) (AD : Nat → Nat → Nat) (BB : Nat → Nat → Nat → Int32) (NH NM : Nat → Nat) : sH aT h0 h1 hc AD BB NH NM = sHa h0 h1 hc ++ sHb aT h1 AD BB NH NM := rfl
/-- the reference's line -/
def LnO (S : MSt) : Prop := ∃ lm, lm ≤ 400 ∧ S 13 25 = nI lm
theorem LnO.of {S S1 : MSt} (h : LnO S) (e : S1 13 25 = S 13 25) : LnO S1 := by
  obtain ⟨lm, h1, h2⟩ := h
  exact ⟨lm, h1, e.trans h2⟩
theorem clf_same {S S1 : MSt} {Bd : Nat} {b vb : Nat → Nat → Int32} {nh nm vh vm : Nat} {sv : Bool} {BB : Nat → Nat → Nat → Int32} {NH NM : Nat → Nat} {hc ln : Nat} {fX : Nat → Int32} {le lf : Int32} (h : ClF S Bd b vb nh nm vh vm sv BB NH NM hc ln fX le lf) (e0 : S1 0 = S 0) (e2 : S1 2 = S 2) (e3 : S1 3 = S 3) (e4 : S1 4 = S 4) (e9 : S1 9 = S 9) (e10 : S1 10 = S 10) (x3 : S1 13 3 = S 13 3) (x5 : S1 13 5 = S 13 5) (x6 : S1 13 6 = S 13 6) (x7 : S1 13 7 = S 13 7) (x10 : S1 13 10 = S 13 10) : ClF S1 Bd b vb nh nm vh vm sv BB NH NM hc ln fX le lf := by
  obtain ⟨g1, g2, g3, g4, g5, g6, g7, g8, g9, g10, g11, g12⟩ := h
  unfold ClF
  rw [e0, e2, e3, e4, x3, x5, x6, x7, x10]
  refine ⟨g1, g2, g3, g4, g5, g6, g7, g8, g9, g10, g11, ?_⟩
  unfold WdOk
  rw [e9, e10]
  exact g12
theorem nI_inj {a b : Nat} (ha : a < 2 ^ 31) (hb : b < 2 ^ 31) (h : nI a = nI b) : a = b := by
  have := congrArg Int32.toNatClampNeg h
  rwa [nI_clamp ha, nI_clamp hb] at this
/-! worlds put into another order -/
theorem pi_A {m d o Wx A L O P S T V X : va_W} (hP : Wx.Perm (X ++ (A ++ (V ++ (S ++ (T ++ (P ++ (L ++ O)))))))) : ((o ++ (X)) ++ (m ++ (d ++ (A ++ (V ++ (S ++ (T ++ (P ++ (L ++ O))))))))).Perm (m ++ (d ++ (o ++ Wx))) := by
  haveI : DecidableEq (Nat × va_E) := fun y z => Classical.propDecidable (y = z)
  refine List.perm_iff_count.mpr (fun w => ?_)
  have h9 := List.perm_iff_count.mp hP w
  simp only [List.count_append] at h9 ⊢
  omega
theorem pj_A {m d o Wx A L O P S T V X : va_W} (hP : Wx.Perm (X ++ (A ++ (V ++ (S ++ (T ++ (P ++ (L ++ O)))))))) : ((X) ++ (m ++ (d ++ (o ++ (A ++ (V ++ (S ++ (T ++ (P ++ (L ++ O)))))))))).Perm (m ++ (d ++ (o ++ Wx))) := by
  haveI : DecidableEq (Nat × va_E) := fun y z => Classical.propDecidable (y = z)
  refine List.perm_iff_count.mpr (fun w => ?_)
  have h9 := List.perm_iff_count.mp hP w
  simp only [List.count_append] at h9 ⊢
  omega
theorem pc_A {A L O P S T V X : va_W} : ((X) ++ (A ++ (V ++ (S ++ (T ++ (P ++ (L ++ O))))))).Perm (X ++ (A ++ (V ++ (S ++ (T ++ (P ++ (L ++ O))))))) := by
  haveI : DecidableEq (Nat × va_E) := fun y z => Classical.propDecidable (y = z)
  refine List.perm_iff_count.mpr (fun w => ?_)
  simp only [List.count_append]
  all_goals omega
theorem pi_B {m d o Wx A L O P S T V X : va_W} (hP : Wx.Perm (X ++ (A ++ (V ++ (S ++ (T ++ (P ++ (L ++ O)))))))) : ((o ++ (X ++ A)) ++ (m ++ (d ++ (V ++ (S ++ (T ++ (P ++ (L ++ O)))))))).Perm (m ++ (d ++ (o ++ Wx))) := by
  haveI : DecidableEq (Nat × va_E) := fun y z => Classical.propDecidable (y = z)
  refine List.perm_iff_count.mpr (fun w => ?_)
  have h9 := List.perm_iff_count.mp hP w
  simp only [List.count_append] at h9 ⊢
  omega
theorem pj_B {m d o Wx A L O P S T V X : va_W} (hP : Wx.Perm (X ++ (A ++ (V ++ (S ++ (T ++ (P ++ (L ++ O)))))))) : ((X ++ A) ++ (m ++ (d ++ (o ++ (V ++ (S ++ (T ++ (P ++ (L ++ O))))))))).Perm (m ++ (d ++ (o ++ Wx))) := by
  haveI : DecidableEq (Nat × va_E) := fun y z => Classical.propDecidable (y = z)
  refine List.perm_iff_count.mpr (fun w => ?_)
  have h9 := List.perm_iff_count.mp hP w
  simp only [List.count_append] at h9 ⊢
  omega
theorem pk_B {m d o Wx A L O P S T V X : va_W} (hP : Wx.Perm (X ++ (A ++ (V ++ (S ++ (T ++ (P ++ (L ++ O)))))))) : ((d ++ (X ++ A)) ++ (m ++ (o ++ (V ++ (S ++ (T ++ (P ++ (L ++ O)))))))).Perm (m ++ (d ++ (o ++ Wx))) := by
  haveI : DecidableEq (Nat × va_E) := fun y z => Classical.propDecidable (y = z)
  refine List.perm_iff_count.mpr (fun w => ?_)
  have h9 := List.perm_iff_count.mp hP w
  simp only [List.count_append] at h9 ⊢
  omega
theorem pc_B {A L O P S T V X : va_W} : ((X ++ A) ++ (V ++ (S ++ (T ++ (P ++ (L ++ O)))))).Perm (X ++ (A ++ (V ++ (S ++ (T ++ (P ++ (L ++ O))))))) := by
  haveI : DecidableEq (Nat × va_E) := fun y z => Classical.propDecidable (y = z)
  refine List.perm_iff_count.mpr (fun w => ?_)
  simp only [List.count_append]
  all_goals omega
theorem pi_C {m d o Wx A L O P S T V X : va_W} (hP : Wx.Perm (X ++ (A ++ (V ++ (S ++ (T ++ (P ++ (L ++ O)))))))) : ((o ++ (X ++ (A ++ S))) ++ (m ++ (d ++ (V ++ (T ++ (P ++ (L ++ O))))))).Perm (m ++ (d ++ (o ++ Wx))) := by
  haveI : DecidableEq (Nat × va_E) := fun y z => Classical.propDecidable (y = z)
  refine List.perm_iff_count.mpr (fun w => ?_)
  have h9 := List.perm_iff_count.mp hP w
  simp only [List.count_append] at h9 ⊢
  omega
theorem pj_C {m d o Wx A L O P S T V X : va_W} (hP : Wx.Perm (X ++ (A ++ (V ++ (S ++ (T ++ (P ++ (L ++ O)))))))) : ((X ++ (A ++ S)) ++ (m ++ (d ++ (o ++ (V ++ (T ++ (P ++ (L ++ O)))))))).Perm (m ++ (d ++ (o ++ Wx))) := by
  haveI : DecidableEq (Nat × va_E) := fun y z => Classical.propDecidable (y = z)
  refine List.perm_iff_count.mpr (fun w => ?_)
  have h9 := List.perm_iff_count.mp hP w
  simp only [List.count_append] at h9 ⊢
  omega
theorem pc_C {A L O P S T V X : va_W} : ((X ++ (A ++ S)) ++ (V ++ (T ++ (P ++ (L ++ O))))).Perm (X ++ (A ++ (V ++ (S ++ (T ++ (P ++ (L ++ O))))))) := by
  haveI : DecidableEq (Nat × va_E) := fun y z => Classical.propDecidable (y = z)
  refine List.perm_iff_count.mpr (fun w => ?_)
  simp only [List.count_append]
  all_goals omega
theorem pi_D {m d o Wx A L O P S T V X : va_W} (hP : Wx.Perm (X ++ (A ++ (V ++ (S ++ (T ++ (P ++ (L ++ O)))))))) : ((o ++ (X ++ (T ++ A))) ++ (m ++ (d ++ (V ++ (S ++ (P ++ (L ++ O))))))).Perm (m ++ (d ++ (o ++ Wx))) := by
  haveI : DecidableEq (Nat × va_E) := fun y z => Classical.propDecidable (y = z)
  refine List.perm_iff_count.mpr (fun w => ?_)
  have h9 := List.perm_iff_count.mp hP w
  simp only [List.count_append] at h9 ⊢
  omega
theorem pj_D {m d o Wx A L O P S T V X : va_W} (hP : Wx.Perm (X ++ (A ++ (V ++ (S ++ (T ++ (P ++ (L ++ O)))))))) : ((X ++ (T ++ A)) ++ (m ++ (d ++ (o ++ (V ++ (S ++ (P ++ (L ++ O)))))))).Perm (m ++ (d ++ (o ++ Wx))) := by
  haveI : DecidableEq (Nat × va_E) := fun y z => Classical.propDecidable (y = z)
  refine List.perm_iff_count.mpr (fun w => ?_)
  have h9 := List.perm_iff_count.mp hP w
  simp only [List.count_append] at h9 ⊢
  omega
theorem pc_D {A L O P S T V X : va_W} : ((X ++ (T ++ A)) ++ (V ++ (S ++ (P ++ (L ++ O))))).Perm (X ++ (A ++ (V ++ (S ++ (T ++ (P ++ (L ++ O))))))) := by
  haveI : DecidableEq (Nat × va_E) := fun y z => Classical.propDecidable (y = z)
  refine List.perm_iff_count.mpr (fun w => ?_)
  simp only [List.count_append]
  all_goals omega
theorem pi_E {m d o Wx A L O P S T V X : va_W} (hP : Wx.Perm (X ++ (A ++ (V ++ (S ++ (T ++ (P ++ (L ++ O)))))))) : ((o ++ (X ++ (A ++ O))) ++ (m ++ (d ++ (V ++ (S ++ (T ++ (P ++ L))))))).Perm (m ++ (d ++ (o ++ Wx))) := by
  haveI : DecidableEq (Nat × va_E) := fun y z => Classical.propDecidable (y = z)
  refine List.perm_iff_count.mpr (fun w => ?_)
  have h9 := List.perm_iff_count.mp hP w
  simp only [List.count_append] at h9 ⊢
  omega
theorem pj_E {m d o Wx A L O P S T V X : va_W} (hP : Wx.Perm (X ++ (A ++ (V ++ (S ++ (T ++ (P ++ (L ++ O)))))))) : ((X ++ (A ++ O)) ++ (m ++ (d ++ (o ++ (V ++ (S ++ (T ++ (P ++ L)))))))).Perm (m ++ (d ++ (o ++ Wx))) := by
  haveI : DecidableEq (Nat × va_E) := fun y z => Classical.propDecidable (y = z)
  refine List.perm_iff_count.mpr (fun w => ?_)
  have h9 := List.perm_iff_count.mp hP w
  simp only [List.count_append] at h9 ⊢
  omega
theorem pc_E {A L O P S T V X : va_W} : ((X ++ (A ++ O)) ++ (V ++ (S ++ (T ++ (P ++ L))))).Perm (X ++ (A ++ (V ++ (S ++ (T ++ (P ++ (L ++ O))))))) := by
  haveI : DecidableEq (Nat × va_E) := fun y z => Classical.propDecidable (y = z)
  refine List.perm_iff_count.mpr (fun w => ?_)
  simp only [List.count_append]
  all_goals omega
theorem pi_F {m d o Wx A L O P S T V X : va_W} (hP : Wx.Perm (X ++ (A ++ (V ++ (S ++ (T ++ (P ++ (L ++ O)))))))) : ((o ++ (X ++ O)) ++ (m ++ (d ++ (A ++ (V ++ (S ++ (T ++ (P ++ L)))))))).Perm (m ++ (d ++ (o ++ Wx))) := by
  haveI : DecidableEq (Nat × va_E) := fun y z => Classical.propDecidable (y = z)
  refine List.perm_iff_count.mpr (fun w => ?_)
  have h9 := List.perm_iff_count.mp hP w
  simp only [List.count_append] at h9 ⊢
  omega
theorem pj_F {m d o Wx A L O P S T V X : va_W} (hP : Wx.Perm (X ++ (A ++ (V ++ (S ++ (T ++ (P ++ (L ++ O)))))))) : ((X ++ O) ++ (m ++ (d ++ (o ++ (A ++ (V ++ (S ++ (T ++ (P ++ L))))))))).Perm (m ++ (d ++ (o ++ Wx))) := by
  haveI : DecidableEq (Nat × va_E) := fun y z => Classical.propDecidable (y = z)
  refine List.perm_iff_count.mpr (fun w => ?_)
  have h9 := List.perm_iff_count.mp hP w
  simp only [List.count_append] at h9 ⊢
  omega
theorem pc_F {A L O P S T V X : va_W} : ((X ++ O) ++ (A ++ (V ++ (S ++ (T ++ (P ++ L)))))).Perm (X ++ (A ++ (V ++ (S ++ (T ++ (P ++ (L ++ O))))))) := by
  haveI : DecidableEq (Nat × va_E) := fun y z => Classical.propDecidable (y = z)
  refine List.perm_iff_count.mpr (fun w => ?_)
  simp only [List.count_append]
  all_goals omega
theorem pi_G {m d o Wx A L O P S T V X : va_W} (hP : Wx.Perm (X ++ (A ++ (V ++ (S ++ (T ++ (P ++ (L ++ O)))))))) : ((o ++ (X ++ P)) ++ (m ++ (d ++ (A ++ (V ++ (S ++ (T ++ (L ++ O)))))))).Perm (m ++ (d ++ (o ++ Wx))) := by
  haveI : DecidableEq (Nat × va_E) := fun y z => Classical.propDecidable (y = z)
  refine List.perm_iff_count.mpr (fun w => ?_)
  have h9 := List.perm_iff_count.mp hP w
  simp only [List.count_append] at h9 ⊢
  omega
theorem pj_G {m d o Wx A L O P S T V X : va_W} (hP : Wx.Perm (X ++ (A ++ (V ++ (S ++ (T ++ (P ++ (L ++ O)))))))) : ((X ++ P) ++ (m ++ (d ++ (o ++ (A ++ (V ++ (S ++ (T ++ (L ++ O))))))))).Perm (m ++ (d ++ (o ++ Wx))) := by
  haveI : DecidableEq (Nat × va_E) := fun y z => Classical.propDecidable (y = z)
  refine List.perm_iff_count.mpr (fun w => ?_)
  have h9 := List.perm_iff_count.mp hP w
  simp only [List.count_append] at h9 ⊢
  omega
theorem pc_G {A L O P S T V X : va_W} : ((X ++ P) ++ (A ++ (V ++ (S ++ (T ++ (L ++ O)))))).Perm (X ++ (A ++ (V ++ (S ++ (T ++ (P ++ (L ++ O))))))) := by
  haveI : DecidableEq (Nat × va_E) := fun y z => Classical.propDecidable (y = z)
  refine List.perm_iff_count.mpr (fun w => ?_)
  simp only [List.count_append]
  all_goals omega
theorem pi_H {m d o Wx A L O P S T V X : va_W} (hP : Wx.Perm (X ++ (A ++ (V ++ (S ++ (T ++ (P ++ (L ++ O)))))))) : ((o ++ (X ++ (A ++ (S ++ (P ++ L))))) ++ (m ++ (d ++ (V ++ (T ++ O))))).Perm (m ++ (d ++ (o ++ Wx))) := by
  haveI : DecidableEq (Nat × va_E) := fun y z => Classical.propDecidable (y = z)
  refine List.perm_iff_count.mpr (fun w => ?_)
  have h9 := List.perm_iff_count.mp hP w
  simp only [List.count_append] at h9 ⊢
  omega
theorem pj_H {m d o Wx A L O P S T V X : va_W} (hP : Wx.Perm (X ++ (A ++ (V ++ (S ++ (T ++ (P ++ (L ++ O)))))))) : ((X ++ (A ++ (S ++ (P ++ L)))) ++ (m ++ (d ++ (o ++ (V ++ (T ++ O)))))).Perm (m ++ (d ++ (o ++ Wx))) := by
  haveI : DecidableEq (Nat × va_E) := fun y z => Classical.propDecidable (y = z)
  refine List.perm_iff_count.mpr (fun w => ?_)
  have h9 := List.perm_iff_count.mp hP w
  simp only [List.count_append] at h9 ⊢
  omega
theorem pc_H {A L O P S T V X : va_W} : ((X ++ (A ++ (S ++ (P ++ L)))) ++ (V ++ (T ++ O))).Perm (X ++ (A ++ (V ++ (S ++ (T ++ (P ++ (L ++ O))))))) := by
  haveI : DecidableEq (Nat × va_E) := fun y z => Classical.propDecidable (y = z)
  refine List.perm_iff_count.mpr (fun w => ?_)
  simp only [List.count_append]
  all_goals omega
theorem pj_I {m d o Wx A L O P T V X g h : va_W} (hP : Wx.Perm (X ++ (A ++ (V ++ ((h ++ g) ++ (T ++ (P ++ (L ++ O)))))))) : ((X ++ (A ++ (h ++ V))) ++ (m ++ (d ++ (o ++ (g ++ (T ++ (P ++ (L ++ O)))))))).Perm (m ++ (d ++ (o ++ Wx))) := by
  haveI : DecidableEq (Nat × va_E) := fun y z => Classical.propDecidable (y = z)
  refine List.perm_iff_count.mpr (fun w => ?_)
  have h9 := List.perm_iff_count.mp hP w
  simp only [List.count_append] at h9 ⊢
  omega
theorem pc_I {A L O P T V X g h : va_W} : ((X ++ (A ++ (h ++ V))) ++ (g ++ (T ++ (P ++ (L ++ O))))).Perm (X ++ (A ++ (V ++ ((h ++ g) ++ (T ++ (P ++ (L ++ O))))))) := by
  haveI : DecidableEq (Nat × va_E) := fun y z => Classical.propDecidable (y = z)
  refine List.perm_iff_count.mpr (fun w => ?_)
  simp only [List.count_append]
  all_goals omega
theorem pi_J {m d o Wx A L O P S T V X : va_W} (hP : Wx.Perm (X ++ (A ++ (V ++ (S ++ (T ++ (P ++ (L ++ O)))))))) : ((o ++ (X ++ (A ++ V))) ++ (m ++ (d ++ (S ++ (T ++ (P ++ (L ++ O))))))).Perm (m ++ (d ++ (o ++ Wx))) := by
  haveI : DecidableEq (Nat × va_E) := fun y z => Classical.propDecidable (y = z)
  refine List.perm_iff_count.mpr (fun w => ?_)
  have h9 := List.perm_iff_count.mp hP w
  simp only [List.count_append] at h9 ⊢
  omega
theorem pj_J {m d o Wx A L O P S T V X : va_W} (hP : Wx.Perm (X ++ (A ++ (V ++ (S ++ (T ++ (P ++ (L ++ O)))))))) : ((X ++ (A ++ V)) ++ (m ++ (d ++ (o ++ (S ++ (T ++ (P ++ (L ++ O)))))))).Perm (m ++ (d ++ (o ++ Wx))) := by
  haveI : DecidableEq (Nat × va_E) := fun y z => Classical.propDecidable (y = z)
  refine List.perm_iff_count.mpr (fun w => ?_)
  have h9 := List.perm_iff_count.mp hP w
  simp only [List.count_append] at h9 ⊢
  omega
theorem pc_J {A L O P S T V X : va_W} : ((X ++ (A ++ V)) ++ (S ++ (T ++ (P ++ (L ++ O))))).Perm (X ++ (A ++ (V ++ (S ++ (T ++ (P ++ (L ++ O))))))) := by
  haveI : DecidableEq (Nat × va_E) := fun y z => Classical.propDecidable (y = z)
  refine List.perm_iff_count.mpr (fun w => ?_)
  simp only [List.count_append]
  all_goals omega
theorem pb_1 {m d o U Y : va_W} : (m ++ (d ++ (o ++ (U ++ Y)))).Perm ((m ++ (d ++ Y)) ++ (o ++ U)) := by
  haveI : DecidableEq (Nat × va_E) := fun y z => Classical.propDecidable (y = z)
  refine List.perm_iff_count.mpr (fun w => ?_)
  simp only [List.count_append]
  all_goals omega
theorem pb_2 {m d o U Y : va_W} : (m ++ (d ++ (o ++ (U ++ Y)))).Perm ((m ++ (d ++ (o ++ Y))) ++ U) := by
  haveI : DecidableEq (Nat × va_E) := fun y z => Classical.propDecidable (y = z)
  refine List.perm_iff_count.mpr (fun w => ?_)
  simp only [List.count_append]
  all_goals omega
theorem pb_3 {m d o U Y : va_W} : (m ++ (d ++ (o ++ (U ++ Y)))).Perm ((m ++ (o ++ Y)) ++ (d ++ U)) := by
  haveI : DecidableEq (Nat × va_E) := fun y z => Classical.propDecidable (y = z)
  refine List.perm_iff_count.mpr (fun w => ?_)
  simp only [List.count_append]
  all_goals omega
/-! what the class does against what the reference does -/
theorem jc_addHedge {S S' : MSt} {x y z rb : Int32} {hc : Nat}  (c0 : (rgB 1 99 x && rgB 0 9 y && rgB 0 9 z) = true) (c1 : hM (S 0) < 6) (h : ((rgB 1 99 x && rgB 0 9 y && rgB 0 9 z) = false ∧ rb = -1 ∧ S' = faiS S 1) ∨ ((rgB 1 99 x && rgB 0 9 y && rgB 0 9 z) = true ∧ (hM (S 0)) = 6 ∧ rb = -1 ∧ S' = faiS S 2) ∨ ((rgB 1 99 x && rgB 0 9 y && rgB 0 9 z) = true ∧ (hM (S 0)) < 6 ∧ rb = nI (hM (S 0)) ∧ S' = chgS S (hedgeF (S 0) (hM (S 0)) x y z) hc)) : rb = nI (hM (S 0)) ∧ S' = chgS S (hedgeF (S 0) (hM (S 0)) x y z) hc := by
  rcases h with ⟨d0, rfl, rfl⟩ | ⟨d0, d1, rfl, rfl⟩ | ⟨d0, d1, rfl, rfl⟩
  · exfalso
    first | omega | (simp_all; done) | grind
  · exfalso
    first | omega | (simp_all; done) | grind
  · exact ⟨rfl, rfl⟩
theorem jx_addHedge {S S' : MSt} {x y z rb r : Int32} {hc : Nat} {E9 : String} (hx : (E9 = "java/lang/IllegalArgumentException" ∧ (rgB 1 99 x && rgB 0 9 y && rgB 0 9 z) = false) ∨ (E9 = "java/lang/IllegalStateException" ∧ (rgB 1 99 x && rgB 0 9 y && rgB 0 9 z) = true ∧ hM (S 0) = 6)) (halt : (E9 = "java/lang/IllegalArgumentException" ∧ r = nI 1) ∨ (E9 = "java/lang/IllegalStateException" ∧ r = nI 2)) (h : ((rgB 1 99 x && rgB 0 9 y && rgB 0 9 z) = false ∧ rb = -1 ∧ S' = faiS S 1) ∨ ((rgB 1 99 x && rgB 0 9 y && rgB 0 9 z) = true ∧ (hM (S 0)) = 6 ∧ rb = -1 ∧ S' = faiS S 2) ∨ ((rgB 1 99 x && rgB 0 9 y && rgB 0 9 z) = true ∧ (hM (S 0)) < 6 ∧ rb = nI (hM (S 0)) ∧ S' = chgS S (hedgeF (S 0) (hM (S 0)) x y z) hc)) : ∃ t, t < 3 ∧ r = nI (t + 1) ∧ S' = faiS S (t + 1) := by
  rcases h with ⟨d0, rfl, rfl⟩ | ⟨d0, d1, rfl, rfl⟩ | ⟨d0, d1, rfl, rfl⟩
  · refine ⟨0, by decide, ?_, rfl⟩
    rcases hx with hx | hx <;> grind
  · refine ⟨1, by decide, ?_, rfl⟩
    rcases hx with hx | hx <;> grind
  · exfalso
    rcases hx with hx | hx <;> grind
theorem jc_propose {S S' : MSt} {x y rb : Int32} {hc : Nat}  (c0 : (rgB 0 9 x && rgB 1 20 y) = true) (c1 : nM (S 0) < 12) (h : ((rgB 0 9 x && rgB 1 20 y) = false ∧ rb = -1 ∧ S' = faiS S 1) ∨ ((rgB 0 9 x && rgB 1 20 y) = true ∧ (nM (S 0)) = 12 ∧ rb = -1 ∧ S' = faiS S 2) ∨ ((rgB 0 9 x && rgB 1 20 y) = true ∧ (nM (S 0)) < 12 ∧ rb = S 0 1 ∧ S' = chgS S (addF (S 0) (nM (S 0)) (-1) x y) hc)) : rb = S 0 1 ∧ S' = chgS S (addF (S 0) (nM (S 0)) (-1) x y) hc := by
  rcases h with ⟨d0, rfl, rfl⟩ | ⟨d0, d1, rfl, rfl⟩ | ⟨d0, d1, rfl, rfl⟩
  · exfalso
    first | omega | (simp_all; done) | grind
  · exfalso
    first | omega | (simp_all; done) | grind
  · exact ⟨rfl, rfl⟩
theorem jx_propose {S S' : MSt} {x y rb r : Int32} {hc : Nat} {E9 : String} (hx : (E9 = "java/lang/IllegalArgumentException" ∧ (rgB 0 9 x && rgB 1 20 y) = false) ∨ (E9 = "java/lang/IllegalStateException" ∧ (rgB 0 9 x && rgB 1 20 y) = true ∧ nM (S 0) = 12)) (halt : (E9 = "java/lang/IllegalArgumentException" ∧ r = nI 1) ∨ (E9 = "java/lang/IllegalStateException" ∧ r = nI 2)) (h : ((rgB 0 9 x && rgB 1 20 y) = false ∧ rb = -1 ∧ S' = faiS S 1) ∨ ((rgB 0 9 x && rgB 1 20 y) = true ∧ (nM (S 0)) = 12 ∧ rb = -1 ∧ S' = faiS S 2) ∨ ((rgB 0 9 x && rgB 1 20 y) = true ∧ (nM (S 0)) < 12 ∧ rb = S 0 1 ∧ S' = chgS S (addF (S 0) (nM (S 0)) (-1) x y) hc)) : ∃ t, t < 3 ∧ r = nI (t + 1) ∧ S' = faiS S (t + 1) := by
  rcases h with ⟨d0, rfl, rfl⟩ | ⟨d0, d1, rfl, rfl⟩ | ⟨d0, d1, rfl, rfl⟩
  · refine ⟨0, by decide, ?_, rfl⟩
    rcases hx with hx | hx <;> grind
  · refine ⟨1, by decide, ?_, rfl⟩
    rcases hx with hx | hx <;> grind
  · exfalso
    rcases hx with hx | hx <;> grind
theorem jc_amend {S S' : MSt} {x y z rb : Int32} {hc : Nat}  (c0 : ∃ q, fnd (fun k => S 0 (29 + 4 * k)) x (nM (S 0)) = some q) (c1 : (rgB 0 9 y && rgB 1 20 z) = true) (c2 : nM (S 0) < 12) (h : (fnd (fun k => S 0 (29 + 4 * k)) x (nM (S 0)) = none ∧ rb = -1 ∧ S' = faiS S 1) ∨ (∃ q, fnd (fun k => S 0 (29 + 4 * k)) x (nM (S 0)) = some q ∧ (rgB 0 9 y && rgB 1 20 z) = false ∧ rb = -1 ∧ S' = faiS S 2) ∨ (∃ q, fnd (fun k => S 0 (29 + 4 * k)) x (nM (S 0)) = some q ∧ (rgB 0 9 y && rgB 1 20 z) = true ∧ (nM (S 0)) = 12 ∧ rb = -1 ∧ S' = faiS S 3) ∨ (∃ q, fnd (fun k => S 0 (29 + 4 * k)) x (nM (S 0)) = some q ∧ (rgB 0 9 y && rgB 1 20 z) = true ∧ (nM (S 0)) < 12 ∧ rb = S 0 1 ∧ S' = chgS S (addF (S 0) (nM (S 0)) x y z) hc)) : rb = S 0 1 ∧ S' = chgS S (addF (S 0) (nM (S 0)) x y z) hc := by
  rcases h with ⟨d0, rfl, rfl⟩ | ⟨q', d0, d1, rfl, rfl⟩ | ⟨q', d0, d1, d2, rfl, rfl⟩ | ⟨q', d0, d1, d2, rfl, rfl⟩
  · exfalso
    first | omega | (simp_all; done) | grind
  · exfalso
    first | omega | (simp_all; done) | grind
  · exfalso
    first | omega | (simp_all; done) | grind
  · exact ⟨rfl, rfl⟩
theorem jx_amend {S S' : MSt} {x y z rb r : Int32} {hc : Nat} {E9 : String} (hx : (E9 = "java/util/NoSuchElementException" ∧ fnd (fun k => S 0 (29 + 4 * k)) x (nM (S 0)) = none) ∨ ((∃ q, fnd (fun k => S 0 (29 + 4 * k)) x (nM (S 0)) = some q) ∧ ((E9 = "java/lang/IllegalArgumentException" ∧ (rgB 0 9 y && rgB 1 20 z) = false) ∨ (E9 = "java/lang/IllegalStateException" ∧ (rgB 0 9 y && rgB 1 20 z) = true ∧ nM (S 0) = 12)))) (halt : (E9 = "java/util/NoSuchElementException" ∧ r = nI 1) ∨ (E9 = "java/lang/IllegalArgumentException" ∧ r = nI 2) ∨ (E9 = "java/lang/IllegalStateException" ∧ r = nI 3)) (h : (fnd (fun k => S 0 (29 + 4 * k)) x (nM (S 0)) = none ∧ rb = -1 ∧ S' = faiS S 1) ∨ (∃ q, fnd (fun k => S 0 (29 + 4 * k)) x (nM (S 0)) = some q ∧ (rgB 0 9 y && rgB 1 20 z) = false ∧ rb = -1 ∧ S' = faiS S 2) ∨ (∃ q, fnd (fun k => S 0 (29 + 4 * k)) x (nM (S 0)) = some q ∧ (rgB 0 9 y && rgB 1 20 z) = true ∧ (nM (S 0)) = 12 ∧ rb = -1 ∧ S' = faiS S 3) ∨ (∃ q, fnd (fun k => S 0 (29 + 4 * k)) x (nM (S 0)) = some q ∧ (rgB 0 9 y && rgB 1 20 z) = true ∧ (nM (S 0)) < 12 ∧ rb = S 0 1 ∧ S' = chgS S (addF (S 0) (nM (S 0)) x y z) hc)) : ∃ t, t < 3 ∧ r = nI (t + 1) ∧ S' = faiS S (t + 1) := by
  rcases h with ⟨d0, rfl, rfl⟩ | ⟨q', d0, d1, rfl, rfl⟩ | ⟨q', d0, d1, d2, rfl, rfl⟩ | ⟨q', d0, d1, d2, rfl, rfl⟩
  · refine ⟨0, by decide, ?_, rfl⟩
    rcases hx with hx | hx <;> grind
  · refine ⟨1, by decide, ?_, rfl⟩
    rcases hx with hx | hx <;> grind
  · refine ⟨2, by decide, ?_, rfl⟩
    rcases hx with hx | hx <;> grind
  · exfalso
    rcases hx with hx | hx <;> grind
theorem jc_prune {S S' : MSt} {x y rb : Int32} {hc : Nat} {q8 v9 : Nat} (c0 : fnd (fun k => S 0 (29 + 4 * k)) x (nM (S 0)) = some q8) (c1 : y = nI v9) (c2 : v9 ≤ 9) (c3 : rgB 0 9 y = true) (h : (fnd (fun k => S 0 (29 + 4 * k)) x (nM (S 0)) = none ∧ rb = -1 ∧ S' = faiS S 1) ∨ (∃ q, fnd (fun k => S 0 (29 + 4 * k)) x (nM (S 0)) = some q ∧ rgB 0 9 y = false ∧ rb = -1 ∧ S' = faiS S 2) ∨ (∃ q v, fnd (fun k => S 0 (29 + 4 * k)) x (nM (S 0)) = some q ∧ y = nI v ∧ v ≤ 9 ∧ rgB 0 9 y = true ∧ rb = nI (prnR (S 0) q v).2 ∧ S' = chgS S (prnR (S 0) q v).1 hc)) : rb = nI (prnR (S 0) q8 v9).2 ∧ S' = chgS S (prnR (S 0) q8 v9).1 hc := by
  rcases h with ⟨d0, rfl, rfl⟩ | ⟨q', d0, d1, rfl, rfl⟩ | ⟨q', v', d0, d1, d2, d3, rfl, rfl⟩
  · exfalso
    first | omega | (simp_all; done) | grind
  · exfalso
    first | omega | (simp_all; done) | grind
  · obtain rfl : q8 = q' := Option.some.inj (c0.symm.trans d0)
    obtain rfl : v9 = v' := nI_inj (by omega) (by omega) (c1.symm.trans d1)
    exact ⟨rfl, rfl⟩
theorem jx_prune {S S' : MSt} {x y rb r : Int32} {hc : Nat} {E9 : String} (hx : (E9 = "java/util/NoSuchElementException" ∧ fnd (fun k => S 0 (29 + 4 * k)) x (nM (S 0)) = none) ∨ ((∃ q, fnd (fun k => S 0 (29 + 4 * k)) x (nM (S 0)) = some q) ∧ E9 = "java/lang/IllegalArgumentException" ∧ rgB 0 9 y = false)) (halt : (E9 = "java/util/NoSuchElementException" ∧ r = nI 1) ∨ (E9 = "java/lang/IllegalArgumentException" ∧ r = nI 2)) (h : (fnd (fun k => S 0 (29 + 4 * k)) x (nM (S 0)) = none ∧ rb = -1 ∧ S' = faiS S 1) ∨ (∃ q, fnd (fun k => S 0 (29 + 4 * k)) x (nM (S 0)) = some q ∧ rgB 0 9 y = false ∧ rb = -1 ∧ S' = faiS S 2) ∨ (∃ q v, fnd (fun k => S 0 (29 + 4 * k)) x (nM (S 0)) = some q ∧ y = nI v ∧ v ≤ 9 ∧ rgB 0 9 y = true ∧ rb = nI (prnR (S 0) q v).2 ∧ S' = chgS S (prnR (S 0) q v).1 hc)) : ∃ t, t < 3 ∧ r = nI (t + 1) ∧ S' = faiS S (t + 1) := by
  rcases h with ⟨d0, rfl, rfl⟩ | ⟨q', d0, d1, rfl, rfl⟩ | ⟨q', v', d0, d1, d2, d3, rfl, rfl⟩
  · refine ⟨0, by decide, ?_, rfl⟩
    rcases hx with hx | hx <;> grind
  · refine ⟨1, by decide, ?_, rfl⟩
    rcases hx with hx | hx <;> grind
  · exfalso
    rcases hx with hx | hx <;> grind
theorem jc_regrow {S S' : MSt} {x rb : Int32} {hc : Nat} {q8 t9 : Nat} (c0 : fnd (fun k => S 0 (29 + 4 * k)) x (nM (S 0)) = some q8) (c1 : nM (S 0) < 12) (c2 : ltp (prM (S 0)) (nM (S 0)) q8 (nM (S 0)) = some t9) (h : (fnd (fun k => S 0 (29 + 4 * k)) x (nM (S 0)) = none ∧ rb = -1 ∧ S' = faiS S 1) ∨ (∃ q, fnd (fun k => S 0 (29 + 4 * k)) x (nM (S 0)) = some q ∧ nM (S 0) = 12 ∧ rb = -1 ∧ S' = faiS S 2) ∨ (∃ q t, fnd (fun k => S 0 (29 + 4 * k)) x (nM (S 0)) = some q ∧ nM (S 0) < 12 ∧ ltp (prM (S 0)) (nM (S 0)) q (nM (S 0)) = some t ∧ rb = S 0 1 ∧ S' = chgS S (addF (S 0) (nM (S 0)) (S 0 (29 + 4 * t)) (nI ((tnM (S 0) t + 1) % 10)) (hlfF (S 0 (29 + 4 * t + 3)))) hc)) : rb = S 0 1 ∧ S' = chgS S (addF (S 0) (nM (S 0)) (S 0 (29 + 4 * t9)) (nI ((tnM (S 0) t9 + 1) % 10)) (hlfF (S 0 (29 + 4 * t9 + 3)))) hc := by
  rcases h with ⟨d0, rfl, rfl⟩ | ⟨q', d0, d1, rfl, rfl⟩ | ⟨q', t', d0, d1, d2, rfl, rfl⟩
  · exfalso
    first | omega | (simp_all; done) | grind
  · exfalso
    first | omega | (simp_all; done) | grind
  · obtain rfl : q8 = q' := Option.some.inj (c0.symm.trans d0)
    obtain rfl : t9 = t' := Option.some.inj (c2.symm.trans d2)
    exact ⟨rfl, rfl⟩
theorem jx_regrow {S S' : MSt} {x rb r : Int32} {hc : Nat} {E9 : String} (hx : (E9 = "java/util/NoSuchElementException" ∧ fnd (fun k => S 0 (29 + 4 * k)) x (nM (S 0)) = none) ∨ ((∃ q, fnd (fun k => S 0 (29 + 4 * k)) x (nM (S 0)) = some q) ∧ E9 = "java/lang/IllegalStateException" ∧ nM (S 0) = 12)) (halt : (E9 = "java/util/NoSuchElementException" ∧ r = nI 1) ∨ (E9 = "java/lang/IllegalStateException" ∧ r = nI 2)) (h : (fnd (fun k => S 0 (29 + 4 * k)) x (nM (S 0)) = none ∧ rb = -1 ∧ S' = faiS S 1) ∨ (∃ q, fnd (fun k => S 0 (29 + 4 * k)) x (nM (S 0)) = some q ∧ nM (S 0) = 12 ∧ rb = -1 ∧ S' = faiS S 2) ∨ (∃ q t, fnd (fun k => S 0 (29 + 4 * k)) x (nM (S 0)) = some q ∧ nM (S 0) < 12 ∧ ltp (prM (S 0)) (nM (S 0)) q (nM (S 0)) = some t ∧ rb = S 0 1 ∧ S' = chgS S (addF (S 0) (nM (S 0)) (S 0 (29 + 4 * t)) (nI ((tnM (S 0) t + 1) % 10)) (hlfF (S 0 (29 + 4 * t + 3)))) hc)) : ∃ t, t < 3 ∧ r = nI (t + 1) ∧ S' = faiS S (t + 1) := by
  rcases h with ⟨d0, rfl, rfl⟩ | ⟨q', d0, d1, rfl, rfl⟩ | ⟨q', t', d0, d1, d2, rfl, rfl⟩
  · refine ⟨0, by decide, ?_, rfl⟩
    rcases hx with hx | hx <;> grind
  · refine ⟨1, by decide, ?_, rfl⟩
    rcases hx with hx | hx <;> grind
  · exfalso
    rcases hx with hx | hx <;> grind
theorem jc_vote {S S' : MSt} {x rb : Int32} {hc : Nat} {q8 : Nat} (c0 : fnd (fun k => S 0 (29 + 4 * k)) x (nM (S 0)) = some q8) (c1 : 0 < hM (S 0)) (c2 : tipB (prM (S 0)) q8 (nM (S 0)) = true) (h : (fnd (fun k => S 0 (29 + 4 * k)) x (nM (S 0)) = none ∧ rb = c16 (-1) ∧ S' = faiS S 1) ∨ (∃ q, fnd (fun k => S 0 (29 + 4 * k)) x (nM (S 0)) = some q ∧ (hM (S 0) = 0 ∨ tipB (prM (S 0)) q (nM (S 0)) = false) ∧ rb = c16 (-1) ∧ S' = faiS S 2) ∨ (∃ q, fnd (fun k => S 0 (29 + 4 * k)) x (nM (S 0)) = some q ∧ 0 < hM (S 0) ∧ tipB (prM (S 0)) q (nM (S 0)) = true ∧ rb = c16 (nI (votC (S 0) q)) ∧ S' = chgS S (votF (S 0) q) hc)) : rb = c16 (nI (votC (S 0) q8)) ∧ S' = chgS S (votF (S 0) q8) hc := by
  rcases h with ⟨d0, rfl, rfl⟩ | ⟨q', d0, d1, rfl, rfl⟩ | ⟨q', d0, d1, d2, rfl, rfl⟩
  · exfalso
    first | omega | (simp_all; done) | grind
  · exfalso
    first | omega | (simp_all; done) | grind
  · obtain rfl : q8 = q' := Option.some.inj (c0.symm.trans d0)
    exact ⟨rfl, rfl⟩
theorem jx_vote {S S' : MSt} {x rb r : Int32} {hc : Nat} {E9 : String} (hx : (E9 = "java/util/NoSuchElementException" ∧ fnd (fun k => S 0 (29 + 4 * k)) x (nM (S 0)) = none) ∨ (∃ q, fnd (fun k => S 0 (29 + 4 * k)) x (nM (S 0)) = some q ∧ E9 = "java/lang/IllegalStateException" ∧ (hM (S 0) = 0 ∨ tipB (prM (S 0)) q (nM (S 0)) = false))) (halt : (E9 = "java/util/NoSuchElementException" ∧ r = nI 1) ∨ (E9 = "java/lang/IllegalStateException" ∧ r = nI 2)) (h : (fnd (fun k => S 0 (29 + 4 * k)) x (nM (S 0)) = none ∧ rb = c16 (-1) ∧ S' = faiS S 1) ∨ (∃ q, fnd (fun k => S 0 (29 + 4 * k)) x (nM (S 0)) = some q ∧ (hM (S 0) = 0 ∨ tipB (prM (S 0)) q (nM (S 0)) = false) ∧ rb = c16 (-1) ∧ S' = faiS S 2) ∨ (∃ q, fnd (fun k => S 0 (29 + 4 * k)) x (nM (S 0)) = some q ∧ 0 < hM (S 0) ∧ tipB (prM (S 0)) q (nM (S 0)) = true ∧ rb = c16 (nI (votC (S 0) q)) ∧ S' = chgS S (votF (S 0) q) hc)) : ∃ t, t < 3 ∧ r = nI (t + 1) ∧ S' = faiS S (t + 1) := by
  rcases h with ⟨d0, rfl, rfl⟩ | ⟨q', d0, d1, rfl, rfl⟩ | ⟨q', d0, d1, d2, rfl, rfl⟩
  · refine ⟨0, by decide, ?_, rfl⟩
    rcases hx with hx | hx <;> grind
  · refine ⟨1, by decide, ?_, rfl⟩
    rcases hx with hx | hx <;> grind
  · exfalso
    rcases hx with hx | hx <;> grind
/-! run: the class's three ends against the reference's -/
theorem rnF_none {m : Nat → Int32} {cd : Nat → Cd} {i : Nat} (h : rnF m cd i = none) : ∀ j, i ≤ j → rnF m cd j = none := by
  intro j hj
  induction j with
  | zero => have e : i = 0 := by omega
            rw [← e]; exact h
  | succ j ih =>
    by_cases e : i = j + 1
    · rw [← e]; exact h
    · rw [rnF, ih (by omega)]
theorem jr_e {S S' : MSt} {ln u hc Bd : Nat} {rb : Int32} (hE : PrE (S 4) ln u) (h : (∃ u k cm, prsR (S 4) ln (S 11) = ((u, true), k, cm) ∧ rb = -1 ∧ S' = runE S ln u k cm) ∨ (∃ u k cm mm t i, prsR (S 4) ln (S 11) = ((u, false), k, cm) ∧ i < k ∧ runF (S 0) cm i = some mm ∧ runF (S 0) cm (i + 1) = none ∧ rb = -1 ∧ S' = runX S ln u k cm mm t i) ∨ (∃ u k cm mm, prsR (S 4) ln (S 11) = ((u, false), k, cm) ∧ runF (S 0) cm k = some mm ∧ CoW mm (Bd + k) ∧ rb = nI k ∧ S' = runC S ln u k cm mm hc)) : ∃ (k : Nat) (cm : Nat → Int32), rb = -1 ∧ S' = runE S ln u k cm := by
  obtain ⟨k0, cm0, e0⟩ := hE (S 11)
  rcases h with ⟨u1, k1, cm1, e1, h1, h2⟩ | ⟨u1, k1, cm1, mm, t, i, e1, h1⟩ | ⟨u1, k1, cm1, mm, e1, h1⟩
  · rw [e0] at e1
    injection e1 with e2 e3
    injection e2 with e4 e5
    subst e4
    exact ⟨k1, cm1, h1, h2⟩
  · rw [e0] at e1
    injection e1 with e2 e3
    injection e2 with e4 e5
    cases e5
  · rw [e0] at e1
    injection e1 with e2 e3
    injection e2 with e4 e5
    cases e5
theorem jr_c {S S' : MSt} {ln k hc Bd : Nat} {rb : Int32} {cd : Nat → Cd} {M1 : Nat → Int32} (hK : PrK (S 4) ln k cd) (hr : rnF (S 0) cd k = some M1) (h : (∃ u k cm, prsR (S 4) ln (S 11) = ((u, true), k, cm) ∧ rb = -1 ∧ S' = runE S ln u k cm) ∨ (∃ u k cm mm t i, prsR (S 4) ln (S 11) = ((u, false), k, cm) ∧ i < k ∧ runF (S 0) cm i = some mm ∧ runF (S 0) cm (i + 1) = none ∧ rb = -1 ∧ S' = runX S ln u k cm mm t i) ∨ (∃ u k cm mm, prsR (S 4) ln (S 11) = ((u, false), k, cm) ∧ runF (S 0) cm k = some mm ∧ CoW mm (Bd + k) ∧ rb = nI k ∧ S' = runC S ln u k cm mm hc)) : ∃ (u : Nat) (cm : Nat → Int32), rb = nI k ∧ S' = runC S ln u k cm M1 hc := by
  obtain ⟨u0, hK⟩ := hK
  obtain ⟨cm0, e0, hc0⟩ := hK (S 11)
  have hrn := rn_run (m := S 0) hc0
  rcases h with ⟨u1, k1, cm1, e1, h1⟩ | ⟨u1, k1, cm1, mm, t, i, e1, h1, h2, h3, h4⟩ | ⟨u1, k1, cm1, mm, e1, h1, h2, h3, h4⟩
  · rw [e0] at e1
    injection e1 with e2 e3
    injection e2 with e4 e5
    cases e5
  · rw [e0] at e1
    injection e1 with e2 e3
    injection e2 with e4 e5
    injection e3 with e6 e7
    subst e6; subst e7
    have h9 := rnF_none ((hrn (i + 1) (by omega)).trans h3) k (by omega)
    rw [hr] at h9
    cases h9
  · rw [e0] at e1
    injection e1 with e2 e3
    injection e2 with e4 e5
    injection e3 with e6 e7
    subst e6; subst e7
    have h9 := (hrn k (by omega)).symm.trans hr
    rw [h1] at h9
    injection h9 with h9
    subst h9
    exact ⟨u1, cm0, h3, h4⟩
theorem jr_x {S S' : MSt} {ln k i hc Bd : Nat} {rb : Int32} {cd : Nat → Cd} {M1 : Nat → Int32} (hK : PrK (S 4) ln k cd) (hi : i < k) (hr : rnF (S 0) cd i = some M1) (hd : doF M1 (cd i).1 (cd i).2.1 (cd i).2.2.1 (cd i).2.2.2 = none) (h : (∃ u k cm, prsR (S 4) ln (S 11) = ((u, true), k, cm) ∧ rb = -1 ∧ S' = runE S ln u k cm) ∨ (∃ u k cm mm t i, prsR (S 4) ln (S 11) = ((u, false), k, cm) ∧ i < k ∧ runF (S 0) cm i = some mm ∧ runF (S 0) cm (i + 1) = none ∧ rb = -1 ∧ S' = runX S ln u k cm mm t i) ∨ (∃ u k cm mm, prsR (S 4) ln (S 11) = ((u, false), k, cm) ∧ runF (S 0) cm k = some mm ∧ CoW mm (Bd + k) ∧ rb = nI k ∧ S' = runC S ln u k cm mm hc)) : ∃ (u : Nat) (cm mm : Nat → Int32) (t : Nat), rb = -1 ∧ S' = runX S ln u k cm mm t i := by
  obtain ⟨u0, hK⟩ := hK
  obtain ⟨cm0, e0, hc0⟩ := hK (S 11)
  have hrn := rn_run (m := S 0) hc0
  have hn : rnF (S 0) cd (i + 1) = none := (rnF_s hr).trans hd
  rcases h with ⟨u1, k1, cm1, e1, h1⟩ | ⟨u1, k1, cm1, mm, t, i1, e1, h1, h2, h3, h4, h5⟩ | ⟨u1, k1, cm1, mm, e1, h1, h2, h3, h4⟩
  · rw [e0] at e1
    injection e1 with e2 e3
    injection e2 with e4 e5
    cases e5
  · rw [e0] at e1
    injection e1 with e2 e3
    injection e2 with e4 e5
    injection e3 with e6 e7
    subst e6; subst e7
    have a1 := (hrn i1 (by omega)).trans h2
    have a2 := (hrn (i1 + 1) (by omega)).trans h3
    have e9 : i = i1 := by
      rcases Nat.lt_trichotomy i i1 with e | e | e
      · have h9 := rnF_none hn i1 (by omega)
        rw [a1] at h9
        cases h9
      · exact e
      · have h9 := rnF_none a2 i (by omega)
        rw [hr] at h9
        cases h9
    subst e9
    exact ⟨u1, cm0, mm, t, h4, h5⟩
  · rw [e0] at e1
    injection e1 with e2 e3
    injection e2 with e4 e5
    injection e3 with e6 e7
    subst e6; subst e7
    have h9 := rnF_none hn k (by omega)
    rw [(hrn k (by omega)).trans h1] at h9
    cases h9
theorem isHB_n {n i : Nat} (h : i < n) (hn : n < 1024) : isHB n (nI i) = true := isHB_lt hn (nI_pos (by omega)) (nI_lt h (by omega))
theorem rg_03 (x : Int32) : rgB 0 3 x = isHB 4 x := by
  have h := isH_eq (h := 4) (by decide) x
  rwa [show (nI 4 - nI 1).toInt64 = 3 by decide] at h
theorem votC_lt (m : Nat → Int32) (q : Nat) : votC m q < 65536 := by
  unfold votC
  split
  · decide
  · split <;> decide
theorem c16_nI {v : Nat} (h : v < 65536) : c16 (nI v) = nI v := by
  unfold c16
  have e : (nI v).toUInt32 % 65536 = (nI v).toUInt32 := by
    apply UInt32.toNat_inj.mp
    rw [UInt32.toNat_mod]
    refine Nat.mod_eq_of_lt ?_
    show (BitVec.ofNat 32 v).toNat < 65536
    rw [BitVec.toNat_ofNat]
    omega
  rw [e]
  exact Int32.toInt32_toUInt32 _

