theorem CxB.perm {D : va_G} {W W1 : va_W} {A : Nat → Prop} {H0 H : Heap} {locs : List Loc} (h : CxB D W A H0 H locs) (hp : W1.Perm W) : CxB D W1 A H0 H locs := by
  obtain ⟨h1, ⟨h2, h3⟩, h4⟩ := h
  have mem : ∀ q, q ∈ W1 → ∃ k, W[k]? = some q := fun q hq => List.getElem?_of_mem (hp.mem_iff.mp hq)
  have nd : (W.map Prod.fst).Nodup := by
    refine List.pairwise_iff_getElem.mpr (fun i j hi hj hij e => ?_)
    rw [List.length_map] at hi hj
    rw [List.getElem_map, List.getElem_map] at e
    have := h2 i j _ _ (List.getElem?_eq_getElem hi) (List.getElem?_eq_getElem hj) e
    omega
  have nd1 := List.pairwise_iff_getElem.mp ((hp.map Prod.fst).nodup_iff.mpr nd)
  refine ⟨fun k q hq => ?_, ⟨fun i j p q hi hj e => ?_, fun k q hq => ?_⟩, h4⟩
  · obtain ⟨k2, hk2⟩ := mem q (List.mem_of_getElem? hq)
    exact h1 k2 q hk2
  · obtain ⟨li, ei⟩ := List.getElem?_eq_some_iff.mp hi
    obtain ⟨lj, ej⟩ := List.getElem?_eq_some_iff.mp hj
    by_cases e2 : i = j
    · exact e2
    · exfalso
      rcases Nat.lt_or_gt_of_ne e2 with w | w
      · exact nd1 i j (by rw [List.length_map]; exact li) (by rw [List.length_map]; exact lj) w (by rw [List.getElem_map, List.getElem_map, ei, ej]; exact e)
      · exact nd1 j i (by rw [List.length_map]; exact lj) (by rw [List.length_map]; exact li) w (by rw [List.getElem_map, List.getElem_map, ei, ej]; exact e.symm)
  · obtain ⟨k2, hk2⟩ := mem q (List.mem_of_getElem? hq)
    exact h3 k2 q hk2
/-- a command taken out of the tail, and put back -/
def clT (D : va_G) (qd : Nat → Nat) (cd : Nat → Cd) (k i : Nat) : va_W := (clL D qd cd k).take i ++ (clL D qd cd k).drop (i + 1)
theorem clL_perm {D : va_G} {qd : Nat → Nat} {cd : Nat → Cd} {k i : Nat} (h : i < k) : (clL D qd cd k).Perm (cdC D (qd i) (cd i) :: clT D qd cd k i) := by
  have hl : i < (clL D qd cd k).length := by unfold clL; rw [List.length_map, List.length_range]; exact h
  have e : (clL D qd cd k)[i] = cdC D (qd i) (cd i) := Option.some.inj ((List.getElem?_eq_getElem hl).symm.trans (clL_get h))
  have h2 : clL D qd cd k = (clL D qd cd k).take i ++ cdC D (qd i) (cd i) :: (clL D qd cd k).drop (i + 1) := by rw [← e, ← List.drop_eq_getElem_cons hl, List.take_append_drop]
  unfold clT
  exact (List.Perm.of_eq h2).trans List.perm_middle
theorem clL_out {D : va_G} {qd : Nat → Nat} {cd : Nat → Cd} {k i : Nat} {X : va_W} {A : Nat → Prop} {H0 H : Heap} {locs : List Loc} (hi : i < k) (h : CxB D (X ++ clL D qd cd k) A H0 H locs) : CxB D ((X ++ [cdC D (qd i) (cd i)]) ++ clT D qd cd k i) A H0 H locs := by
  refine h.perm ?_
  rw [List.append_assoc]
  exact List.Perm.append_left X (clL_perm hi).symm
theorem clL_in {D : va_G} {qd : Nat → Nat} {cd : Nat → Cd} {k i : Nat} {X : va_W} {A : Nat → Prop} {H0 H : Heap} {locs : List Loc} (hi : i < k) (h : CxB D ((X ++ [cdC D (qd i) (cd i)]) ++ clT D qd cd k i) A H0 H locs) : CxB D (X ++ clL D qd cd k) A H0 H locs := by
  refine h.perm ?_
  rw [List.append_assoc]
  exact List.Perm.append_left X (clL_perm hi)
section CXT2
/-- a method with a table of handlers, that throws nothing -/
def CxT (l : Launch) (y : MethodName) (b : ByteArray) (L : Nat) (ret : Option FieldType) (hh : List (Nat × Nat × Nat × Nat)) (fr mc ms lo : Nat) (D : va_G) (aT : Nat → ClassId) (As : List Value) (Wd : va_W) (Qk : CxQ) : Prop :=
  ∀ sz, Met l y (Cond.codeWith y b L ret hh :: gw) (cxR fr mc ms lo) (va_Pc As (cxB1 D aT Wd sz)) (Qk (va_A Wd sz)) mc ms (va_A Wd sz)
theorem CxT.of {l : Launch} {D : va_G} {aT : Nat → ClassId} {y : MethodName} {b : ByteArray} {L : Nat} {ret : Option FieldType} {hh : List (Nat × Nat × Nat × Nat)} {fr mc ms lo : Nat} {As : List Value} {Wd : va_W} {Qk : CxQ} (own : String) (hy : plainName y.cls = true) (hcls : y.cls = own) (hL : (lg_sl As).length ≤ L)
    (body : ∀ (p : Program) (e : Env) (s : State) (m : MethodId) (below : List Frame) (meth : Method) (c : Code) (A : Nat → Prop) (ls : Array Slot), CxX p c b s As.toArray m D aT own → c.maxLocals = L → lv_has ls L (lv_args 0 As) → (∀ q, s.heap.size ≤ q → A q) → meth.sig.returnType = ret → meth.locks = false → c.exceptionTable.toList = tableOf hh → cZ D A s s.heap → CxB D Wd A s.heap s.heap [] →
      W p l e (cxR fr mc ms lo) s m As.toArray below meth c s.heap [] 0 0 (MQ below (Qk A) As.toArray s mc ms A) (F0 m 0 ls [])) : CxT l y b L ret hh fr mc ms lo D aT As Wd Qk := by
  intro sz
  refine va_MetW (cc := b) (maxL := L) (ret := ret) (hh := hh) hy rfl ?_
  intro p e s m args below meth c s₁ B hml hv
  obtain ⟨rfl, hsz, hP, hK, hD0, hZ⟩ := hv
  have hts := atoms_spec (ws := Cond.codeWith y b L ret hh :: gw) B.pre
  have hown : s.vm.findClass y.cls = some m.cls := findClass_of_methodNamed B.named
  rw [hcls] at hown
  subst hsz
  have hl := lv_entry As (n := L) hL
  rw [lg_entry_eq]
  exact body p e s m below meth c _ _ ⟨B.exec, B.bytes, fun w hw => hts w (List.mem_cons_of_mem _ hw), hown, hK⟩ hml hl (fun q h => Or.inr h) B.returns B.notSynchronized (vx_table (x := y) B (hts _ List.mem_cons_self)) hZ ⟨hP, hD0.self (sz := s.heap.size), va_S.rf⟩
variable {p : Program} {l : Launch} {e : Env} {R : Room} {s : State} {m : MethodId} {args : Array Value} {below : List Frame} {meth : Method} {c : Code} {H : Heap} {locs : List Loc} {cells slots : Nat} {Q : State → Prop} {cc : ByteArray} {pc : Nat} {ls : Array Slot} {rest : List Value} {D : va_G} {aT : Nat → ClassId} {Wd : va_W} {A : Nat → Prop} {H0 : Heap} {own : String} {a nL mc ms : Nat}
theorem cx_tret (C : CxX p c cc s args m D aT own) {ty : FieldType} (hr : meth.sig.returnType = some ty) (hlocks : meth.locks = false) {post : Int32 → va_W → Prop} {v : Int32} (hn : narrow ty (.int v) = .int v) (hW : CxB D Wd A s.heap H locs) (hc : cells ≤ mc ∧ slots ≤ ms) (hq : post v Wd) (hdg : decode cc pc = .ok (.ireturn, 1)) : W p l e R s m args below meth c H locs cells slots (MQ below (qI D aT post A) args s mc ms A) (F0 m pc ls [.int v]) := by
  obtain ⟨hx, hb, hg, hown, hK⟩ := C
  refine W.widen (k := mc) (n := ms) hc.1 hc.2 ?_
  exact W.zret (v := v) hx hb hr hn (fun t ht hW' => ⟨⟨v, Wd, rfl, hq, by rw [ht]; exact hW.1, va_K.moved hW'.alike hK, hW.2.1⟩, hW.2.2.F ht⟩) hW.2.2.2.2 hdg hlocks
/-- caught by a row of the table: those before it are for others -/
theorem cx_catchT (C : CxX p c cc s args m D aT own) (hZ : cZ D A s s.heap) {E nm : String} {ce : Cell} {q9 : Addr} (pre : List ExceptionTableEntry) (x : ExceptionTableEntry) (suf : List ExceptionTableEntry) (htb : c.exceptionTable.toList = pre ++ x :: suf) (hpass : ∀ z ∈ pre, covers z pc = false ∨ (z.catchType ≠ 0 ∧ ∃ n2 : String, Cond.classLink own z.catchType n2 ∈ gw ∧ (E, n2) ∈ ncs)) (hx : covers x pc = true) (h0 : x.catchType ≠ 0) (hlk : Cond.classLink own x.catchType nm ∈ gw) (hcast : Cond.castable E nm ∈ nw) (hcell : H[q9]? = some ce) (hv : ce.vm = .none) (hcl : s.vm.findClass E = some ce.cls) (kk : W p l e R s m args below meth c H locs cells slots Q (F0 m x.handlerPc ls [.ref q9])) : vx_W p l e R s m args below meth c H locs cells slots Q (F0 m pc ls rest) q9 :=
  vx_catch C.2.2.2.1 pre x suf htb (fun z hz => by
    rcases hpass z hz with h | ⟨h1, n2, h2, h3⟩
    · exact Or.inl h
    · exact Or.inr ⟨h1, n2, C.2.2.1 _ h2, hZ.2.2.2.2.2.2.2.1 _ h3⟩) hx h0 (C.2.2.1 _ hlk) (va_Nw.use (nw_tab hcast) (hZ.1 _ hcast)) hcell hv hcl kk
section
variable {y : MethodName} {b : ByteArray} {L : Nat} {ret : Option FieldType} {hh : List (Nat × Nat × Nat × Nat)} {fr mc1 ms1 lo idx n : Nat} {As st : List Value} {Wc : va_W} {Qk : CxQ} {Cn : String}
theorem cx_runTS (C : CxX p c cc s args m D aT own) (hml : c.maxLocals = nL) (hls : ls.size = nL) (hZ : cZ D A s s.heap) (hW : CxB D Wd A s.heap H locs) (hA : ∀ q, s.heap.size ≤ q → A q) (hM : CxT l y b L ret hh fr mc1 ms1 lo D aT As Wc Qk)
    (hT : GoodIn gw (va_wsS own idx y (Cond.codeWith y b L ret hh :: gw))) (hd : y.cls ≠ "java/lang/invoke/MethodHandle" ∧ y.cls ≠ "java/lang/invoke/VarHandle" ∧ (parseMethodDescriptor y.desc).map (fun d => d.parameters.length) = some n) (hn : As.length = n)
    (hR : fr + 1 ≤ R.frames ∧ 8 + (L + 11) + lo ≤ R.locals) (hcs : cells + mc1 ≤ R.cells ∧ slots + ms1 ≤ R.slots) (is : List Nat) (his : is.map (fun i => Wd[i]?) = Wc.map some) (hnd : va_nd is = true)
    (hst : st = As.reverse ++ rest) (hw : (rest.map fun v => v.category).sum ≤ 8) (hdg : decode cc pc = .ok (.invokestatic idx, 3)) : va_Run p l e R s m args below meth c H locs cells slots mc1 ms1 (F0 m pc ls st) rest (Qk (va_A Wc H.size) As.toArray) (va_A Wc H.size) := by
  have C' := C
  obtain ⟨hx, hb, hg, hown, hK⟩ := C
  subst hst
  exact vx_runSW (As := As) (rest := rest) ⟨hx, hb, hml, hown, hg⟩ (hM H.size) (vx_cwSW n hg hT rfl rfl rfl hd hR) ⟨cx_blind _ _, fun U hU hw => ⟨rfl, cx_sub C' hZ hW hA is his hnd hU hw⟩⟩ rfl hn hls rfl (lv_room hw) hdg hcs
theorem cx_runTV (C : CxX p c cc s args m D aT own) (hml : c.maxLocals = nL) (hls : ls.size = nL) (hZ : cZ D A s s.heap) (hW : CxB D Wd A s.heap H locs) (hA : ∀ q, s.heap.size ≤ q → A q) (hM : CxT l y b L ret hh fr mc1 ms1 lo D aT (.ref a :: As) Wc Qk)
    (hT : GoodIn gw (wsV own idx Cn y (Cond.codeWith y b L ret hh :: gw))) (hd : y.cls = Cn ∧ y.cls ≠ "java/lang/invoke/MethodHandle" ∧ y.cls ≠ "java/lang/invoke/VarHandle" ∧ (parseMethodDescriptor y.desc).map (fun d => d.parameters.length) = some n) (hn : As.length = n)
    (hR : fr + 1 ≤ R.frames ∧ 8 + (L + 11) + lo ≤ R.locals) (hcs : cells + mc1 ≤ R.cells ∧ slots + ms1 ≤ R.slots) (is : List Nat) (his : is.map (fun i => Wd[i]?) = Wc.map some) (hnd : va_nd is = true) (r0 ci : Nat) {q : vw_C} {fs : List Value} (hci : vwCl[ci]? = some q) (hq : q.1 = Cn) (hrec : Wd[r0]? = some (a, .inr (ci, fs)))
    (hst : st = As.reverse ++ .ref a :: rest) (hw : (rest.map fun v => v.category).sum ≤ 8) (hdg : decode cc pc = .ok (.invokevirtual idx, 3)) : va_Run p l e R s m args below meth c H locs cells slots mc1 ms1 (F0 m pc ls st) rest (Qk (va_A Wc H.size) (Value.ref a :: As).toArray) (va_A Wc H.size) := by
  have C' := C
  obtain ⟨hx, hb, hg, hown, hK⟩ := C
  subst hst
  subst hq
  exact vx_runVW (As := As) (rest := rest) ⟨hx, hb, hml, hown, hg⟩ (hM H.size) (vx_cwVW n hg hT rfl rfl rfl hd hR) ⟨cx_blind _ _, va_recv hK hW.1 hci hrec, fun U hU hw => ⟨rfl, cx_sub C' hZ hW hA is his hnd hU hw⟩⟩ rfl hn hls rfl (lv_room hw) hdg hcs
end
theorem cx_callh {mc1 ms1 : Nat} {st : List Value} {Wc Wr : va_W} {a' : Array Value} {post : Int32 → va_W → Prop} (hr : va_Run p l e R s m args below meth c H locs cells slots mc1 ms1 (F0 m pc ls st) rest (qI D aT post (va_A Wc H.size) a') (va_A Wc H.size)) (hW : CxB D Wd A s.heap H locs) (hA : ∀ q, s.heap.size ≤ q → A q) (is isR : List Nat) (his : is.map (fun i => Wd[i]?) = Wc.map some) (hR : isR.map (fun i => Wd[i]?) = Wr.map some) (hn : va_nd isR = true) (hdis : ∀ i ∈ isR, i ∉ is)
    (kk : ∀ (r : Int32) (W1 : va_W) (H1 : Heap) (locs1 : List Loc), post r W1 → CxB D (Wr ++ W1) A s.heap H1 locs1 → W p l e R s m args below meth c H1 locs1 (cells + mc1) (slots + ms1) Q (F0 m (pc + 3) ls (.int r :: rest))) : W p l e R s m args below meth c H locs cells slots Q (F0 m pc ls st) := by
  have hF := va_free hW.2.1 hW.2.2 hA is his
  exact va_calli hr hW.2.2 (fun q _ h => hF q h) hF (fun r u t H1 locs1 ht _ hp hB _ hk hS1 => kk r u H1 locs1 hp (cx_back hW hA is isR his hR hn hdis ht hB hk hS1))
theorem gdSW {own : String} {idx : Nat} {y : MethodName} {b : ByteArray} {L : Nat} {ret : Option FieldType} {hh : List (Nat × Nat × Nat × Nat)} (h1 : Cond.methodLink own idx y ∈ gw) (h2 : Cond.static y ∈ gw) (h4 : Cond.initialized y.cls ∈ gw) (h5 : Cond.codeWith y b L ret hh ∈ gw) : GoodIn gw (va_wsS own idx y (Cond.codeWith y b L ret hh :: gw)) := by
  intro w hw
  have h : w ∈ gw := by
    unfold va_wsS at hw
    simp only [List.cons_append, List.nil_append, List.mem_cons] at hw
    rcases hw with rfl | rfl | rfl | rfl | hw
    · exact h1
    · exact h2
    · exact h4
    · exact h5
    · exact hw
  exact ⟨h, gw_good w h⟩
theorem gdVW {own C : String} {idx : Nat} {y : MethodName} {b : ByteArray} {L : Nat} {ret : Option FieldType} {hh : List (Nat × Nat × Nat × Nat)} (h1 : Cond.methodLink own idx y ∈ gw) (h2 : Cond.instanceMethod y ∈ gw) (h3 : Cond.selects C y y ∈ gw) (h4 : Cond.initialized C ∈ gw) (h5 : Cond.codeWith y b L ret hh ∈ gw) : GoodIn gw (wsV own idx C y (Cond.codeWith y b L ret hh :: gw)) := by
  intro w hw
  have h : w ∈ gw := by
    unfold wsV at hw
    simp only [List.cons_append, List.nil_append, List.mem_cons] at hw
    rcases hw with rfl | rfl | rfl | rfl | rfl | hw
    · exact h1
    · exact h2
    · exact h3
    · exact h4
    · exact h5
    · exact hw
  exact ⟨h, gw_good w h⟩
end CXT2
/-! commands carried out -/
def rnF (m : Nat → Int32) (cd : Nat → Cd) : Nat → Option (Nat → Int32)
  | 0 => some m
  | i + 1 => match rnF m cd i with
    | none => none
    | some m1 => doF m1 (cd i).1 (cd i).2.1 (cd i).2.2.1 (cd i).2.2.2
theorem rnF_s {m m1 : Nat → Int32} {cd : Nat → Cd} {i : Nat} (h : rnF m cd i = some m1) : rnF m cd (i + 1) = doF m1 (cd i).1 (cd i).2.1 (cd i).2.2.1 (cd i).2.2.2 := by rw [rnF, h]
theorem rn_run {m : Nat → Int32} {cd : Nat → Cd} {cm : Nat → Int32} {k : Nat} (h : ∀ j, j < k → CmE cd cm j) : ∀ i, i ≤ k → rnF m cd i = runF m cm i := by
  intro i
  induction i with
  | zero => intro _; rfl
  | succ i ih =>
    intro hi
    have ih := ih (by omega)
    obtain ⟨h1, h2, h3⟩ := h i (by omega)
    rw [rnF, runF, ih]
    cases runF m cm i with
    | none => rfl
    | some m1 =>
      dsimp only
      rw [h2, nI_clamp (by omega)]
      exact h3 m1
section UNR
variable {l : Launch} {R : Room} {p : Program} {e : Env} {below : List Frame} {s : State} {sargs : Array Value} {y : MethodName}
theorem ur_weaken {tb : Tables} {mid below : List Frame} {a b : State} (h : Steps tb e (mid ++ below) a b) : Steps tb e below a b := by
  obtain ⟨n, hn, w⟩ := h
  exact ⟨n, hn, fun k hk => (w k hk).weaken⟩
/-- a call of a method of which it is not said that its class is initialised: its body is walked where it is called -/
theorem ur_back {bytes : ByteArray} {maxL len W9 : Nat} {ret : Option FieldType} {Pc : Array Value → State → Prop} {Qc : Array Value → State → Outcome → State → Prop} {free : Addr → Prop} {Rm : Room} {mc ms : Nat}
    (hy : plainFor y = true) (hblind : FrameBlind Pc) (hrc : Rm.cells = mc) (hrs : Rm.slots = ms) (hframes : Rm.frames + 1 ≤ R.frames) (hlocals : W9 + (maxL + 11) + Rm.locals ≤ R.locals)
    (hcode : ∀ a' U, s.WarmedH U.vm → (Cond.code y bytes maxL ret).before a' U = true)
    (hbody : ∀ (S1 : State) (mk : MethodId) (a : Array Value) (below1 : List Frame) (meth : Method) (c : Code), c.code = bytes → c.maxLocals = maxL → meth.sig.returnType = ret → meth.locks = false → S1.methodNamed? y = some mk → s.WarmedH S1.vm → Pc a S1 →
      W p l e Rm S1 mk a below1 meth c S1.heap [] 0 0 (MQ below1 Qc a S1 mc ms free) (entryFrame mk a maxL)) :
    Back l R p e below s sargs y len W9 (PreOf R mc ms Pc) (PostOf Qc mc ms free) := by
  intro m meth c A g ig mk a X hg hsize hdg hW hn hp
  have h2 : (Cond.code y bytes maxL ret).before a A.U = true := hcode _ _ X.warmed
  have hPc : Pc a (A.U.calling g mk a) := hblind _ _ _ _ hp.2.2
  obtain ⟨U, Ls, c0, s0⟩ := A
  dsimp only [Pt.U, Pt.locs, Pt.cells, Pt.slots] at h2 X hn hPc hp ⊢
  obtain ⟨methY, cY, hmY, hcY, hbY, hlY, hrY, hkY, -, -⟩ := Cond.code_spec hn h2
  have h : At U g.method c below := by rw [hg]; exact X.here
  have hroom : (U.calling g mk a).hasRoom e.platform Rm = true := X.room_calling (g := g) (R' := Rm) hsize hmY hcY hframes (by rw [hlY]; omega) (by rw [hrc]; exact hp.1) (by rw [hrs]; exact hp.2.1)
  have hff : (U.calling g mk a).frames = .invoking mk a :: (U.setTop g).frames := by
    rw [State.frames_calling h.top g mk a, State.frames_setTop' g h.top]
  have hcur := State.cur_lt_of_frames hff
  have hcodeg : (U.calling g mk a).code? g.method = some c := by
    have := h.code
    rw [State.code?_eq] at this ⊢
    simpa [State.calling, State.pushFrame, State.setFrames] using this
  have hhears : (U.calling g mk a).hears mk (U.setTop g).frames = true := by
    rw [State.frames_setTop' g h.top]
    simp [State.hears, hcodeg, hdg, Except.toOption]
  have hnC : (U.calling g mk a).methodNamed? y = some mk := hn
  have hmC : (U.calling g mk a).vm.method? mk = some methY := hmY
  have hrun : (U.calling g mk a).status = .running := h.running
  have hable : (U.calling g mk a).curStatus? = some .runnable := by simpa [State.calling] using h.runnable
  have halone : (U.calling g mk a).alone = true := by simpa [State.calling] using h.alone
  generalize hS : U.calling g mk a = S1 at hroom hff hcur hcodeg hhears hnC hmC hrun hable halone hPc
  have hvmS : S1.vm = U.vm := by rw [← hS]; rfl
  have hheapS : S1.heap = U.heap := by rw [← hS]; rfl
  have hf1 : (S1.setFrames (.java (entryFrame mk a maxL) :: (U.setTop g).frames)).frames = .java (entryFrame mk a maxL) :: (U.setTop g).frames := State.frames_setFrames _ hcur
  have ht1 := State.topJava?_of_frames hf1
  have hplain : (S1.setFrames (.java (entryFrame mk a maxL) :: (U.setTop g).frames)).plainMethod mk := State.plainMethod.of_named (s := S1) hy hnC hmC
  have hAt : At (S1.setFrames (.java (entryFrame mk a maxL) :: (U.setTop g).frames)) mk cY (U.setTop g).frames :=
    ⟨by rw [ht1]; rfl, ⟨[], by rw [hf1]; rfl⟩, hrun, by simpa using hable, by simpa using halone, by rw [State.code?_eq]; simp [State.setFrames, hmC, hcY], hplain⟩
  obtain ⟨t, ht, -⟩ := State.frames_cons hff
  have X1 : Stand p l e Rm S1 mk a (U.setTop g).frames methY cY (S1.setFrames (.java (entryFrame mk a maxL) :: (U.setTop g).frames)) [] 0 0 := by
    refine ⟨X.admits, X.cas, X.clock, hff, hroom, hhears, hmC, hcY, hAt, by rw [hf1]; rfl, State.WarmedH.refl S1, by rw [State.stackLimits_setFrames], by rw [State.stackBytes_setFrames], ?_⟩
    exact (State.sameButNew.refl S1 ht).setFrames (.java (entryFrame mk a maxL) :: (U.setTop g).frames) hcur
  obtain ⟨s₂, hst, o, -, hend, hqc, L, hfe, hL⟩ := hbody S1 mk a (U.setTop g).frames methY cY hbY hlY hrY hkY hnC (by rw [hvmS]; exact X.warmed) hPc (S1.setFrames (.java (entryFrame mk a maxL) :: (U.setTop g).frames)) rfl X1
  obtain ⟨mid, hmid⟩ := h.above
  have hsteps : Steps p.tables e below (doInvoke e (U.setTop g) [] mk a).1 s₂ := by
    have hfull := X1
    have hst2 : (doInvoke e (U.setTop g) [] mk a).1 = (S1.setFrames (.java (entryFrame mk a maxL) :: (U.setTop g).frames)).setTop (entryFrame mk a maxL) := by
      have hf0 : e.platform.stackFull (((U.setTop g).threads[(U.setTop g).cur]?).getD { frames := [] }) (U.setTop g).frames cY.maxLocals = false := by
        obtain ⟨-, g1, -, g2⟩ := State.hasRoom_stack hroom
        rw [hff, List.length_cons] at g1
        rw [State.localsInUse_invoking hff hmC hcY] at g2
        have hw := stackUse_le_stackWeight (U.setTop g).frames
        have hlim : e.platform.stackLimits S1.me = e.platform.stackLimits (U.setTop g).me := by rw [← hS, State.calling, State.stackLimits_pushFrame]
        rw [hlim] at g1 g2
        exact Platform.stackFull_eq_false (by show _ < (e.platform.stackLimits (U.setTop g).me).1; omega) (by show _ ≤ (e.platform.stackLimits (U.setTop g).me).2; omega)
      have e9 : (U.setTop g).pushFrame (.java (entryFrame mk a maxL)) = S1.setFrames (.java (entryFrame mk a maxL) :: (U.setTop g).frames) := by
        rw [← hS]
        show (U.setTop g).setFrames _ = ((U.setTop g).setFrames _).setFrames _
        rw [State.setFrames_setFrames]
      rw [doInvoke_enter h.top [] hmY hcY hkY hf0, hlY, e9]
    rw [hst2]
    have hfr : (U.setTop g).frames = (.java g :: mid) ++ below := by rw [State.frames_setTop' g h.top, hmid]; rfl
    rw [hfr] at hst
    rw [hfr]
    exact ur_weaken hst
  subst hS
  rw [State.frames_setTop' g h.top] at hend
  obtain ⟨g₀, hg0⟩ := Option.isSome_iff_exists.mp h.top
  obtain ⟨r, hr⟩ := State.topJava?_eq_some.mp hg0
  have hr' : (({ U with heap := s₂.heap, slotsUsed := s₂.slotsUsed } : State).setVm s₂.vm).frames = .java g₀ :: r := hr
  obtain ⟨⟨v, rfl⟩, hW₂, e2, q2, q3, q4, q5, q6⟩ := id hfe
  have e3 : s₂ = ({ (U.calling g mk a).setFrames s₂.frames with heap := s₂.heap, slotsUsed := s₂.slotsUsed } : State).setVm s₂.vm := by
    have : s₂ = ({ s₂ with vm := (U.calling g mk a).vm } : State).setVm s₂.vm := rfl
    rw [e2] at this
    exact this
  obtain ⟨c₂, i₂, len₂, hc₂, hd₂, hf₂⟩ := hend
  have hW' : U.WarmedH s₂.vm := hW₂
  have hcc : c₂ = c := by
    have h1 : s₂.code? g.method = U.code? g.method := by
      rw [State.code?_eq, State.code?_eq, hW'.alike.method?]
    exact Option.some.inj (hc₂.symm.trans (h1.trans h.code))
  subst hcc
  have hlen : len₂ = len := by rw [hdg] at hd₂; cases hd₂; rfl
  subst hlen
  have hs₂ : s₂ = (({ U with heap := s₂.heap, slotsUsed := s₂.slotsUsed } : State).setVm s₂.vm).setTop { g with pc := g.pc + len₂, stack := v.toList ++ g.stack } := by
    refine e3.trans ?_
    rw [hf₂, State.calling_eq h.top, State.setFrames_setFrames, State.setTop_of_frames _ hr', hr]
    rfl
  have hsame : U.sameButNew ({ U with heap := s₂.heap, slotsUsed := s₂.slotsUsed } : State) L mc ms := by
    refine ⟨?_, q2, q3, q4, q5, q6⟩
    obtain ⟨t, ht, -⟩ := State.frames_cons hr
    show ({ U with heap := s₂.heap, slotsUsed := s₂.slotsUsed } : State) = { U.setFrames U.frames with heap := s₂.heap, slotsUsed := s₂.slotsUsed }
    rw [State.setFrames_self ht]
  subst hg
  refine ⟨v, ⟨(({ U with heap := s₂.heap, slotsUsed := s₂.slotsUsed } : State).setVm s₂.vm), Ls ++ L, c0 + mc, s0 + ms⟩,
    ⟨X.admits, X.cas, X.clock, X.frames, X.room, X.hears, X.method, X.code, (X.here.setHeapUsed s₂.heap s₂.slotsUsed).setVm hW'.alike, X.tail, State.WarmedH.trans X.warmed hW', X.limits, X.bytes, X.same.trans (hsame.setVm s.vm)⟩,
    ⟨g, mk, s₂, L, rfl, rfl, hqc, rfl, hL, rfl, rfl⟩, ?_⟩
  show Steps p.tables e below _ ((({ U with heap := s₂.heap, slotsUsed := s₂.slotsUsed } : State).setVm s₂.vm).setTop { g with pc := g.pc + len₂, stack := v.toList ++ g.stack })
  rw [← hs₂]
  exact hsteps
end UNR
section ORD
variable {p : Program} {l : Launch} {e : Env} {R : Room} {s : State} {m : MethodId} {args : Array Value} {below : List Frame} {meth : Method} {c : Code} {H : Heap} {locs : List Loc} {cells slots : Nat} {Q : State → Prop} {cc : ByteArray} {pc : Nat} {ls : Array Slot} {rest : List Value} {D : va_G} {aT : Nat → ClassId} {Wd : va_W} {A : Nat → Prop} {nL : Nat} {own : String}
theorem cx_runOR (C : CxX p c cc s args m D aT own) (hml : c.maxLocals = nL) (hls : ls.size = nL) (hZ : cZ D A s s.heap) (hW : CxB D Wd A s.heap H locs) (hA : ∀ q, s.heap.size ≤ q → A q) {i idx : Nat} (hi7 : i < 7) (hlk : Cond.methodLink own idx ⟨"HedgeCommittee$Kind", "ordinal", "()I"⟩ ∈ gw)
    (hR : 1 ≤ R.frames ∧ 8 + (1 + 11) ≤ R.locals) (hcs : cells ≤ R.cells ∧ slots ≤ R.slots) (hw : (rest.map fun v => v.category).sum ≤ 8) (hdg : decode cc pc = .ok (.invokevirtual idx, 3)) :
    va_Run p l e R s m args below meth c H locs cells slots 0 0 (F0 m pc ls (.ref (zs D (10 + i)) :: rest)) rest (qI D aT (fun r W1 => r = nI i ∧ W1 = []) (va_A [] H.size) [Value.ref (zs D (10 + i))].toArray) (va_A [] H.size) := by
  have C' := C
  obtain ⟨hx, hb, hg, hown, hK⟩ := C
  have hbk : Back l R p e below s args yJx29ce0_ordinal_8abf5 3 8 (PreOf R 0 0 (va_Pc [Value.ref (zs D (10 + i))] (cxB1 D aT [] H.size))) (PostOf (qI D aT (fun r W1 => r = nI i ∧ W1 = []) (va_A [] H.size)) 0 0 (va_A [] H.size)) := by
    refine ur_back (bytes := cJx29ce0_ordinal_8abf5) (maxL := 1) (ret := some .int) (Rm := cxR 0 0 0 0) (plainFor_of_name (by decide +kernel)) (cx_blind _ _) rfl rfl hR.1 hR.2 (fun a' U hU => pay_in (s := s) (args := args) hg (fun w hw => ⟨hw, gw_good w hw⟩) _ gw_1312 a' U hU) ?_
    intro S1 mk a below1 methY cY hbY hmlY hrY hlkY hnY hwY hPc
    obtain ⟨rfl, hsz, hP, hK1, hD0, hZ1⟩ := hPc
    have hownY : S1.vm.findClass "java/lang/Enum" = some mk.cls := findClass_of_methodNamed (x := yJx29ce0_ordinal_8abf5) hnY
    have hl := lv_entry [Value.ref (zs D (10 + i))] (n := 1) (Nat.le_of_ble_eq_true rfl)
    rw [lg_entry_eq]
    generalize (lg_sl [Value.ref (zs D (10 + i))] ++ List.replicate (1 - (lg_sl [Value.ref (zs D (10 + i))]).length) Slot.unset).toArray = ls1 at hl ⊢
    have hl : lv_has ls1 1 [(0, .ref (zs D (10 + i)))] := hl
    have CY : CxX p cY cJx29ce0_ordinal_8abf5 S1 [Value.ref (zs D (10 + i))].toArray mk D aT "java/lang/Enum" := ⟨hx, hbY, fun w hw => pay_in (s := s) (args := args) hg (fun w hw => ⟨hw, gw_good w hw⟩) w hw _ S1 hwY, hownY, hK1⟩
    have hWY : CxB D [] (va_A [] H.size) S1.heap S1.heap [] := ⟨hP, by rw [← hsz]; exact hD0.self (sz := S1.heap.size), va_S.rf⟩
    refine lv_aload_n hx hbY dJx29ce0_ordinal_8abf5_0 rfl (lv_at hl 0 rfl) ?_
    rw [← hsz] at hZ1 hWY ⊢
    refine cx_gk CY hWY (v := .int (nI i)) (q := zs D (10 + i)) (show va_OF "java/lang/Enum" "ordinal" "I" (.int (nI i)) (zs D (10 + i)) (va_A [] S1.heap.size) S1 S1.heap from hZ1.2.2.2.2.2.2.2.2.2.2.1.2.2.1 i hi7) gw_2145 rfl dJx29ce0_ordinal_8abf5_1 ?_
    exact cx_tret CY hrY hlkY rfl hWY ⟨Nat.le_refl _, Nat.le_refl _⟩ ⟨rfl, rfl⟩ dJx29ce0_ordinal_8abf5_4
  have hrec := va_O3 ((hZ.2.2.2.2.2.2.2.2.2.2.1.2.2.2.2.1 i hi7).kept hW.2.2.2.1)
  obtain ⟨cellB, hcB, hoB, hclB⟩ := hrec
  have hsig : ∀ sig, parseMethodDescriptor "()I" = some sig → ([] : List Value).length = sig.parameters.length := by
    intro sig h9
    have h8 : (parseMethodDescriptor "()I").map (fun d => d.parameters.length) = some 0 := by decide +kernel
    rw [h9] at h8
    exact (Option.some.inj h8).symm
  intro T hT X
  obtain ⟨v, vm₁, ⟨U', l2, c2, s2⟩, hW₁, X', ⟨g', mk, t, L, e1, e2, hq, h1, hL, h2, h3⟩, st⟩ := va_callVU X hx (C := "HedgeCommittee$Kind") (owner := "java/lang/Enum") (x := ⟨"HedgeCommittee$Kind", "ordinal", "()I"⟩) (y := yJx29ce0_ordinal_8abf5) (bytes := cJx29ce0_ordinal_8abf5) (maxL := 1) (ret := some .int) hown (hg _ hlk) (hg _ gw_1308) (va_Decl.of (args := args) (hg _ gw_1311) (hg _ gw_1312)) ⟨by decide +kernel, by decide +kernel⟩ (hg _ gw_1310) (hg _ gw_1311) (hg _ gw_1312) hbk (b := zs D (10 + i)) (by rw [hT]; exact hcB) hoB hclB (g := F0 m pc ls (.ref (zs D (10 + i)) :: rest)) rfl (hls.trans hml.symm) (argsL := []) (rest := rest) hsig rfl (by show 2 * 0 + _ ≤ _; omega) (by rw [hb]; exact hdg)
    (fun vm₁ hW₁ => ⟨hcs.1, hcs.2, rfl, cx_sub C' hZ hW hA (Wc := []) [] rfl rfl (U := T.setVm vm₁) hT hW₁⟩)
  dsimp only [Pt.U, Pt.locs, Pt.cells, Pt.slots] at X' e1 e2 h1 h2 h3 st
  subst h1; subst h2; subst h3
  exact ⟨v, (T.setVm vm₁).calling g' mk [Value.ref (zs D (10 + i))].toArray, t, U', L, hT, X', hL, e1, e2, hq, st⟩
end ORD
theorem dX9_succeeds_0 : decode cX9_succeeds 0 = .ok (.getstatic 336, 3) := by decide +kernel
theorem dX9_succeeds_3 : decode cX9_succeeds 3 = .ok (.aload_n 1, 1) := by decide +kernel
theorem dX9_succeeds_4 : decode cX9_succeeds 4 = .ok (.getfield 341, 3) := by decide +kernel
theorem dX9_succeeds_7 : decode cX9_succeeds 7 = .ok (.invokevirtual 345, 3) := by decide +kernel
theorem dX9_succeeds_10 : decode cX9_succeeds 10 = .ok (.iaload, 1) := by decide +kernel
theorem dX9_succeeds_11 : decode cX9_succeeds 11 = .ok (.tableswitch 162 1 7 #[41, 64, 83, 106, 125, 140, 155], 41) := by decide +kernel
theorem dX9_succeeds_52 : decode cX9_succeeds 52 = .ok (.aload_n 0, 1) := by decide +kernel
theorem dX9_succeeds_53 : decode cX9_succeeds 53 = .ok (.getfield 10, 3) := by decide +kernel
theorem dX9_succeeds_56 : decode cX9_succeeds 56 = .ok (.aload_n 1, 1) := by decide +kernel
theorem dX9_succeeds_57 : decode cX9_succeeds 57 = .ok (.getfield 350, 3) := by decide +kernel
theorem dX9_succeeds_60 : decode cX9_succeeds 60 = .ok (.aload_n 1, 1) := by decide +kernel
theorem dX9_succeeds_61 : decode cX9_succeeds 61 = .ok (.getfield 353, 3) := by decide +kernel
theorem dX9_succeeds_64 : decode cX9_succeeds 64 = .ok (.aload_n 1, 1) := by decide +kernel
theorem dX9_succeeds_65 : decode cX9_succeeds 65 = .ok (.getfield 356, 3) := by decide +kernel
theorem dX9_succeeds_68 : decode cX9_succeeds 68 = .ok (.invokevirtual 62, 3) := by decide +kernel
theorem dX9_succeeds_71 : decode cX9_succeeds 71 = .ok (.pop, 1) := by decide +kernel
theorem dX9_succeeds_72 : decode cX9_succeeds 72 = .ok (.goto 101, 3) := by decide +kernel
theorem dX9_succeeds_75 : decode cX9_succeeds 75 = .ok (.aload_n 0, 1) := by decide +kernel
theorem dX9_succeeds_76 : decode cX9_succeeds 76 = .ok (.getfield 10, 3) := by decide +kernel
theorem dX9_succeeds_79 : decode cX9_succeeds 79 = .ok (.aload_n 1, 1) := by decide +kernel
theorem dX9_succeeds_80 : decode cX9_succeeds 80 = .ok (.getfield 350, 3) := by decide +kernel
theorem dX9_succeeds_83 : decode cX9_succeeds 83 = .ok (.aload_n 1, 1) := by decide +kernel
theorem dX9_succeeds_84 : decode cX9_succeeds 84 = .ok (.getfield 353, 3) := by decide +kernel
theorem dX9_succeeds_87 : decode cX9_succeeds 87 = .ok (.invokevirtual 69, 3) := by decide +kernel
theorem dX9_succeeds_90 : decode cX9_succeeds 90 = .ok (.pop, 1) := by decide +kernel
theorem dX9_succeeds_91 : decode cX9_succeeds 91 = .ok (.goto 82, 3) := by decide +kernel
theorem dX9_succeeds_94 : decode cX9_succeeds 94 = .ok (.aload_n 0, 1) := by decide +kernel
theorem dX9_succeeds_95 : decode cX9_succeeds 95 = .ok (.getfield 10, 3) := by decide +kernel
theorem dX9_succeeds_98 : decode cX9_succeeds 98 = .ok (.aload_n 1, 1) := by decide +kernel
theorem dX9_succeeds_99 : decode cX9_succeeds 99 = .ok (.getfield 350, 3) := by decide +kernel
theorem dX9_succeeds_102 : decode cX9_succeeds 102 = .ok (.aload_n 1, 1) := by decide +kernel
theorem dX9_succeeds_103 : decode cX9_succeeds 103 = .ok (.getfield 353, 3) := by decide +kernel
theorem dX9_succeeds_106 : decode cX9_succeeds 106 = .ok (.aload_n 1, 1) := by decide +kernel
theorem dX9_succeeds_107 : decode cX9_succeeds 107 = .ok (.getfield 356, 3) := by decide +kernel
theorem dX9_succeeds_110 : decode cX9_succeeds 110 = .ok (.invokevirtual 73, 3) := by decide +kernel
theorem dX9_succeeds_113 : decode cX9_succeeds 113 = .ok (.pop, 1) := by decide +kernel
theorem dX9_succeeds_114 : decode cX9_succeeds 114 = .ok (.goto 59, 3) := by decide +kernel
theorem dX9_succeeds_117 : decode cX9_succeeds 117 = .ok (.aload_n 0, 1) := by decide +kernel
theorem dX9_succeeds_118 : decode cX9_succeeds 118 = .ok (.getfield 10, 3) := by decide +kernel
theorem dX9_succeeds_121 : decode cX9_succeeds 121 = .ok (.aload_n 1, 1) := by decide +kernel
theorem dX9_succeeds_122 : decode cX9_succeeds 122 = .ok (.getfield 350, 3) := by decide +kernel
theorem dX9_succeeds_125 : decode cX9_succeeds 125 = .ok (.aload_n 1, 1) := by decide +kernel
theorem dX9_succeeds_126 : decode cX9_succeeds 126 = .ok (.getfield 353, 3) := by decide +kernel
theorem dX9_succeeds_129 : decode cX9_succeeds 129 = .ok (.invokevirtual 76, 3) := by decide +kernel
theorem dX9_succeeds_132 : decode cX9_succeeds 132 = .ok (.pop, 1) := by decide +kernel
theorem dX9_succeeds_133 : decode cX9_succeeds 133 = .ok (.goto 40, 3) := by decide +kernel
theorem dX9_succeeds_136 : decode cX9_succeeds 136 = .ok (.aload_n 0, 1) := by decide +kernel
theorem dX9_succeeds_137 : decode cX9_succeeds 137 = .ok (.getfield 10, 3) := by decide +kernel
theorem dX9_succeeds_140 : decode cX9_succeeds 140 = .ok (.aload_n 1, 1) := by decide +kernel
theorem dX9_succeeds_141 : decode cX9_succeeds 141 = .ok (.getfield 350, 3) := by decide +kernel
theorem dX9_succeeds_144 : decode cX9_succeeds 144 = .ok (.invokevirtual 79, 3) := by decide +kernel
theorem dX9_succeeds_147 : decode cX9_succeeds 147 = .ok (.pop, 1) := by decide +kernel
theorem dX9_succeeds_148 : decode cX9_succeeds 148 = .ok (.goto 25, 3) := by decide +kernel
theorem dX9_succeeds_151 : decode cX9_succeeds 151 = .ok (.aload_n 0, 1) := by decide +kernel
theorem dX9_succeeds_152 : decode cX9_succeeds 152 = .ok (.getfield 10, 3) := by decide +kernel
theorem dX9_succeeds_155 : decode cX9_succeeds 155 = .ok (.aload_n 1, 1) := by decide +kernel
theorem dX9_succeeds_156 : decode cX9_succeeds 156 = .ok (.getfield 350, 3) := by decide +kernel
theorem dX9_succeeds_159 : decode cX9_succeeds 159 = .ok (.invokevirtual 83, 3) := by decide +kernel
theorem dX9_succeeds_162 : decode cX9_succeeds 162 = .ok (.pop, 1) := by decide +kernel
theorem dX9_succeeds_163 : decode cX9_succeeds 163 = .ok (.goto 10, 3) := by decide +kernel
theorem dX9_succeeds_166 : decode cX9_succeeds 166 = .ok (.aload_n 0, 1) := by decide +kernel
theorem dX9_succeeds_167 : decode cX9_succeeds 167 = .ok (.getfield 10, 3) := by decide +kernel
theorem dX9_succeeds_170 : decode cX9_succeeds 170 = .ok (.invokevirtual 87, 3) := by decide +kernel
theorem dX9_succeeds_173 : decode cX9_succeeds 173 = .ok (.iconst 1, 1) := by decide +kernel
theorem dX9_succeeds_174 : decode cX9_succeeds 174 = .ok (.ireturn, 1) := by decide +kernel
theorem dX9_succeeds_175 : decode cX9_succeeds 175 = .ok (.astore_n 2, 1) := by decide +kernel
theorem dX9_succeeds_176 : decode cX9_succeeds 176 = .ok (.iconst 0, 1) := by decide +kernel
theorem dX9_succeeds_177 : decode cX9_succeeds 177 = .ok (.ireturn, 1) := by decide +kernel
theorem dX9_succeeds_178 : decode cX9_succeeds 178 = .ok (.astore_n 2, 1) := by decide +kernel
theorem dX9_succeeds_179 : decode cX9_succeeds 179 = .ok (.iconst 0, 1) := by decide +kernel
theorem dX9_succeeds_180 : decode cX9_succeeds 180 = .ok (.ireturn, 1) := by decide +kernel
theorem dX9_succeeds_181 : decode cX9_succeeds 181 = .ok (.astore_n 2, 1) := by decide +kernel
theorem dX9_succeeds_182 : decode cX9_succeeds 182 = .ok (.iconst 0, 1) := by decide +kernel
theorem dX9_succeeds_183 : decode cX9_succeeds 183 = .ok (.ireturn, 1) := by decide +kernel
set_option maxHeartbeats 2000000 in
set_option maxRecDepth 20000 in
theorem k_succeeds_0 (l : Launch) (hfl : l.stackTraces = false) (D : va_G) (aT : Nat → ClassId) (x0 : Nat) (v0 : Nat) (t0 : Nat) (p0 : Nat) (o0 : Nat) (sv : Bool) (le : Int32) (lf : Int32) (h0 : Nat) (a0 : Nat) (a1 : Nat) (a2 : Nat) (a3 : Nat) (a4 : Nat) (a5 : Nat) (a6 : Nat) (a7 : Nat) (a8 : Nat) (a9 : Nat) (a10 : Nat) (bb : Nat → Nat → Int32) (nh : Nat) (nm : Nat) (M : Nat → Int32) (Bd : Nat) (hBd : Bd < 1048000) (hC : CoW M Bd) (hB : BlC bb nh nm M) (q0 : Nat) (ca : Int32) (cb : Int32) (cc : Int32) : CxT l yX9_succeeds cX9_succeeds 3 (some (.boolean)) [(0, 174, 175, 117), (0, 174, 178, 207), (0, 174, 181, 252)] 8 3 18 138 D aT [.ref x0, .ref q0] [(x0, .inr (12, [.ref a0, .ref v0, .ref h0, .ref t0, .ref p0, .ref o0, .int (bI sv), .int le, .int lf])), (a0, .inr (10, [.ref a1, .ref a5, .ref a10, .int (bb 8 1), .int (bb 8 2), .int (bb 8 3), .int (bb 8 4), .int (bb 8 5), .int (bb 8 6), .int (bb 8 7), .int (bb 8 8)])), (a1, .inr (6, [.ref a2, .ref a3, .ref a4, .int (nI nh)])), (a2, .inl (aT 0, 6, .inl (bb 0))), (a3, .inl (aT 0, 6, .inl (bb 1))), (a4, .inl (aT 0, 6, .inl (bb 2))), (a5, .inr (8, [.ref a6, .ref a7, .ref a8, .ref a9, .int (nI nm), .int (bb 8 0)])), (a6, .inl (aT 0, 12, .inl (bb 3))), (a7, .inl (aT 0, 12, .inl (bb 4))), (a8, .inl (aT 0, 12, .inl (bb 5))), (a9, .inl (aT 0, 12, .inl (bb 6))), (a10, .inl (aT 0, 4, .inl (bb 7))), (q0, .inr (5, [.ref (zs D 10), .int ca, .int cb, .int cc]))] (qI D aT (fun r W1 => (doF M 0 ca cb cc = none ∧ r = nI 0 ∧ W1 = [(x0, .inr (12, [.ref a0, .ref v0, .ref h0, .ref t0, .ref p0, .ref o0, .int (bI sv), .int le, .int lf])), (a0, .inr (10, [.ref a1, .ref a5, .ref a10, .int (bb 8 1), .int (bb 8 2), .int (bb 8 3), .int (bb 8 4), .int (bb 8 5), .int (bb 8 6), .int (bb 8 7), .int (bb 8 8)])), (a1, .inr (6, [.ref a2, .ref a3, .ref a4, .int (nI nh)])), (a2, .inl (aT 0, 6, .inl (bb 0))), (a3, .inl (aT 0, 6, .inl (bb 1))), (a4, .inl (aT 0, 6, .inl (bb 2))), (a5, .inr (8, [.ref a6, .ref a7, .ref a8, .ref a9, .int (nI nm), .int (bb 8 0)])), (a6, .inl (aT 0, 12, .inl (bb 3))), (a7, .inl (aT 0, 12, .inl (bb 4))), (a8, .inl (aT 0, 12, .inl (bb 5))), (a9, .inl (aT 0, 12, .inl (bb 6))), (a10, .inl (aT 0, 4, .inl (bb 7))), (q0, .inr (5, [.ref (zs D 10), .int ca, .int cb, .int cc]))]) ∨ (r = nI 1 ∧ ∃ (M1 : Nat → Int32) (b2 : Nat → Nat → Int32) (n2 m2 : Nat), doF M 0 ca cb cc = some M1 ∧ BlC b2 n2 m2 M1 ∧ W1 = [(x0, .inr (12, [.ref a0, .ref v0, .ref h0, .ref t0, .ref p0, .ref o0, .int (bI sv), .int le, .int lf])), (a0, .inr (10, [.ref a1, .ref a5, .ref a10, .int (b2 8 1), .int (b2 8 2), .int (b2 8 3), .int (b2 8 4), .int (b2 8 5), .int (b2 8 6), .int (b2 8 7), .int (b2 8 8)])), (a1, .inr (6, [.ref a2, .ref a3, .ref a4, .int (nI n2)])), (a2, .inl (aT 0, 6, .inl (b2 0))), (a3, .inl (aT 0, 6, .inl (b2 1))), (a4, .inl (aT 0, 6, .inl (b2 2))), (a5, .inr (8, [.ref a6, .ref a7, .ref a8, .ref a9, .int (nI m2), .int (b2 8 0)])), (a6, .inl (aT 0, 12, .inl (b2 3))), (a7, .inl (aT 0, 12, .inl (b2 4))), (a8, .inl (aT 0, 12, .inl (b2 5))), (a9, .inl (aT 0, 12, .inl (b2 6))), (a10, .inl (aT 0, 4, .inl (b2 7))), (q0, .inr (5, [.ref (zs D 10), .int ca, .int cb, .int cc]))]))) := by
  have hH := hB.he hC
  have hO := hB.mo hC
  obtain ⟨s0, hs4, hs3⟩ := hC.2.2.1
  have hs0 : bb 8 1 = nI s0 := by rw [hB.2.2.2.2.2.1.2.1]; exact hs3
  have ehn := hB.1
  have emn := hB.2.1
  refine CxT.of RX9 (by decide +kernel) rfl (Nat.le_of_ble_eq_true rfl) ?_
  intro p e s m below meth c A ls C hml hl hA hr hlocks htb hZ hW
  have hl : lv_has ls 3 [(0, .ref x0), (1, .ref q0)] := hl
  have hx := C.1
  have hb := C.2.1
  refine va_gets hx hb hZ.2.2.2.2.2.2.2.2.2.2.1.2.2.2.2.2.2.1 hW.2.2 C.2.2.2.1 (C.2.2.1 _ gw_1305) (fun _ h9 => h9) dX9_succeeds_0 ?_
  refine lv_aload_n hx hb dX9_succeeds_3 rfl (lv_at hl 1 rfl) ?_
  refine cx_getN C hZ hW 12 0 rfl rfl (by decide) inX1 nw_1197 rfl rfl dX9_succeeds_4 ?_
  refine cx_callh (Wr := [(x0, .inr (12, [.ref a0, .ref v0, .ref h0, .ref t0, .ref p0, .ref o0, .int (bI sv), .int le, .int lf])), (a0, .inr (10, [.ref a1, .ref a5, .ref a10, .int (bb 8 1), .int (bb 8 2), .int (bb 8 3), .int (bb 8 4), .int (bb 8 5), .int (bb 8 6), .int (bb 8 7), .int (bb 8 8)])), (a1, .inr (6, [.ref a2, .ref a3, .ref a4, .int (nI nh)])), (a2, .inl (aT 0, 6, .inl (bb 0))), (a3, .inl (aT 0, 6, .inl (bb 1))), (a4, .inl (aT 0, 6, .inl (bb 2))), (a5, .inr (8, [.ref a6, .ref a7, .ref a8, .ref a9, .int (nI nm), .int (bb 8 0)])), (a6, .inl (aT 0, 12, .inl (bb 3))), (a7, .inl (aT 0, 12, .inl (bb 4))), (a8, .inl (aT 0, 12, .inl (bb 5))), (a9, .inl (aT 0, 12, .inl (bb 6))), (a10, .inl (aT 0, 4, .inl (bb 7))), (q0, .inr (5, [.ref (zs D 10), .int ca, .int cb, .int cc]))]) (cx_runOR C hml hl.1 hZ hW hA (i := 0) (rest := [.ref (zs D 2)]) (by decide) gw_1307 ⟨Nat.le_of_ble_eq_true rfl, Nat.le_of_ble_eq_true rfl⟩ ⟨Nat.le_of_ble_eq_true rfl, Nat.le_of_ble_eq_true rfl⟩ (Nat.le_of_ble_eq_true rfl) dX9_succeeds_7) hW hA [] [0, 1, 2, 3, 4, 5, 6, 7, 8, 9, 10, 11, 12] rfl rfl (by decide) (by decide)  (fun r_7 W_7 H locs hq hW => ?_)
  obtain ⟨rfl, rfl⟩ := hq
  have hW : CxB D [(x0, .inr (12, [.ref a0, .ref v0, .ref h0, .ref t0, .ref p0, .ref o0, .int (bI sv), .int le, .int lf])), (a0, .inr (10, [.ref a1, .ref a5, .ref a10, .int (bb 8 1), .int (bb 8 2), .int (bb 8 3), .int (bb 8 4), .int (bb 8 5), .int (bb 8 6), .int (bb 8 7), .int (bb 8 8)])), (a1, .inr (6, [.ref a2, .ref a3, .ref a4, .int (nI nh)])), (a2, .inl (aT 0, 6, .inl (bb 0))), (a3, .inl (aT 0, 6, .inl (bb 1))), (a4, .inl (aT 0, 6, .inl (bb 2))), (a5, .inr (8, [.ref a6, .ref a7, .ref a8, .ref a9, .int (nI nm), .int (bb 8 0)])), (a6, .inl (aT 0, 12, .inl (bb 3))), (a7, .inl (aT 0, 12, .inl (bb 4))), (a8, .inl (aT 0, 12, .inl (bb 5))), (a9, .inl (aT 0, 12, .inl (bb 6))), (a10, .inl (aT 0, 4, .inl (bb 7))), (q0, .inr (5, [.ref (zs D 10), .int ca, .int cb, .int cc]))] A s.heap H _ := hW
  refine va_ti (v := .int (nI 1)) hx hb (hZ.2.2.2.2.2.2.2.2.2.2.1.2.2.2.2.2.2.2) hW.2.2 (i := nI 0) (vp_in_nI (by decide) (by decide)) (by rw [nI_clamp (by decide)]) dX9_succeeds_10 ?_
  refine lv_tableIn (tgt := 52) hx hb dX9_succeeds_11 (by decide) (by decide) rfl (by decide) ?_
  refine lv_aload_n hx hb dX9_succeeds_52 rfl (lv_at hl 0 rfl) ?_
  refine cx_get C hW 0 0 rfl rfl (by decide) inX9 gw_346 rfl rfl dX9_succeeds_53 ?_
  refine lv_aload_n hx hb dX9_succeeds_56 rfl (lv_at hl 1 rfl) ?_
  refine cx_getN C hZ hW 12 1 rfl rfl (by decide) inX1 nw_1199 rfl rfl dX9_succeeds_57 ?_
  refine lv_aload_n hx hb dX9_succeeds_60 rfl (lv_at hl 1 rfl) ?_
  refine cx_getN C hZ hW 12 2 rfl rfl (by decide) inX1 nw_1201 rfl rfl dX9_succeeds_61 ?_
  refine lv_aload_n hx hb dX9_succeeds_64 rfl (lv_at hl 1 rfl) ?_
  refine cx_getN C hZ hW 12 3 rfl rfl (by decide) inX1 nw_1203 rfl rfl dX9_succeeds_65 ?_
  refine cx_calli (Wr := [(x0, .inr (12, [.ref a0, .ref v0, .ref h0, .ref t0, .ref p0, .ref o0, .int (bI sv), .int le, .int lf])), (q0, .inr (5, [.ref (zs D 10), .int ca, .int cb, .int cc]))]) (cx_runV C hml hl.1 hZ hW hA (As := [.int ca, .int cb, .int cc]) (rest := []) (k_X7_newHedge l hfl D aT a0 a1 a2 a3 a4 a5 a6 a7 a8 a9 a10 bb nh nm M Bd hBd hC hB ca cb cc) gV_X9_X7_newHedge_62 hV_X7_newHedge rfl ⟨Nat.le_of_ble_eq_true rfl, Nat.le_of_ble_eq_true rfl⟩ ⟨Nat.le_of_ble_eq_true rfl, Nat.le_of_ble_eq_true rfl⟩ [1, 2, 3, 4, 5, 6, 7, 8, 9, 10, 11] rfl (by decide) 1 10 rfl rfl rfl rfl (Nat.le_of_ble_eq_true rfl) dX9_succeeds_68) hW hA [1, 2, 3, 4, 5, 6, 7, 8, 9, 10, 11] [0, 12] rfl rfl (by decide) (by decide) ?_ (fun r_68 W_68 H locs hq hW => ?_)
  rotate_left
  obtain ⟨b2_68, ⟨hok_68, h6_68, rfl⟩, hB_68, rfl⟩ := hq
  have hW : CxB D [(x0, .inr (12, [.ref a0, .ref v0, .ref h0, .ref t0, .ref p0, .ref o0, .int (bI sv), .int le, .int lf])), (q0, .inr (5, [.ref (zs D 10), .int ca, .int cb, .int cc])), (a0, .inr (10, [.ref a1, .ref a5, .ref a10, .int (b2_68 8 1), .int (b2_68 8 2), .int (b2_68 8 3), .int (b2_68 8 4), .int (b2_68 8 5), .int (b2_68 8 6), .int (b2_68 8 7), .int (b2_68 8 8)])), (a1, .inr (6, [.ref a2, .ref a3, .ref a4, .int (nI (nh + 1))])), (a2, .inl (aT 0, 6, .inl (b2_68 0))), (a3, .inl (aT 0, 6, .inl (b2_68 1))), (a4, .inl (aT 0, 6, .inl (b2_68 2))), (a5, .inr (8, [.ref a6, .ref a7, .ref a8, .ref a9, .int (nI nm), .int (b2_68 8 0)])), (a6, .inl (aT 0, 12, .inl (b2_68 3))), (a7, .inl (aT 0, 12, .inl (b2_68 4))), (a8, .inl (aT 0, 12, .inl (b2_68 5))), (a9, .inl (aT 0, 12, .inl (b2_68 6))), (a10, .inl (aT 0, 4, .inl (b2_68 7)))] A s.heap H _ := hW
  refine lv_pop hx hb dX9_succeeds_71 rfl ?_
  refine lv_goto (tgt := 173) hx hb dX9_succeeds_72 (by decide) ?_
  refine lv_iconst (v := nI 1) hx hb dX9_succeeds_173 (by decide) ?_
  have hW : CxB D [(x0, .inr (12, [.ref a0, .ref v0, .ref h0, .ref t0, .ref p0, .ref o0, .int (bI sv), .int le, .int lf])), (a0, .inr (10, [.ref a1, .ref a5, .ref a10, .int (b2_68 8 1), .int (b2_68 8 2), .int (b2_68 8 3), .int (b2_68 8 4), .int (b2_68 8 5), .int (b2_68 8 6), .int (b2_68 8 7), .int (b2_68 8 8)])), (a1, .inr (6, [.ref a2, .ref a3, .ref a4, .int (nI (nh + 1))])), (a2, .inl (aT 0, 6, .inl (b2_68 0))), (a3, .inl (aT 0, 6, .inl (b2_68 1))), (a4, .inl (aT 0, 6, .inl (b2_68 2))), (a5, .inr (8, [.ref a6, .ref a7, .ref a8, .ref a9, .int (nI nm), .int (b2_68 8 0)])), (a6, .inl (aT 0, 12, .inl (b2_68 3))), (a7, .inl (aT 0, 12, .inl (b2_68 4))), (a8, .inl (aT 0, 12, .inl (b2_68 5))), (a9, .inl (aT 0, 12, .inl (b2_68 6))), (a10, .inl (aT 0, 4, .inl (b2_68 7))), (q0, .inr (5, [.ref (zs D 10), .int ca, .int cb, .int cc]))] A s.heap H _ := cx_drop hW [0, 2, 3, 4, 5, 6, 7, 8, 9, 10, 11, 12, 1] rfl (by decide)
  exact cx_tret C hr hlocks (by decide) hW ⟨Nat.le_of_ble_eq_true rfl, Nat.le_of_ble_eq_true rfl⟩ (Or.inr ⟨rfl, _, _, _, _, by rw [doF_0, if_pos ⟨hok_68, by omega⟩], hB_68, rfl⟩) dX9_succeeds_174
  · intro E ce q9 W9 H locs hE hW h7 h8 h9
    rcases hE with ⟨⟨rfl, ho⟩ | ⟨rfl, ho, h6⟩, rfl⟩
    · have hW : CxB D [(x0, .inr (12, [.ref a0, .ref v0, .ref h0, .ref t0, .ref p0, .ref o0, .int (bI sv), .int le, .int lf])), (q0, .inr (5, [.ref (zs D 10), .int ca, .int cb, .int cc])), (a0, .inr (10, [.ref a1, .ref a5, .ref a10, .int (bb 8 1), .int (bb 8 2), .int (bb 8 3), .int (bb 8 4), .int (bb 8 5), .int (bb 8 6), .int (bb 8 7), .int (bb 8 8)])), (a1, .inr (6, [.ref a2, .ref a3, .ref a4, .int (nI nh)])), (a2, .inl (aT 0, 6, .inl (bb 0))), (a3, .inl (aT 0, 6, .inl (bb 1))), (a4, .inl (aT 0, 6, .inl (bb 2))), (a5, .inr (8, [.ref a6, .ref a7, .ref a8, .ref a9, .int (nI nm), .int (bb 8 0)])), (a6, .inl (aT 0, 12, .inl (bb 3))), (a7, .inl (aT 0, 12, .inl (bb 4))), (a8, .inl (aT 0, 12, .inl (bb 5))), (a9, .inl (aT 0, 12, .inl (bb 6))), (a10, .inl (aT 0, 4, .inl (bb 7)))] A s.heap H _ := hW
      refine cx_catchT C hZ (nm := "java/lang/IllegalArgumentException") [⟨0, 174, 175, 117⟩] ⟨0, 174, 178, 207⟩ (tableOf [(0, 174, 181, 252)]) htb (fun z hz => by
          simp only [List.mem_cons, List.not_mem_nil, or_false] at hz
          rcases hz with rfl
          · exact Or.inr ⟨by decide, "java/util/NoSuchElementException", gw_862, List.mem_of_getElem? (i := 0) rfl⟩) (by decide) (by decide) gw_1051 nw_561 h7 h8 h9 ?_
      refine lv_astore_n (lv' := [(2, .ref q9), (0, .ref x0), (1, .ref q0)]) hx hb dX9_succeeds_178 rfl hl (by decide) rfl (fun ls hl => ?_)
      refine lv_iconst (v := nI 0) hx hb dX9_succeeds_179 (by decide) ?_
      have hW : CxB D [(x0, .inr (12, [.ref a0, .ref v0, .ref h0, .ref t0, .ref p0, .ref o0, .int (bI sv), .int le, .int lf])), (a0, .inr (10, [.ref a1, .ref a5, .ref a10, .int (bb 8 1), .int (bb 8 2), .int (bb 8 3), .int (bb 8 4), .int (bb 8 5), .int (bb 8 6), .int (bb 8 7), .int (bb 8 8)])), (a1, .inr (6, [.ref a2, .ref a3, .ref a4, .int (nI nh)])), (a2, .inl (aT 0, 6, .inl (bb 0))), (a3, .inl (aT 0, 6, .inl (bb 1))), (a4, .inl (aT 0, 6, .inl (bb 2))), (a5, .inr (8, [.ref a6, .ref a7, .ref a8, .ref a9, .int (nI nm), .int (bb 8 0)])), (a6, .inl (aT 0, 12, .inl (bb 3))), (a7, .inl (aT 0, 12, .inl (bb 4))), (a8, .inl (aT 0, 12, .inl (bb 5))), (a9, .inl (aT 0, 12, .inl (bb 6))), (a10, .inl (aT 0, 4, .inl (bb 7))), (q0, .inr (5, [.ref (zs D 10), .int ca, .int cb, .int cc]))] A s.heap H _ := cx_drop hW [0, 2, 3, 4, 5, 6, 7, 8, 9, 10, 11, 12, 1] rfl (by decide)
      exact cx_tret C hr hlocks (by decide) hW ⟨Nat.le_of_ble_eq_true rfl, Nat.le_of_ble_eq_true rfl⟩ (Or.inl ⟨by rw [doF_0, if_neg (by rintro ⟨z, -⟩; rw [ho] at z; cases z)], rfl, rfl⟩) dX9_succeeds_180
    · have hW : CxB D [(x0, .inr (12, [.ref a0, .ref v0, .ref h0, .ref t0, .ref p0, .ref o0, .int (bI sv), .int le, .int lf])), (q0, .inr (5, [.ref (zs D 10), .int ca, .int cb, .int cc])), (a0, .inr (10, [.ref a1, .ref a5, .ref a10, .int (bb 8 1), .int (bb 8 2), .int (bb 8 3), .int (bb 8 4), .int (bb 8 5), .int (bb 8 6), .int (bb 8 7), .int (bb 8 8)])), (a1, .inr (6, [.ref a2, .ref a3, .ref a4, .int (nI nh)])), (a2, .inl (aT 0, 6, .inl (bb 0))), (a3, .inl (aT 0, 6, .inl (bb 1))), (a4, .inl (aT 0, 6, .inl (bb 2))), (a5, .inr (8, [.ref a6, .ref a7, .ref a8, .ref a9, .int (nI nm), .int (bb 8 0)])), (a6, .inl (aT 0, 12, .inl (bb 3))), (a7, .inl (aT 0, 12, .inl (bb 4))), (a8, .inl (aT 0, 12, .inl (bb 5))), (a9, .inl (aT 0, 12, .inl (bb 6))), (a10, .inl (aT 0, 4, .inl (bb 7)))] A s.heap H _ := hW
      refine cx_catchT C hZ (nm := "java/lang/IllegalStateException") [⟨0, 174, 175, 117⟩, ⟨0, 174, 178, 207⟩] ⟨0, 174, 181, 252⟩ (tableOf []) htb (fun z hz => by
          simp only [List.mem_cons, List.not_mem_nil, or_false] at hz
          rcases hz with rfl | rfl
          · exact Or.inr ⟨by decide, "java/util/NoSuchElementException", gw_862, List.mem_of_getElem? (i := 1) rfl⟩
          · exact Or.inr ⟨by decide, "java/lang/IllegalArgumentException", gw_1051, List.mem_of_getElem? (i := 3) rfl⟩) (by decide) (by decide) gw_1098 nw_637 h7 h8 h9 ?_
      refine lv_astore_n (lv' := [(2, .ref q9), (0, .ref x0), (1, .ref q0)]) hx hb dX9_succeeds_181 rfl hl (by decide) rfl (fun ls hl => ?_)
      refine lv_iconst (v := nI 0) hx hb dX9_succeeds_182 (by decide) ?_
      have hW : CxB D [(x0, .inr (12, [.ref a0, .ref v0, .ref h0, .ref t0, .ref p0, .ref o0, .int (bI sv), .int le, .int lf])), (a0, .inr (10, [.ref a1, .ref a5, .ref a10, .int (bb 8 1), .int (bb 8 2), .int (bb 8 3), .int (bb 8 4), .int (bb 8 5), .int (bb 8 6), .int (bb 8 7), .int (bb 8 8)])), (a1, .inr (6, [.ref a2, .ref a3, .ref a4, .int (nI nh)])), (a2, .inl (aT 0, 6, .inl (bb 0))), (a3, .inl (aT 0, 6, .inl (bb 1))), (a4, .inl (aT 0, 6, .inl (bb 2))), (a5, .inr (8, [.ref a6, .ref a7, .ref a8, .ref a9, .int (nI nm), .int (bb 8 0)])), (a6, .inl (aT 0, 12, .inl (bb 3))), (a7, .inl (aT 0, 12, .inl (bb 4))), (a8, .inl (aT 0, 12, .inl (bb 5))), (a9, .inl (aT 0, 12, .inl (bb 6))), (a10, .inl (aT 0, 4, .inl (bb 7))), (q0, .inr (5, [.ref (zs D 10), .int ca, .int cb, .int cc]))] A s.heap H _ := cx_drop hW [0, 2, 3, 4, 5, 6, 7, 8, 9, 10, 11, 12, 1] rfl (by decide)
      exact cx_tret C hr hlocks (by decide) hW ⟨Nat.le_of_ble_eq_true rfl, Nat.le_of_ble_eq_true rfl⟩ (Or.inl ⟨by rw [doF_0, if_neg (by rintro ⟨-, z⟩; omega)], rfl, rfl⟩) dX9_succeeds_183
set_option maxHeartbeats 2000000 in
set_option maxRecDepth 20000 in
theorem k_succeeds_1 (l : Launch) (hfl : l.stackTraces = false) (D : va_G) (aT : Nat → ClassId) (x0 : Nat) (v0 : Nat) (t0 : Nat) (p0 : Nat) (o0 : Nat) (sv : Bool) (le : Int32) (lf : Int32) (h0 : Nat) (a0 : Nat) (a1 : Nat) (a2 : Nat) (a3 : Nat) (a4 : Nat) (a5 : Nat) (a6 : Nat) (a7 : Nat) (a8 : Nat) (a9 : Nat) (a10 : Nat) (bb : Nat → Nat → Int32) (nh : Nat) (nm : Nat) (M : Nat → Int32) (Bd : Nat) (hBd : Bd < 1048000) (hC : CoW M Bd) (hB : BlC bb nh nm M) (q0 : Nat) (ca : Int32) (cb : Int32) (cc : Int32) : CxT l yX9_succeeds cX9_succeeds 3 (some (.boolean)) [(0, 174, 175, 117), (0, 174, 178, 207), (0, 174, 181, 252)] 8 3 18 138 D aT [.ref x0, .ref q0] [(x0, .inr (12, [.ref a0, .ref v0, .ref h0, .ref t0, .ref p0, .ref o0, .int (bI sv), .int le, .int lf])), (a0, .inr (10, [.ref a1, .ref a5, .ref a10, .int (bb 8 1), .int (bb 8 2), .int (bb 8 3), .int (bb 8 4), .int (bb 8 5), .int (bb 8 6), .int (bb 8 7), .int (bb 8 8)])), (a1, .inr (6, [.ref a2, .ref a3, .ref a4, .int (nI nh)])), (a2, .inl (aT 0, 6, .inl (bb 0))), (a3, .inl (aT 0, 6, .inl (bb 1))), (a4, .inl (aT 0, 6, .inl (bb 2))), (a5, .inr (8, [.ref a6, .ref a7, .ref a8, .ref a9, .int (nI nm), .int (bb 8 0)])), (a6, .inl (aT 0, 12, .inl (bb 3))), (a7, .inl (aT 0, 12, .inl (bb 4))), (a8, .inl (aT 0, 12, .inl (bb 5))), (a9, .inl (aT 0, 12, .inl (bb 6))), (a10, .inl (aT 0, 4, .inl (bb 7))), (q0, .inr (5, [.ref (zs D 11), .int ca, .int cb, .int cc]))] (qI D aT (fun r W1 => (doF M 1 ca cb cc = none ∧ r = nI 0 ∧ W1 = [(x0, .inr (12, [.ref a0, .ref v0, .ref h0, .ref t0, .ref p0, .ref o0, .int (bI sv), .int le, .int lf])), (a0, .inr (10, [.ref a1, .ref a5, .ref a10, .int (bb 8 1), .int (bb 8 2), .int (bb 8 3), .int (bb 8 4), .int (bb 8 5), .int (bb 8 6), .int (bb 8 7), .int (bb 8 8)])), (a1, .inr (6, [.ref a2, .ref a3, .ref a4, .int (nI nh)])), (a2, .inl (aT 0, 6, .inl (bb 0))), (a3, .inl (aT 0, 6, .inl (bb 1))), (a4, .inl (aT 0, 6, .inl (bb 2))), (a5, .inr (8, [.ref a6, .ref a7, .ref a8, .ref a9, .int (nI nm), .int (bb 8 0)])), (a6, .inl (aT 0, 12, .inl (bb 3))), (a7, .inl (aT 0, 12, .inl (bb 4))), (a8, .inl (aT 0, 12, .inl (bb 5))), (a9, .inl (aT 0, 12, .inl (bb 6))), (a10, .inl (aT 0, 4, .inl (bb 7))), (q0, .inr (5, [.ref (zs D 11), .int ca, .int cb, .int cc]))]) ∨ (r = nI 1 ∧ ∃ (M1 : Nat → Int32) (b2 : Nat → Nat → Int32) (n2 m2 : Nat), doF M 1 ca cb cc = some M1 ∧ BlC b2 n2 m2 M1 ∧ W1 = [(x0, .inr (12, [.ref a0, .ref v0, .ref h0, .ref t0, .ref p0, .ref o0, .int (bI sv), .int le, .int lf])), (a0, .inr (10, [.ref a1, .ref a5, .ref a10, .int (b2 8 1), .int (b2 8 2), .int (b2 8 3), .int (b2 8 4), .int (b2 8 5), .int (b2 8 6), .int (b2 8 7), .int (b2 8 8)])), (a1, .inr (6, [.ref a2, .ref a3, .ref a4, .int (nI n2)])), (a2, .inl (aT 0, 6, .inl (b2 0))), (a3, .inl (aT 0, 6, .inl (b2 1))), (a4, .inl (aT 0, 6, .inl (b2 2))), (a5, .inr (8, [.ref a6, .ref a7, .ref a8, .ref a9, .int (nI m2), .int (b2 8 0)])), (a6, .inl (aT 0, 12, .inl (b2 3))), (a7, .inl (aT 0, 12, .inl (b2 4))), (a8, .inl (aT 0, 12, .inl (b2 5))), (a9, .inl (aT 0, 12, .inl (b2 6))), (a10, .inl (aT 0, 4, .inl (b2 7))), (q0, .inr (5, [.ref (zs D 11), .int ca, .int cb, .int cc]))]))) := by
  have hH := hB.he hC
  have hO := hB.mo hC
  obtain ⟨s0, hs4, hs3⟩ := hC.2.2.1
  have hs0 : bb 8 1 = nI s0 := by rw [hB.2.2.2.2.2.1.2.1]; exact hs3
  have ehn := hB.1
  have emn := hB.2.1
  refine CxT.of RX9 (by decide +kernel) rfl (Nat.le_of_ble_eq_true rfl) ?_
  intro p e s m below meth c A ls C hml hl hA hr hlocks htb hZ hW
  have hl : lv_has ls 3 [(0, .ref x0), (1, .ref q0)] := hl
  have hx := C.1
  have hb := C.2.1
  refine va_gets hx hb hZ.2.2.2.2.2.2.2.2.2.2.1.2.2.2.2.2.2.1 hW.2.2 C.2.2.2.1 (C.2.2.1 _ gw_1305) (fun _ h9 => h9) dX9_succeeds_0 ?_
  refine lv_aload_n hx hb dX9_succeeds_3 rfl (lv_at hl 1 rfl) ?_
  refine cx_getN C hZ hW 12 0 rfl rfl (by decide) inX1 nw_1197 rfl rfl dX9_succeeds_4 ?_
  refine cx_callh (Wr := [(x0, .inr (12, [.ref a0, .ref v0, .ref h0, .ref t0, .ref p0, .ref o0, .int (bI sv), .int le, .int lf])), (a0, .inr (10, [.ref a1, .ref a5, .ref a10, .int (bb 8 1), .int (bb 8 2), .int (bb 8 3), .int (bb 8 4), .int (bb 8 5), .int (bb 8 6), .int (bb 8 7), .int (bb 8 8)])), (a1, .inr (6, [.ref a2, .ref a3, .ref a4, .int (nI nh)])), (a2, .inl (aT 0, 6, .inl (bb 0))), (a3, .inl (aT 0, 6, .inl (bb 1))), (a4, .inl (aT 0, 6, .inl (bb 2))), (a5, .inr (8, [.ref a6, .ref a7, .ref a8, .ref a9, .int (nI nm), .int (bb 8 0)])), (a6, .inl (aT 0, 12, .inl (bb 3))), (a7, .inl (aT 0, 12, .inl (bb 4))), (a8, .inl (aT 0, 12, .inl (bb 5))), (a9, .inl (aT 0, 12, .inl (bb 6))), (a10, .inl (aT 0, 4, .inl (bb 7))), (q0, .inr (5, [.ref (zs D 11), .int ca, .int cb, .int cc]))]) (cx_runOR C hml hl.1 hZ hW hA (i := 1) (rest := [.ref (zs D 2)]) (by decide) gw_1307 ⟨Nat.le_of_ble_eq_true rfl, Nat.le_of_ble_eq_true rfl⟩ ⟨Nat.le_of_ble_eq_true rfl, Nat.le_of_ble_eq_true rfl⟩ (Nat.le_of_ble_eq_true rfl) dX9_succeeds_7) hW hA [] [0, 1, 2, 3, 4, 5, 6, 7, 8, 9, 10, 11, 12] rfl rfl (by decide) (by decide)  (fun r_7 W_7 H locs hq hW => ?_)
  obtain ⟨rfl, rfl⟩ := hq
  have hW : CxB D [(x0, .inr (12, [.ref a0, .ref v0, .ref h0, .ref t0, .ref p0, .ref o0, .int (bI sv), .int le, .int lf])), (a0, .inr (10, [.ref a1, .ref a5, .ref a10, .int (bb 8 1), .int (bb 8 2), .int (bb 8 3), .int (bb 8 4), .int (bb 8 5), .int (bb 8 6), .int (bb 8 7), .int (bb 8 8)])), (a1, .inr (6, [.ref a2, .ref a3, .ref a4, .int (nI nh)])), (a2, .inl (aT 0, 6, .inl (bb 0))), (a3, .inl (aT 0, 6, .inl (bb 1))), (a4, .inl (aT 0, 6, .inl (bb 2))), (a5, .inr (8, [.ref a6, .ref a7, .ref a8, .ref a9, .int (nI nm), .int (bb 8 0)])), (a6, .inl (aT 0, 12, .inl (bb 3))), (a7, .inl (aT 0, 12, .inl (bb 4))), (a8, .inl (aT 0, 12, .inl (bb 5))), (a9, .inl (aT 0, 12, .inl (bb 6))), (a10, .inl (aT 0, 4, .inl (bb 7))), (q0, .inr (5, [.ref (zs D 11), .int ca, .int cb, .int cc]))] A s.heap H _ := hW
  refine va_ti (v := .int (nI 2)) hx hb (hZ.2.2.2.2.2.2.2.2.2.2.1.2.2.2.2.2.2.2) hW.2.2 (i := nI 1) (vp_in_nI (by decide) (by decide)) (by rw [nI_clamp (by decide)]) dX9_succeeds_10 ?_
  refine lv_tableIn (tgt := 75) hx hb dX9_succeeds_11 (by decide) (by decide) rfl (by decide) ?_
  refine lv_aload_n hx hb dX9_succeeds_75 rfl (lv_at hl 0 rfl) ?_
  refine cx_get C hW 0 0 rfl rfl (by decide) inX9 gw_346 rfl rfl dX9_succeeds_76 ?_
  refine lv_aload_n hx hb dX9_succeeds_79 rfl (lv_at hl 1 rfl) ?_
  refine cx_getN C hZ hW 12 1 rfl rfl (by decide) inX1 nw_1199 rfl rfl dX9_succeeds_80 ?_
  refine lv_aload_n hx hb dX9_succeeds_83 rfl (lv_at hl 1 rfl) ?_
  refine cx_getN C hZ hW 12 2 rfl rfl (by decide) inX1 nw_1201 rfl rfl dX9_succeeds_84 ?_
  refine cx_calli (Wr := [(x0, .inr (12, [.ref a0, .ref v0, .ref h0, .ref t0, .ref p0, .ref o0, .int (bI sv), .int le, .int lf])), (q0, .inr (5, [.ref (zs D 11), .int ca, .int cb, .int cc]))]) (cx_runV C hml hl.1 hZ hW hA (As := [.int ca, .int cb]) (rest := []) (k_X7_newMain l hfl D aT a0 a1 a2 a3 a4 a5 a6 a7 a8 a9 a10 bb nh nm M Bd hBd hC hB ca cb) gV_X9_X7_newMain_69 hV_X7_newMain rfl ⟨Nat.le_of_ble_eq_true rfl, Nat.le_of_ble_eq_true rfl⟩ ⟨Nat.le_of_ble_eq_true rfl, Nat.le_of_ble_eq_true rfl⟩ [1, 2, 3, 4, 5, 6, 7, 8, 9, 10, 11] rfl (by decide) 1 10 rfl rfl rfl rfl (Nat.le_of_ble_eq_true rfl) dX9_succeeds_87) hW hA [1, 2, 3, 4, 5, 6, 7, 8, 9, 10, 11] [0, 12] rfl rfl (by decide) (by decide) ?_ (fun r_87 W_87 H locs hq hW => ?_)
  rotate_left
  obtain ⟨b2_87, ⟨hok_87, h12_87, rfl⟩, hB_87, rfl⟩ := hq
  have hW : CxB D [(x0, .inr (12, [.ref a0, .ref v0, .ref h0, .ref t0, .ref p0, .ref o0, .int (bI sv), .int le, .int lf])), (q0, .inr (5, [.ref (zs D 11), .int ca, .int cb, .int cc])), (a0, .inr (10, [.ref a1, .ref a5, .ref a10, .int (b2_87 8 1), .int (b2_87 8 2), .int (b2_87 8 3), .int (b2_87 8 4), .int (b2_87 8 5), .int (b2_87 8 6), .int (b2_87 8 7), .int (b2_87 8 8)])), (a1, .inr (6, [.ref a2, .ref a3, .ref a4, .int (nI nh)])), (a2, .inl (aT 0, 6, .inl (b2_87 0))), (a3, .inl (aT 0, 6, .inl (b2_87 1))), (a4, .inl (aT 0, 6, .inl (b2_87 2))), (a5, .inr (8, [.ref a6, .ref a7, .ref a8, .ref a9, .int (nI (nm + 1)), .int (b2_87 8 0)])), (a6, .inl (aT 0, 12, .inl (b2_87 3))), (a7, .inl (aT 0, 12, .inl (b2_87 4))), (a8, .inl (aT 0, 12, .inl (b2_87 5))), (a9, .inl (aT 0, 12, .inl (b2_87 6))), (a10, .inl (aT 0, 4, .inl (b2_87 7)))] A s.heap H _ := hW
  refine lv_pop hx hb dX9_succeeds_90 rfl ?_
  refine lv_goto (tgt := 173) hx hb dX9_succeeds_91 (by decide) ?_
  refine lv_iconst (v := nI 1) hx hb dX9_succeeds_173 (by decide) ?_
  have hW : CxB D [(x0, .inr (12, [.ref a0, .ref v0, .ref h0, .ref t0, .ref p0, .ref o0, .int (bI sv), .int le, .int lf])), (a0, .inr (10, [.ref a1, .ref a5, .ref a10, .int (b2_87 8 1), .int (b2_87 8 2), .int (b2_87 8 3), .int (b2_87 8 4), .int (b2_87 8 5), .int (b2_87 8 6), .int (b2_87 8 7), .int (b2_87 8 8)])), (a1, .inr (6, [.ref a2, .ref a3, .ref a4, .int (nI nh)])), (a2, .inl (aT 0, 6, .inl (b2_87 0))), (a3, .inl (aT 0, 6, .inl (b2_87 1))), (a4, .inl (aT 0, 6, .inl (b2_87 2))), (a5, .inr (8, [.ref a6, .ref a7, .ref a8, .ref a9, .int (nI (nm + 1)), .int (b2_87 8 0)])), (a6, .inl (aT 0, 12, .inl (b2_87 3))), (a7, .inl (aT 0, 12, .inl (b2_87 4))), (a8, .inl (aT 0, 12, .inl (b2_87 5))), (a9, .inl (aT 0, 12, .inl (b2_87 6))), (a10, .inl (aT 0, 4, .inl (b2_87 7))), (q0, .inr (5, [.ref (zs D 11), .int ca, .int cb, .int cc]))] A s.heap H _ := cx_drop hW [0, 2, 3, 4, 5, 6, 7, 8, 9, 10, 11, 12, 1] rfl (by decide)
  exact cx_tret C hr hlocks (by decide) hW ⟨Nat.le_of_ble_eq_true rfl, Nat.le_of_ble_eq_true rfl⟩ (Or.inr ⟨rfl, _, _, _, _, by rw [doF_1, if_pos ⟨hok_87, by omega⟩], hB_87, rfl⟩) dX9_succeeds_174
  · intro E ce q9 W9 H locs hE hW h7 h8 h9
    rcases hE with ⟨⟨rfl, ho⟩ | ⟨rfl, ho, h6⟩, rfl⟩
    · have hW : CxB D [(x0, .inr (12, [.ref a0, .ref v0, .ref h0, .ref t0, .ref p0, .ref o0, .int (bI sv), .int le, .int lf])), (q0, .inr (5, [.ref (zs D 11), .int ca, .int cb, .int cc])), (a0, .inr (10, [.ref a1, .ref a5, .ref a10, .int (bb 8 1), .int (bb 8 2), .int (bb 8 3), .int (bb 8 4), .int (bb 8 5), .int (bb 8 6), .int (bb 8 7), .int (bb 8 8)])), (a1, .inr (6, [.ref a2, .ref a3, .ref a4, .int (nI nh)])), (a2, .inl (aT 0, 6, .inl (bb 0))), (a3, .inl (aT 0, 6, .inl (bb 1))), (a4, .inl (aT 0, 6, .inl (bb 2))), (a5, .inr (8, [.ref a6, .ref a7, .ref a8, .ref a9, .int (nI nm), .int (bb 8 0)])), (a6, .inl (aT 0, 12, .inl (bb 3))), (a7, .inl (aT 0, 12, .inl (bb 4))), (a8, .inl (aT 0, 12, .inl (bb 5))), (a9, .inl (aT 0, 12, .inl (bb 6))), (a10, .inl (aT 0, 4, .inl (bb 7)))] A s.heap H _ := hW
      refine cx_catchT C hZ (nm := "java/lang/IllegalArgumentException") [⟨0, 174, 175, 117⟩] ⟨0, 174, 178, 207⟩ (tableOf [(0, 174, 181, 252)]) htb (fun z hz => by
          simp only [List.mem_cons, List.not_mem_nil, or_false] at hz
          rcases hz with rfl
          · exact Or.inr ⟨by decide, "java/util/NoSuchElementException", gw_862, List.mem_of_getElem? (i := 0) rfl⟩) (by decide) (by decide) gw_1051 nw_561 h7 h8 h9 ?_
      refine lv_astore_n (lv' := [(2, .ref q9), (0, .ref x0), (1, .ref q0)]) hx hb dX9_succeeds_178 rfl hl (by decide) rfl (fun ls hl => ?_)
      refine lv_iconst (v := nI 0) hx hb dX9_succeeds_179 (by decide) ?_
      have hW : CxB D [(x0, .inr (12, [.ref a0, .ref v0, .ref h0, .ref t0, .ref p0, .ref o0, .int (bI sv), .int le, .int lf])), (a0, .inr (10, [.ref a1, .ref a5, .ref a10, .int (bb 8 1), .int (bb 8 2), .int (bb 8 3), .int (bb 8 4), .int (bb 8 5), .int (bb 8 6), .int (bb 8 7), .int (bb 8 8)])), (a1, .inr (6, [.ref a2, .ref a3, .ref a4, .int (nI nh)])), (a2, .inl (aT 0, 6, .inl (bb 0))), (a3, .inl (aT 0, 6, .inl (bb 1))), (a4, .inl (aT 0, 6, .inl (bb 2))), (a5, .inr (8, [.ref a6, .ref a7, .ref a8, .ref a9, .int (nI nm), .int (bb 8 0)])), (a6, .inl (aT 0, 12, .inl (bb 3))), (a7, .inl (aT 0, 12, .inl (bb 4))), (a8, .inl (aT 0, 12, .inl (bb 5))), (a9, .inl (aT 0, 12, .inl (bb 6))), (a10, .inl (aT 0, 4, .inl (bb 7))), (q0, .inr (5, [.ref (zs D 11), .int ca, .int cb, .int cc]))] A s.heap H _ := cx_drop hW [0, 2, 3, 4, 5, 6, 7, 8, 9, 10, 11, 12, 1] rfl (by decide)
      exact cx_tret C hr hlocks (by decide) hW ⟨Nat.le_of_ble_eq_true rfl, Nat.le_of_ble_eq_true rfl⟩ (Or.inl ⟨by rw [doF_1, if_neg (by rintro ⟨z, -⟩; rw [ho] at z; cases z)], rfl, rfl⟩) dX9_succeeds_180
    · have hW : CxB D [(x0, .inr (12, [.ref a0, .ref v0, .ref h0, .ref t0, .ref p0, .ref o0, .int (bI sv), .int le, .int lf])), (q0, .inr (5, [.ref (zs D 11), .int ca, .int cb, .int cc])), (a0, .inr (10, [.ref a1, .ref a5, .ref a10, .int (bb 8 1), .int (bb 8 2), .int (bb 8 3), .int (bb 8 4), .int (bb 8 5), .int (bb 8 6), .int (bb 8 7), .int (bb 8 8)])), (a1, .inr (6, [.ref a2, .ref a3, .ref a4, .int (nI nh)])), (a2, .inl (aT 0, 6, .inl (bb 0))), (a3, .inl (aT 0, 6, .inl (bb 1))), (a4, .inl (aT 0, 6, .inl (bb 2))), (a5, .inr (8, [.ref a6, .ref a7, .ref a8, .ref a9, .int (nI nm), .int (bb 8 0)])), (a6, .inl (aT 0, 12, .inl (bb 3))), (a7, .inl (aT 0, 12, .inl (bb 4))), (a8, .inl (aT 0, 12, .inl (bb 5))), (a9, .inl (aT 0, 12, .inl (bb 6))), (a10, .inl (aT 0, 4, .inl (bb 7)))] A s.heap H _ := hW
      refine cx_catchT C hZ (nm := "java/lang/IllegalStateException") [⟨0, 174, 175, 117⟩, ⟨0, 174, 178, 207⟩] ⟨0, 174, 181, 252⟩ (tableOf []) htb (fun z hz => by
          simp only [List.mem_cons, List.not_mem_nil, or_false] at hz
          rcases hz with rfl | rfl
          · exact Or.inr ⟨by decide, "java/util/NoSuchElementException", gw_862, List.mem_of_getElem? (i := 1) rfl⟩
          · exact Or.inr ⟨by decide, "java/lang/IllegalArgumentException", gw_1051, List.mem_of_getElem? (i := 3) rfl⟩) (by decide) (by decide) gw_1098 nw_637 h7 h8 h9 ?_
      refine lv_astore_n (lv' := [(2, .ref q9), (0, .ref x0), (1, .ref q0)]) hx hb dX9_succeeds_181 rfl hl (by decide) rfl (fun ls hl => ?_)
      refine lv_iconst (v := nI 0) hx hb dX9_succeeds_182 (by decide) ?_
      have hW : CxB D [(x0, .inr (12, [.ref a0, .ref v0, .ref h0, .ref t0, .ref p0, .ref o0, .int (bI sv), .int le, .int lf])), (a0, .inr (10, [.ref a1, .ref a5, .ref a10, .int (bb 8 1), .int (bb 8 2), .int (bb 8 3), .int (bb 8 4), .int (bb 8 5), .int (bb 8 6), .int (bb 8 7), .int (bb 8 8)])), (a1, .inr (6, [.ref a2, .ref a3, .ref a4, .int (nI nh)])), (a2, .inl (aT 0, 6, .inl (bb 0))), (a3, .inl (aT 0, 6, .inl (bb 1))), (a4, .inl (aT 0, 6, .inl (bb 2))), (a5, .inr (8, [.ref a6, .ref a7, .ref a8, .ref a9, .int (nI nm), .int (bb 8 0)])), (a6, .inl (aT 0, 12, .inl (bb 3))), (a7, .inl (aT 0, 12, .inl (bb 4))), (a8, .inl (aT 0, 12, .inl (bb 5))), (a9, .inl (aT 0, 12, .inl (bb 6))), (a10, .inl (aT 0, 4, .inl (bb 7))), (q0, .inr (5, [.ref (zs D 11), .int ca, .int cb, .int cc]))] A s.heap H _ := cx_drop hW [0, 2, 3, 4, 5, 6, 7, 8, 9, 10, 11, 12, 1] rfl (by decide)
      exact cx_tret C hr hlocks (by decide) hW ⟨Nat.le_of_ble_eq_true rfl, Nat.le_of_ble_eq_true rfl⟩ (Or.inl ⟨by rw [doF_1, if_neg (by rintro ⟨-, z⟩; omega)], rfl, rfl⟩) dX9_succeeds_183
set_option maxHeartbeats 2000000 in
set_option maxRecDepth 20000 in
theorem k_succeeds_2 (l : Launch) (hfl : l.stackTraces = false) (D : va_G) (aT : Nat → ClassId) (x0 : Nat) (v0 : Nat) (t0 : Nat) (p0 : Nat) (o0 : Nat) (sv : Bool) (le : Int32) (lf : Int32) (h0 : Nat) (a0 : Nat) (a1 : Nat) (a2 : Nat) (a3 : Nat) (a4 : Nat) (a5 : Nat) (a6 : Nat) (a7 : Nat) (a8 : Nat) (a9 : Nat) (a10 : Nat) (bb : Nat → Nat → Int32) (nh : Nat) (nm : Nat) (M : Nat → Int32) (Bd : Nat) (hBd : Bd < 1048000) (hC : CoW M Bd) (hB : BlC bb nh nm M) (q0 : Nat) (ca : Int32) (cb : Int32) (cc : Int32) : CxT l yX9_succeeds cX9_succeeds 3 (some (.boolean)) [(0, 174, 175, 117), (0, 174, 178, 207), (0, 174, 181, 252)] 8 3 18 138 D aT [.ref x0, .ref q0] [(x0, .inr (12, [.ref a0, .ref v0, .ref h0, .ref t0, .ref p0, .ref o0, .int (bI sv), .int le, .int lf])), (a0, .inr (10, [.ref a1, .ref a5, .ref a10, .int (bb 8 1), .int (bb 8 2), .int (bb 8 3), .int (bb 8 4), .int (bb 8 5), .int (bb 8 6), .int (bb 8 7), .int (bb 8 8)])), (a1, .inr (6, [.ref a2, .ref a3, .ref a4, .int (nI nh)])), (a2, .inl (aT 0, 6, .inl (bb 0))), (a3, .inl (aT 0, 6, .inl (bb 1))), (a4, .inl (aT 0, 6, .inl (bb 2))), (a5, .inr (8, [.ref a6, .ref a7, .ref a8, .ref a9, .int (nI nm), .int (bb 8 0)])), (a6, .inl (aT 0, 12, .inl (bb 3))), (a7, .inl (aT 0, 12, .inl (bb 4))), (a8, .inl (aT 0, 12, .inl (bb 5))), (a9, .inl (aT 0, 12, .inl (bb 6))), (a10, .inl (aT 0, 4, .inl (bb 7))), (q0, .inr (5, [.ref (zs D 12), .int ca, .int cb, .int cc]))] (qI D aT (fun r W1 => (doF M 2 ca cb cc = none ∧ r = nI 0 ∧ W1 = [(x0, .inr (12, [.ref a0, .ref v0, .ref h0, .ref t0, .ref p0, .ref o0, .int (bI sv), .int le, .int lf])), (a0, .inr (10, [.ref a1, .ref a5, .ref a10, .int (bb 8 1), .int (bb 8 2), .int (bb 8 3), .int (bb 8 4), .int (bb 8 5), .int (bb 8 6), .int (bb 8 7), .int (bb 8 8)])), (a1, .inr (6, [.ref a2, .ref a3, .ref a4, .int (nI nh)])), (a2, .inl (aT 0, 6, .inl (bb 0))), (a3, .inl (aT 0, 6, .inl (bb 1))), (a4, .inl (aT 0, 6, .inl (bb 2))), (a5, .inr (8, [.ref a6, .ref a7, .ref a8, .ref a9, .int (nI nm), .int (bb 8 0)])), (a6, .inl (aT 0, 12, .inl (bb 3))), (a7, .inl (aT 0, 12, .inl (bb 4))), (a8, .inl (aT 0, 12, .inl (bb 5))), (a9, .inl (aT 0, 12, .inl (bb 6))), (a10, .inl (aT 0, 4, .inl (bb 7))), (q0, .inr (5, [.ref (zs D 12), .int ca, .int cb, .int cc]))]) ∨ (r = nI 1 ∧ ∃ (M1 : Nat → Int32) (b2 : Nat → Nat → Int32) (n2 m2 : Nat), doF M 2 ca cb cc = some M1 ∧ BlC b2 n2 m2 M1 ∧ W1 = [(x0, .inr (12, [.ref a0, .ref v0, .ref h0, .ref t0, .ref p0, .ref o0, .int (bI sv), .int le, .int lf])), (a0, .inr (10, [.ref a1, .ref a5, .ref a10, .int (b2 8 1), .int (b2 8 2), .int (b2 8 3), .int (b2 8 4), .int (b2 8 5), .int (b2 8 6), .int (b2 8 7), .int (b2 8 8)])), (a1, .inr (6, [.ref a2, .ref a3, .ref a4, .int (nI n2)])), (a2, .inl (aT 0, 6, .inl (b2 0))), (a3, .inl (aT 0, 6, .inl (b2 1))), (a4, .inl (aT 0, 6, .inl (b2 2))), (a5, .inr (8, [.ref a6, .ref a7, .ref a8, .ref a9, .int (nI m2), .int (b2 8 0)])), (a6, .inl (aT 0, 12, .inl (b2 3))), (a7, .inl (aT 0, 12, .inl (b2 4))), (a8, .inl (aT 0, 12, .inl (b2 5))), (a9, .inl (aT 0, 12, .inl (b2 6))), (a10, .inl (aT 0, 4, .inl (b2 7))), (q0, .inr (5, [.ref (zs D 12), .int ca, .int cb, .int cc]))]))) := by
  have hH := hB.he hC
  have hO := hB.mo hC
  obtain ⟨s0, hs4, hs3⟩ := hC.2.2.1
  have hs0 : bb 8 1 = nI s0 := by rw [hB.2.2.2.2.2.1.2.1]; exact hs3
  have ehn := hB.1
  have emn := hB.2.1
  refine CxT.of RX9 (by decide +kernel) rfl (Nat.le_of_ble_eq_true rfl) ?_
  intro p e s m below meth c A ls C hml hl hA hr hlocks htb hZ hW
  have hl : lv_has ls 3 [(0, .ref x0), (1, .ref q0)] := hl
  have hx := C.1
  have hb := C.2.1
  refine va_gets hx hb hZ.2.2.2.2.2.2.2.2.2.2.1.2.2.2.2.2.2.1 hW.2.2 C.2.2.2.1 (C.2.2.1 _ gw_1305) (fun _ h9 => h9) dX9_succeeds_0 ?_
  refine lv_aload_n hx hb dX9_succeeds_3 rfl (lv_at hl 1 rfl) ?_
  refine cx_getN C hZ hW 12 0 rfl rfl (by decide) inX1 nw_1197 rfl rfl dX9_succeeds_4 ?_
  refine cx_callh (Wr := [(x0, .inr (12, [.ref a0, .ref v0, .ref h0, .ref t0, .ref p0, .ref o0, .int (bI sv), .int le, .int lf])), (a0, .inr (10, [.ref a1, .ref a5, .ref a10, .int (bb 8 1), .int (bb 8 2), .int (bb 8 3), .int (bb 8 4), .int (bb 8 5), .int (bb 8 6), .int (bb 8 7), .int (bb 8 8)])), (a1, .inr (6, [.ref a2, .ref a3, .ref a4, .int (nI nh)])), (a2, .inl (aT 0, 6, .inl (bb 0))), (a3, .inl (aT 0, 6, .inl (bb 1))), (a4, .inl (aT 0, 6, .inl (bb 2))), (a5, .inr (8, [.ref a6, .ref a7, .ref a8, .ref a9, .int (nI nm), .int (bb 8 0)])), (a6, .inl (aT 0, 12, .inl (bb 3))), (a7, .inl (aT 0, 12, .inl (bb 4))), (a8, .inl (aT 0, 12, .inl (bb 5))), (a9, .inl (aT 0, 12, .inl (bb 6))), (a10, .inl (aT 0, 4, .inl (bb 7))), (q0, .inr (5, [.ref (zs D 12), .int ca, .int cb, .int cc]))]) (cx_runOR C hml hl.1 hZ hW hA (i := 2) (rest := [.ref (zs D 2)]) (by decide) gw_1307 ⟨Nat.le_of_ble_eq_true rfl, Nat.le_of_ble_eq_true rfl⟩ ⟨Nat.le_of_ble_eq_true rfl, Nat.le_of_ble_eq_true rfl⟩ (Nat.le_of_ble_eq_true rfl) dX9_succeeds_7) hW hA [] [0, 1, 2, 3, 4, 5, 6, 7, 8, 9, 10, 11, 12] rfl rfl (by decide) (by decide)  (fun r_7 W_7 H locs hq hW => ?_)
  obtain ⟨rfl, rfl⟩ := hq
  have hW : CxB D [(x0, .inr (12, [.ref a0, .ref v0, .ref h0, .ref t0, .ref p0, .ref o0, .int (bI sv), .int le, .int lf])), (a0, .inr (10, [.ref a1, .ref a5, .ref a10, .int (bb 8 1), .int (bb 8 2), .int (bb 8 3), .int (bb 8 4), .int (bb 8 5), .int (bb 8 6), .int (bb 8 7), .int (bb 8 8)])), (a1, .inr (6, [.ref a2, .ref a3, .ref a4, .int (nI nh)])), (a2, .inl (aT 0, 6, .inl (bb 0))), (a3, .inl (aT 0, 6, .inl (bb 1))), (a4, .inl (aT 0, 6, .inl (bb 2))), (a5, .inr (8, [.ref a6, .ref a7, .ref a8, .ref a9, .int (nI nm), .int (bb 8 0)])), (a6, .inl (aT 0, 12, .inl (bb 3))), (a7, .inl (aT 0, 12, .inl (bb 4))), (a8, .inl (aT 0, 12, .inl (bb 5))), (a9, .inl (aT 0, 12, .inl (bb 6))), (a10, .inl (aT 0, 4, .inl (bb 7))), (q0, .inr (5, [.ref (zs D 12), .int ca, .int cb, .int cc]))] A s.heap H _ := hW
  refine va_ti (v := .int (nI 3)) hx hb (hZ.2.2.2.2.2.2.2.2.2.2.1.2.2.2.2.2.2.2) hW.2.2 (i := nI 2) (vp_in_nI (by decide) (by decide)) (by rw [nI_clamp (by decide)]) dX9_succeeds_10 ?_
  refine lv_tableIn (tgt := 94) hx hb dX9_succeeds_11 (by decide) (by decide) rfl (by decide) ?_
  refine lv_aload_n hx hb dX9_succeeds_94 rfl (lv_at hl 0 rfl) ?_
  refine cx_get C hW 0 0 rfl rfl (by decide) inX9 gw_346 rfl rfl dX9_succeeds_95 ?_
  refine lv_aload_n hx hb dX9_succeeds_98 rfl (lv_at hl 1 rfl) ?_
  refine cx_getN C hZ hW 12 1 rfl rfl (by decide) inX1 nw_1199 rfl rfl dX9_succeeds_99 ?_
  refine lv_aload_n hx hb dX9_succeeds_102 rfl (lv_at hl 1 rfl) ?_
  refine cx_getN C hZ hW 12 2 rfl rfl (by decide) inX1 nw_1201 rfl rfl dX9_succeeds_103 ?_
  refine lv_aload_n hx hb dX9_succeeds_106 rfl (lv_at hl 1 rfl) ?_
  refine cx_getN C hZ hW 12 3 rfl rfl (by decide) inX1 nw_1203 rfl rfl dX9_succeeds_107 ?_
  refine cx_calli (Wr := [(x0, .inr (12, [.ref a0, .ref v0, .ref h0, .ref t0, .ref p0, .ref o0, .int (bI sv), .int le, .int lf])), (q0, .inr (5, [.ref (zs D 12), .int ca, .int cb, .int cc]))]) (cx_runV C hml hl.1 hZ hW hA (As := [.int ca, .int cb, .int cc]) (rest := []) (k_X7_newAmendment l hfl D aT a0 a1 a2 a3 a4 a5 a6 a7 a8 a9 a10 bb nh nm M Bd hBd hC hB ca cb cc) gV_X9_X7_newAmendment_73 hV_X7_newAmendment rfl ⟨Nat.le_of_ble_eq_true rfl, Nat.le_of_ble_eq_true rfl⟩ ⟨Nat.le_of_ble_eq_true rfl, Nat.le_of_ble_eq_true rfl⟩ [1, 2, 3, 4, 5, 6, 7, 8, 9, 10, 11] rfl (by decide) 1 10 rfl rfl rfl rfl (Nat.le_of_ble_eq_true rfl) dX9_succeeds_110) hW hA [1, 2, 3, 4, 5, 6, 7, 8, 9, 10, 11] [0, 12] rfl rfl (by decide) (by decide) ?_ (fun r_110 W_110 H locs hq hW => ?_)
  rotate_left
  obtain ⟨b2_110, ⟨⟨q_110, hq_110⟩, hok_110, h12_110, rfl⟩, hB_110, rfl⟩ := hq
  have hW : CxB D [(x0, .inr (12, [.ref a0, .ref v0, .ref h0, .ref t0, .ref p0, .ref o0, .int (bI sv), .int le, .int lf])), (q0, .inr (5, [.ref (zs D 12), .int ca, .int cb, .int cc])), (a0, .inr (10, [.ref a1, .ref a5, .ref a10, .int (b2_110 8 1), .int (b2_110 8 2), .int (b2_110 8 3), .int (b2_110 8 4), .int (b2_110 8 5), .int (b2_110 8 6), .int (b2_110 8 7), .int (b2_110 8 8)])), (a1, .inr (6, [.ref a2, .ref a3, .ref a4, .int (nI nh)])), (a2, .inl (aT 0, 6, .inl (b2_110 0))), (a3, .inl (aT 0, 6, .inl (b2_110 1))), (a4, .inl (aT 0, 6, .inl (b2_110 2))), (a5, .inr (8, [.ref a6, .ref a7, .ref a8, .ref a9, .int (nI (nm + 1)), .int (b2_110 8 0)])), (a6, .inl (aT 0, 12, .inl (b2_110 3))), (a7, .inl (aT 0, 12, .inl (b2_110 4))), (a8, .inl (aT 0, 12, .inl (b2_110 5))), (a9, .inl (aT 0, 12, .inl (b2_110 6))), (a10, .inl (aT 0, 4, .inl (b2_110 7)))] A s.heap H _ := hW
  refine lv_pop hx hb dX9_succeeds_113 rfl ?_
  refine lv_goto (tgt := 173) hx hb dX9_succeeds_114 (by decide) ?_
  refine lv_iconst (v := nI 1) hx hb dX9_succeeds_173 (by decide) ?_
  have hW : CxB D [(x0, .inr (12, [.ref a0, .ref v0, .ref h0, .ref t0, .ref p0, .ref o0, .int (bI sv), .int le, .int lf])), (a0, .inr (10, [.ref a1, .ref a5, .ref a10, .int (b2_110 8 1), .int (b2_110 8 2), .int (b2_110 8 3), .int (b2_110 8 4), .int (b2_110 8 5), .int (b2_110 8 6), .int (b2_110 8 7), .int (b2_110 8 8)])), (a1, .inr (6, [.ref a2, .ref a3, .ref a4, .int (nI nh)])), (a2, .inl (aT 0, 6, .inl (b2_110 0))), (a3, .inl (aT 0, 6, .inl (b2_110 1))), (a4, .inl (aT 0, 6, .inl (b2_110 2))), (a5, .inr (8, [.ref a6, .ref a7, .ref a8, .ref a9, .int (nI (nm + 1)), .int (b2_110 8 0)])), (a6, .inl (aT 0, 12, .inl (b2_110 3))), (a7, .inl (aT 0, 12, .inl (b2_110 4))), (a8, .inl (aT 0, 12, .inl (b2_110 5))), (a9, .inl (aT 0, 12, .inl (b2_110 6))), (a10, .inl (aT 0, 4, .inl (b2_110 7))), (q0, .inr (5, [.ref (zs D 12), .int ca, .int cb, .int cc]))] A s.heap H _ := cx_drop hW [0, 2, 3, 4, 5, 6, 7, 8, 9, 10, 11, 12, 1] rfl (by decide)
  exact cx_tret C hr hlocks (by decide) hW ⟨Nat.le_of_ble_eq_true rfl, Nat.le_of_ble_eq_true rfl⟩ (Or.inr ⟨rfl, _, _, _, _, by have hf2 := hq_110; rw [emn] at hf2; rw [doF_2, hf2]; dsimp only; rw [if_pos ⟨hok_110, by omega⟩], hB_110, rfl⟩) dX9_succeeds_174
  · intro E ce q9 W9 H locs hE hW h7 h8 h9
    rcases hE with ⟨⟨rfl, hf⟩ | ⟨⟨q, hf⟩, ⟨rfl, ho⟩ | ⟨rfl, ho, h6⟩⟩, rfl⟩
    · have hW : CxB D [(x0, .inr (12, [.ref a0, .ref v0, .ref h0, .ref t0, .ref p0, .ref o0, .int (bI sv), .int le, .int lf])), (q0, .inr (5, [.ref (zs D 12), .int ca, .int cb, .int cc])), (a0, .inr (10, [.ref a1, .ref a5, .ref a10, .int (bb 8 1), .int (bb 8 2), .int (bb 8 3), .int (bb 8 4), .int (bb 8 5), .int (bb 8 6), .int (bb 8 7), .int (bb 8 8)])), (a1, .inr (6, [.ref a2, .ref a3, .ref a4, .int (nI nh)])), (a2, .inl (aT 0, 6, .inl (bb 0))), (a3, .inl (aT 0, 6, .inl (bb 1))), (a4, .inl (aT 0, 6, .inl (bb 2))), (a5, .inr (8, [.ref a6, .ref a7, .ref a8, .ref a9, .int (nI nm), .int (bb 8 0)])), (a6, .inl (aT 0, 12, .inl (bb 3))), (a7, .inl (aT 0, 12, .inl (bb 4))), (a8, .inl (aT 0, 12, .inl (bb 5))), (a9, .inl (aT 0, 12, .inl (bb 6))), (a10, .inl (aT 0, 4, .inl (bb 7)))] A s.heap H _ := hW
      refine cx_catchT C hZ (nm := "java/util/NoSuchElementException") [] ⟨0, 174, 175, 117⟩ (tableOf [(0, 174, 178, 207), (0, 174, 181, 252)]) htb (fun z hz => by cases hz) (by decide) (by decide) gw_862 nw_705 h7 h8 h9 ?_
      refine lv_astore_n (lv' := [(2, .ref q9), (0, .ref x0), (1, .ref q0)]) hx hb dX9_succeeds_175 rfl hl (by decide) rfl (fun ls hl => ?_)
      refine lv_iconst (v := nI 0) hx hb dX9_succeeds_176 (by decide) ?_
      have hW : CxB D [(x0, .inr (12, [.ref a0, .ref v0, .ref h0, .ref t0, .ref p0, .ref o0, .int (bI sv), .int le, .int lf])), (a0, .inr (10, [.ref a1, .ref a5, .ref a10, .int (bb 8 1), .int (bb 8 2), .int (bb 8 3), .int (bb 8 4), .int (bb 8 5), .int (bb 8 6), .int (bb 8 7), .int (bb 8 8)])), (a1, .inr (6, [.ref a2, .ref a3, .ref a4, .int (nI nh)])), (a2, .inl (aT 0, 6, .inl (bb 0))), (a3, .inl (aT 0, 6, .inl (bb 1))), (a4, .inl (aT 0, 6, .inl (bb 2))), (a5, .inr (8, [.ref a6, .ref a7, .ref a8, .ref a9, .int (nI nm), .int (bb 8 0)])), (a6, .inl (aT 0, 12, .inl (bb 3))), (a7, .inl (aT 0, 12, .inl (bb 4))), (a8, .inl (aT 0, 12, .inl (bb 5))), (a9, .inl (aT 0, 12, .inl (bb 6))), (a10, .inl (aT 0, 4, .inl (bb 7))), (q0, .inr (5, [.ref (zs D 12), .int ca, .int cb, .int cc]))] A s.heap H _ := cx_drop hW [0, 2, 3, 4, 5, 6, 7, 8, 9, 10, 11, 12, 1] rfl (by decide)
      exact cx_tret C hr hlocks (by decide) hW ⟨Nat.le_of_ble_eq_true rfl, Nat.le_of_ble_eq_true rfl⟩ (Or.inl ⟨by rw [emn] at hf; rw [doF_2, hf], rfl, rfl⟩) dX9_succeeds_177
    · have hW : CxB D [(x0, .inr (12, [.ref a0, .ref v0, .ref h0, .ref t0, .ref p0, .ref o0, .int (bI sv), .int le, .int lf])), (q0, .inr (5, [.ref (zs D 12), .int ca, .int cb, .int cc])), (a0, .inr (10, [.ref a1, .ref a5, .ref a10, .int (bb 8 1), .int (bb 8 2), .int (bb 8 3), .int (bb 8 4), .int (bb 8 5), .int (bb 8 6), .int (bb 8 7), .int (bb 8 8)])), (a1, .inr (6, [.ref a2, .ref a3, .ref a4, .int (nI nh)])), (a2, .inl (aT 0, 6, .inl (bb 0))), (a3, .inl (aT 0, 6, .inl (bb 1))), (a4, .inl (aT 0, 6, .inl (bb 2))), (a5, .inr (8, [.ref a6, .ref a7, .ref a8, .ref a9, .int (nI nm), .int (bb 8 0)])), (a6, .inl (aT 0, 12, .inl (bb 3))), (a7, .inl (aT 0, 12, .inl (bb 4))), (a8, .inl (aT 0, 12, .inl (bb 5))), (a9, .inl (aT 0, 12, .inl (bb 6))), (a10, .inl (aT 0, 4, .inl (bb 7)))] A s.heap H _ := hW
      refine cx_catchT C hZ (nm := "java/lang/IllegalArgumentException") [⟨0, 174, 175, 117⟩] ⟨0, 174, 178, 207⟩ (tableOf [(0, 174, 181, 252)]) htb (fun z hz => by
          simp only [List.mem_cons, List.not_mem_nil, or_false] at hz
          rcases hz with rfl
          · exact Or.inr ⟨by decide, "java/util/NoSuchElementException", gw_862, List.mem_of_getElem? (i := 0) rfl⟩) (by decide) (by decide) gw_1051 nw_561 h7 h8 h9 ?_
      refine lv_astore_n (lv' := [(2, .ref q9), (0, .ref x0), (1, .ref q0)]) hx hb dX9_succeeds_178 rfl hl (by decide) rfl (fun ls hl => ?_)
      refine lv_iconst (v := nI 0) hx hb dX9_succeeds_179 (by decide) ?_
      have hW : CxB D [(x0, .inr (12, [.ref a0, .ref v0, .ref h0, .ref t0, .ref p0, .ref o0, .int (bI sv), .int le, .int lf])), (a0, .inr (10, [.ref a1, .ref a5, .ref a10, .int (bb 8 1), .int (bb 8 2), .int (bb 8 3), .int (bb 8 4), .int (bb 8 5), .int (bb 8 6), .int (bb 8 7), .int (bb 8 8)])), (a1, .inr (6, [.ref a2, .ref a3, .ref a4, .int (nI nh)])), (a2, .inl (aT 0, 6, .inl (bb 0))), (a3, .inl (aT 0, 6, .inl (bb 1))), (a4, .inl (aT 0, 6, .inl (bb 2))), (a5, .inr (8, [.ref a6, .ref a7, .ref a8, .ref a9, .int (nI nm), .int (bb 8 0)])), (a6, .inl (aT 0, 12, .inl (bb 3))), (a7, .inl (aT 0, 12, .inl (bb 4))), (a8, .inl (aT 0, 12, .inl (bb 5))), (a9, .inl (aT 0, 12, .inl (bb 6))), (a10, .inl (aT 0, 4, .inl (bb 7))), (q0, .inr (5, [.ref (zs D 12), .int ca, .int cb, .int cc]))] A s.heap H _ := cx_drop hW [0, 2, 3, 4, 5, 6, 7, 8, 9, 10, 11, 12, 1] rfl (by decide)
      exact cx_tret C hr hlocks (by decide) hW ⟨Nat.le_of_ble_eq_true rfl, Nat.le_of_ble_eq_true rfl⟩ (Or.inl ⟨by rw [emn] at hf; rw [doF_2, hf]; dsimp only; rw [if_neg (by rintro ⟨z, -⟩; rw [ho] at z; cases z)], rfl, rfl⟩) dX9_succeeds_180
    · have hW : CxB D [(x0, .inr (12, [.ref a0, .ref v0, .ref h0, .ref t0, .ref p0, .ref o0, .int (bI sv), .int le, .int lf])), (q0, .inr (5, [.ref (zs D 12), .int ca, .int cb, .int cc])), (a0, .inr (10, [.ref a1, .ref a5, .ref a10, .int (bb 8 1), .int (bb 8 2), .int (bb 8 3), .int (bb 8 4), .int (bb 8 5), .int (bb 8 6), .int (bb 8 7), .int (bb 8 8)])), (a1, .inr (6, [.ref a2, .ref a3, .ref a4, .int (nI nh)])), (a2, .inl (aT 0, 6, .inl (bb 0))), (a3, .inl (aT 0, 6, .inl (bb 1))), (a4, .inl (aT 0, 6, .inl (bb 2))), (a5, .inr (8, [.ref a6, .ref a7, .ref a8, .ref a9, .int (nI nm), .int (bb 8 0)])), (a6, .inl (aT 0, 12, .inl (bb 3))), (a7, .inl (aT 0, 12, .inl (bb 4))), (a8, .inl (aT 0, 12, .inl (bb 5))), (a9, .inl (aT 0, 12, .inl (bb 6))), (a10, .inl (aT 0, 4, .inl (bb 7)))] A s.heap H _ := hW
      refine cx_catchT C hZ (nm := "java/lang/IllegalStateException") [⟨0, 174, 175, 117⟩, ⟨0, 174, 178, 207⟩] ⟨0, 174, 181, 252⟩ (tableOf []) htb (fun z hz => by
          simp only [List.mem_cons, List.not_mem_nil, or_false] at hz
          rcases hz with rfl | rfl
          · exact Or.inr ⟨by decide, "java/util/NoSuchElementException", gw_862, List.mem_of_getElem? (i := 1) rfl⟩
          · exact Or.inr ⟨by decide, "java/lang/IllegalArgumentException", gw_1051, List.mem_of_getElem? (i := 3) rfl⟩) (by decide) (by decide) gw_1098 nw_637 h7 h8 h9 ?_
      refine lv_astore_n (lv' := [(2, .ref q9), (0, .ref x0), (1, .ref q0)]) hx hb dX9_succeeds_181 rfl hl (by decide) rfl (fun ls hl => ?_)
      refine lv_iconst (v := nI 0) hx hb dX9_succeeds_182 (by decide) ?_
      have hW : CxB D [(x0, .inr (12, [.ref a0, .ref v0, .ref h0, .ref t0, .ref p0, .ref o0, .int (bI sv), .int le, .int lf])), (a0, .inr (10, [.ref a1, .ref a5, .ref a10, .int (bb 8 1), .int (bb 8 2), .int (bb 8 3), .int (bb 8 4), .int (bb 8 5), .int (bb 8 6), .int (bb 8 7), .int (bb 8 8)])), (a1, .inr (6, [.ref a2, .ref a3, .ref a4, .int (nI nh)])), (a2, .inl (aT 0, 6, .inl (bb 0))), (a3, .inl (aT 0, 6, .inl (bb 1))), (a4, .inl (aT 0, 6, .inl (bb 2))), (a5, .inr (8, [.ref a6, .ref a7, .ref a8, .ref a9, .int (nI nm), .int (bb 8 0)])), (a6, .inl (aT 0, 12, .inl (bb 3))), (a7, .inl (aT 0, 12, .inl (bb 4))), (a8, .inl (aT 0, 12, .inl (bb 5))), (a9, .inl (aT 0, 12, .inl (bb 6))), (a10, .inl (aT 0, 4, .inl (bb 7))), (q0, .inr (5, [.ref (zs D 12), .int ca, .int cb, .int cc]))] A s.heap H _ := cx_drop hW [0, 2, 3, 4, 5, 6, 7, 8, 9, 10, 11, 12, 1] rfl (by decide)
      exact cx_tret C hr hlocks (by decide) hW ⟨Nat.le_of_ble_eq_true rfl, Nat.le_of_ble_eq_true rfl⟩ (Or.inl ⟨by have hf2 := hf; rw [emn] at hf2; rw [doF_2, hf2]; dsimp only; rw [if_neg (by rintro ⟨-, z⟩; omega)], rfl, rfl⟩) dX9_succeeds_183
set_option maxHeartbeats 2000000 in
set_option maxRecDepth 20000 in
theorem k_succeeds_3 (l : Launch) (hfl : l.stackTraces = false) (D : va_G) (aT : Nat → ClassId) (x0 : Nat) (v0 : Nat) (t0 : Nat) (p0 : Nat) (o0 : Nat) (sv : Bool) (le : Int32) (lf : Int32) (h0 : Nat) (a0 : Nat) (a1 : Nat) (a2 : Nat) (a3 : Nat) (a4 : Nat) (a5 : Nat) (a6 : Nat) (a7 : Nat) (a8 : Nat) (a9 : Nat) (a10 : Nat) (bb : Nat → Nat → Int32) (nh : Nat) (nm : Nat) (M : Nat → Int32) (Bd : Nat) (hBd : Bd < 1048000) (hC : CoW M Bd) (hB : BlC bb nh nm M) (q0 : Nat) (ca : Int32) (cb : Int32) (cc : Int32) : CxT l yX9_succeeds cX9_succeeds 3 (some (.boolean)) [(0, 174, 175, 117), (0, 174, 178, 207), (0, 174, 181, 252)] 8 3 18 138 D aT [.ref x0, .ref q0] [(x0, .inr (12, [.ref a0, .ref v0, .ref h0, .ref t0, .ref p0, .ref o0, .int (bI sv), .int le, .int lf])), (a0, .inr (10, [.ref a1, .ref a5, .ref a10, .int (bb 8 1), .int (bb 8 2), .int (bb 8 3), .int (bb 8 4), .int (bb 8 5), .int (bb 8 6), .int (bb 8 7), .int (bb 8 8)])), (a1, .inr (6, [.ref a2, .ref a3, .ref a4, .int (nI nh)])), (a2, .inl (aT 0, 6, .inl (bb 0))), (a3, .inl (aT 0, 6, .inl (bb 1))), (a4, .inl (aT 0, 6, .inl (bb 2))), (a5, .inr (8, [.ref a6, .ref a7, .ref a8, .ref a9, .int (nI nm), .int (bb 8 0)])), (a6, .inl (aT 0, 12, .inl (bb 3))), (a7, .inl (aT 0, 12, .inl (bb 4))), (a8, .inl (aT 0, 12, .inl (bb 5))), (a9, .inl (aT 0, 12, .inl (bb 6))), (a10, .inl (aT 0, 4, .inl (bb 7))), (q0, .inr (5, [.ref (zs D 13), .int ca, .int cb, .int cc]))] (qI D aT (fun r W1 => (doF M 3 ca cb cc = none ∧ r = nI 0 ∧ W1 = [(x0, .inr (12, [.ref a0, .ref v0, .ref h0, .ref t0, .ref p0, .ref o0, .int (bI sv), .int le, .int lf])), (a0, .inr (10, [.ref a1, .ref a5, .ref a10, .int (bb 8 1), .int (bb 8 2), .int (bb 8 3), .int (bb 8 4), .int (bb 8 5), .int (bb 8 6), .int (bb 8 7), .int (bb 8 8)])), (a1, .inr (6, [.ref a2, .ref a3, .ref a4, .int (nI nh)])), (a2, .inl (aT 0, 6, .inl (bb 0))), (a3, .inl (aT 0, 6, .inl (bb 1))), (a4, .inl (aT 0, 6, .inl (bb 2))), (a5, .inr (8, [.ref a6, .ref a7, .ref a8, .ref a9, .int (nI nm), .int (bb 8 0)])), (a6, .inl (aT 0, 12, .inl (bb 3))), (a7, .inl (aT 0, 12, .inl (bb 4))), (a8, .inl (aT 0, 12, .inl (bb 5))), (a9, .inl (aT 0, 12, .inl (bb 6))), (a10, .inl (aT 0, 4, .inl (bb 7))), (q0, .inr (5, [.ref (zs D 13), .int ca, .int cb, .int cc]))]) ∨ (r = nI 1 ∧ ∃ (M1 : Nat → Int32) (b2 : Nat → Nat → Int32) (n2 m2 : Nat), doF M 3 ca cb cc = some M1 ∧ BlC b2 n2 m2 M1 ∧ W1 = [(x0, .inr (12, [.ref a0, .ref v0, .ref h0, .ref t0, .ref p0, .ref o0, .int (bI sv), .int le, .int lf])), (a0, .inr (10, [.ref a1, .ref a5, .ref a10, .int (b2 8 1), .int (b2 8 2), .int (b2 8 3), .int (b2 8 4), .int (b2 8 5), .int (b2 8 6), .int (b2 8 7), .int (b2 8 8)])), (a1, .inr (6, [.ref a2, .ref a3, .ref a4, .int (nI n2)])), (a2, .inl (aT 0, 6, .inl (b2 0))), (a3, .inl (aT 0, 6, .inl (b2 1))), (a4, .inl (aT 0, 6, .inl (b2 2))), (a5, .inr (8, [.ref a6, .ref a7, .ref a8, .ref a9, .int (nI m2), .int (b2 8 0)])), (a6, .inl (aT 0, 12, .inl (b2 3))), (a7, .inl (aT 0, 12, .inl (b2 4))), (a8, .inl (aT 0, 12, .inl (b2 5))), (a9, .inl (aT 0, 12, .inl (b2 6))), (a10, .inl (aT 0, 4, .inl (b2 7))), (q0, .inr (5, [.ref (zs D 13), .int ca, .int cb, .int cc]))]))) := by
  have hH := hB.he hC
  have hO := hB.mo hC
  obtain ⟨s0, hs4, hs3⟩ := hC.2.2.1
  have hs0 : bb 8 1 = nI s0 := by rw [hB.2.2.2.2.2.1.2.1]; exact hs3
  have ehn := hB.1
  have emn := hB.2.1
  refine CxT.of RX9 (by decide +kernel) rfl (Nat.le_of_ble_eq_true rfl) ?_
  intro p e s m below meth c A ls C hml hl hA hr hlocks htb hZ hW
  have hl : lv_has ls 3 [(0, .ref x0), (1, .ref q0)] := hl
  have hx := C.1
  have hb := C.2.1
  refine va_gets hx hb hZ.2.2.2.2.2.2.2.2.2.2.1.2.2.2.2.2.2.1 hW.2.2 C.2.2.2.1 (C.2.2.1 _ gw_1305) (fun _ h9 => h9) dX9_succeeds_0 ?_
  refine lv_aload_n hx hb dX9_succeeds_3 rfl (lv_at hl 1 rfl) ?_
  refine cx_getN C hZ hW 12 0 rfl rfl (by decide) inX1 nw_1197 rfl rfl dX9_succeeds_4 ?_
  refine cx_callh (Wr := [(x0, .inr (12, [.ref a0, .ref v0, .ref h0, .ref t0, .ref p0, .ref o0, .int (bI sv), .int le, .int lf])), (a0, .inr (10, [.ref a1, .ref a5, .ref a10, .int (bb 8 1), .int (bb 8 2), .int (bb 8 3), .int (bb 8 4), .int (bb 8 5), .int (bb 8 6), .int (bb 8 7), .int (bb 8 8)])), (a1, .inr (6, [.ref a2, .ref a3, .ref a4, .int (nI nh)])), (a2, .inl (aT 0, 6, .inl (bb 0))), (a3, .inl (aT 0, 6, .inl (bb 1))), (a4, .inl (aT 0, 6, .inl (bb 2))), (a5, .inr (8, [.ref a6, .ref a7, .ref a8, .ref a9, .int (nI nm), .int (bb 8 0)])), (a6, .inl (aT 0, 12, .inl (bb 3))), (a7, .inl (aT 0, 12, .inl (bb 4))), (a8, .inl (aT 0, 12, .inl (bb 5))), (a9, .inl (aT 0, 12, .inl (bb 6))), (a10, .inl (aT 0, 4, .inl (bb 7))), (q0, .inr (5, [.ref (zs D 13), .int ca, .int cb, .int cc]))]) (cx_runOR C hml hl.1 hZ hW hA (i := 3) (rest := [.ref (zs D 2)]) (by decide) gw_1307 ⟨Nat.le_of_ble_eq_true rfl, Nat.le_of_ble_eq_true rfl⟩ ⟨Nat.le_of_ble_eq_true rfl, Nat.le_of_ble_eq_true rfl⟩ (Nat.le_of_ble_eq_true rfl) dX9_succeeds_7) hW hA [] [0, 1, 2, 3, 4, 5, 6, 7, 8, 9, 10, 11, 12] rfl rfl (by decide) (by decide)  (fun r_7 W_7 H locs hq hW => ?_)
  obtain ⟨rfl, rfl⟩ := hq
  have hW : CxB D [(x0, .inr (12, [.ref a0, .ref v0, .ref h0, .ref t0, .ref p0, .ref o0, .int (bI sv), .int le, .int lf])), (a0, .inr (10, [.ref a1, .ref a5, .ref a10, .int (bb 8 1), .int (bb 8 2), .int (bb 8 3), .int (bb 8 4), .int (bb 8 5), .int (bb 8 6), .int (bb 8 7), .int (bb 8 8)])), (a1, .inr (6, [.ref a2, .ref a3, .ref a4, .int (nI nh)])), (a2, .inl (aT 0, 6, .inl (bb 0))), (a3, .inl (aT 0, 6, .inl (bb 1))), (a4, .inl (aT 0, 6, .inl (bb 2))), (a5, .inr (8, [.ref a6, .ref a7, .ref a8, .ref a9, .int (nI nm), .int (bb 8 0)])), (a6, .inl (aT 0, 12, .inl (bb 3))), (a7, .inl (aT 0, 12, .inl (bb 4))), (a8, .inl (aT 0, 12, .inl (bb 5))), (a9, .inl (aT 0, 12, .inl (bb 6))), (a10, .inl (aT 0, 4, .inl (bb 7))), (q0, .inr (5, [.ref (zs D 13), .int ca, .int cb, .int cc]))] A s.heap H _ := hW
  refine va_ti (v := .int (nI 4)) hx hb (hZ.2.2.2.2.2.2.2.2.2.2.1.2.2.2.2.2.2.2) hW.2.2 (i := nI 3) (vp_in_nI (by decide) (by decide)) (by rw [nI_clamp (by decide)]) dX9_succeeds_10 ?_
  refine lv_tableIn (tgt := 117) hx hb dX9_succeeds_11 (by decide) (by decide) rfl (by decide) ?_
  refine lv_aload_n hx hb dX9_succeeds_117 rfl (lv_at hl 0 rfl) ?_
  refine cx_get C hW 0 0 rfl rfl (by decide) inX9 gw_346 rfl rfl dX9_succeeds_118 ?_
  refine lv_aload_n hx hb dX9_succeeds_121 rfl (lv_at hl 1 rfl) ?_
  refine cx_getN C hZ hW 12 1 rfl rfl (by decide) inX1 nw_1199 rfl rfl dX9_succeeds_122 ?_
  refine lv_aload_n hx hb dX9_succeeds_125 rfl (lv_at hl 1 rfl) ?_
  refine cx_getN C hZ hW 12 2 rfl rfl (by decide) inX1 nw_1201 rfl rfl dX9_succeeds_126 ?_
  refine cx_calli (Wr := [(x0, .inr (12, [.ref a0, .ref v0, .ref h0, .ref t0, .ref p0, .ref o0, .int (bI sv), .int le, .int lf])), (q0, .inr (5, [.ref (zs D 13), .int ca, .int cb, .int cc]))]) (cx_runV C hml hl.1 hZ hW hA (As := [.int ca, .int cb]) (rest := []) (k_X7_cutBack l hfl D aT a0 a1 a2 a3 a4 a5 a6 a7 a8 a9 a10 bb nh nm M Bd hBd hC hB ca cb) gV_X9_X7_cutBack_76 hV_X7_cutBack rfl ⟨Nat.le_of_ble_eq_true rfl, Nat.le_of_ble_eq_true rfl⟩ ⟨Nat.le_of_ble_eq_true rfl, Nat.le_of_ble_eq_true rfl⟩ [1, 2, 3, 4, 5, 6, 7, 8, 9, 10, 11] rfl (by decide) 1 10 rfl rfl rfl rfl (Nat.le_of_ble_eq_true rfl) dX9_succeeds_129) hW hA [1, 2, 3, 4, 5, 6, 7, 8, 9, 10, 11] [0, 12] rfl rfl (by decide) (by decide) ?_ (fun r_129 W_129 H locs hq hW => ?_)
  rotate_left
  obtain ⟨q_129, v_129, n2_129, b2_129, ⟨hq_129, hv_129, hv9_129, hok_129, rfl⟩, hB_129, rfl⟩ := hq
  have hW : CxB D [(x0, .inr (12, [.ref a0, .ref v0, .ref h0, .ref t0, .ref p0, .ref o0, .int (bI sv), .int le, .int lf])), (q0, .inr (5, [.ref (zs D 13), .int ca, .int cb, .int cc])), (a0, .inr (10, [.ref a1, .ref a5, .ref a10, .int (b2_129 8 1), .int (b2_129 8 2), .int (b2_129 8 3), .int (b2_129 8 4), .int (b2_129 8 5), .int (b2_129 8 6), .int (b2_129 8 7), .int (b2_129 8 8)])), (a1, .inr (6, [.ref a2, .ref a3, .ref a4, .int (nI nh)])), (a2, .inl (aT 0, 6, .inl (b2_129 0))), (a3, .inl (aT 0, 6, .inl (b2_129 1))), (a4, .inl (aT 0, 6, .inl (b2_129 2))), (a5, .inr (8, [.ref a6, .ref a7, .ref a8, .ref a9, .int (nI n2_129), .int (b2_129 8 0)])), (a6, .inl (aT 0, 12, .inl (b2_129 3))), (a7, .inl (aT 0, 12, .inl (b2_129 4))), (a8, .inl (aT 0, 12, .inl (b2_129 5))), (a9, .inl (aT 0, 12, .inl (b2_129 6))), (a10, .inl (aT 0, 4, .inl (b2_129 7)))] A s.heap H _ := hW
  refine lv_pop hx hb dX9_succeeds_132 rfl ?_
  refine lv_goto (tgt := 173) hx hb dX9_succeeds_133 (by decide) ?_
  refine lv_iconst (v := nI 1) hx hb dX9_succeeds_173 (by decide) ?_
  have hW : CxB D [(x0, .inr (12, [.ref a0, .ref v0, .ref h0, .ref t0, .ref p0, .ref o0, .int (bI sv), .int le, .int lf])), (a0, .inr (10, [.ref a1, .ref a5, .ref a10, .int (b2_129 8 1), .int (b2_129 8 2), .int (b2_129 8 3), .int (b2_129 8 4), .int (b2_129 8 5), .int (b2_129 8 6), .int (b2_129 8 7), .int (b2_129 8 8)])), (a1, .inr (6, [.ref a2, .ref a3, .ref a4, .int (nI nh)])), (a2, .inl (aT 0, 6, .inl (b2_129 0))), (a3, .inl (aT 0, 6, .inl (b2_129 1))), (a4, .inl (aT 0, 6, .inl (b2_129 2))), (a5, .inr (8, [.ref a6, .ref a7, .ref a8, .ref a9, .int (nI n2_129), .int (b2_129 8 0)])), (a6, .inl (aT 0, 12, .inl (b2_129 3))), (a7, .inl (aT 0, 12, .inl (b2_129 4))), (a8, .inl (aT 0, 12, .inl (b2_129 5))), (a9, .inl (aT 0, 12, .inl (b2_129 6))), (a10, .inl (aT 0, 4, .inl (b2_129 7))), (q0, .inr (5, [.ref (zs D 13), .int ca, .int cb, .int cc]))] A s.heap H _ := cx_drop hW [0, 2, 3, 4, 5, 6, 7, 8, 9, 10, 11, 12, 1] rfl (by decide)
  exact cx_tret C hr hlocks (by decide) hW ⟨Nat.le_of_ble_eq_true rfl, Nat.le_of_ble_eq_true rfl⟩ (Or.inr ⟨rfl, _, _, _, _, by have hf2 := hq_129; rw [emn] at hf2; rw [doF_3, hf2]; dsimp only; rw [if_pos hok_129, hv_129, nI_clamp (by omega)], hB_129, rfl⟩) dX9_succeeds_174
  · intro E ce q9 W9 H locs hE hW h7 h8 h9
    rcases hE with ⟨⟨rfl, hf⟩ | ⟨⟨q, hf⟩, rfl, ho⟩, rfl⟩
    · have hW : CxB D [(x0, .inr (12, [.ref a0, .ref v0, .ref h0, .ref t0, .ref p0, .ref o0, .int (bI sv), .int le, .int lf])), (q0, .inr (5, [.ref (zs D 13), .int ca, .int cb, .int cc])), (a0, .inr (10, [.ref a1, .ref a5, .ref a10, .int (bb 8 1), .int (bb 8 2), .int (bb 8 3), .int (bb 8 4), .int (bb 8 5), .int (bb 8 6), .int (bb 8 7), .int (bb 8 8)])), (a1, .inr (6, [.ref a2, .ref a3, .ref a4, .int (nI nh)])), (a2, .inl (aT 0, 6, .inl (bb 0))), (a3, .inl (aT 0, 6, .inl (bb 1))), (a4, .inl (aT 0, 6, .inl (bb 2))), (a5, .inr (8, [.ref a6, .ref a7, .ref a8, .ref a9, .int (nI nm), .int (bb 8 0)])), (a6, .inl (aT 0, 12, .inl (bb 3))), (a7, .inl (aT 0, 12, .inl (bb 4))), (a8, .inl (aT 0, 12, .inl (bb 5))), (a9, .inl (aT 0, 12, .inl (bb 6))), (a10, .inl (aT 0, 4, .inl (bb 7)))] A s.heap H _ := hW
      refine cx_catchT C hZ (nm := "java/util/NoSuchElementException") [] ⟨0, 174, 175, 117⟩ (tableOf [(0, 174, 178, 207), (0, 174, 181, 252)]) htb (fun z hz => by cases hz) (by decide) (by decide) gw_862 nw_705 h7 h8 h9 ?_
      refine lv_astore_n (lv' := [(2, .ref q9), (0, .ref x0), (1, .ref q0)]) hx hb dX9_succeeds_175 rfl hl (by decide) rfl (fun ls hl => ?_)
      refine lv_iconst (v := nI 0) hx hb dX9_succeeds_176 (by decide) ?_
      have hW : CxB D [(x0, .inr (12, [.ref a0, .ref v0, .ref h0, .ref t0, .ref p0, .ref o0, .int (bI sv), .int le, .int lf])), (a0, .inr (10, [.ref a1, .ref a5, .ref a10, .int (bb 8 1), .int (bb 8 2), .int (bb 8 3), .int (bb 8 4), .int (bb 8 5), .int (bb 8 6), .int (bb 8 7), .int (bb 8 8)])), (a1, .inr (6, [.ref a2, .ref a3, .ref a4, .int (nI nh)])), (a2, .inl (aT 0, 6, .inl (bb 0))), (a3, .inl (aT 0, 6, .inl (bb 1))), (a4, .inl (aT 0, 6, .inl (bb 2))), (a5, .inr (8, [.ref a6, .ref a7, .ref a8, .ref a9, .int (nI nm), .int (bb 8 0)])), (a6, .inl (aT 0, 12, .inl (bb 3))), (a7, .inl (aT 0, 12, .inl (bb 4))), (a8, .inl (aT 0, 12, .inl (bb 5))), (a9, .inl (aT 0, 12, .inl (bb 6))), (a10, .inl (aT 0, 4, .inl (bb 7))), (q0, .inr (5, [.ref (zs D 13), .int ca, .int cb, .int cc]))] A s.heap H _ := cx_drop hW [0, 2, 3, 4, 5, 6, 7, 8, 9, 10, 11, 12, 1] rfl (by decide)
      exact cx_tret C hr hlocks (by decide) hW ⟨Nat.le_of_ble_eq_true rfl, Nat.le_of_ble_eq_true rfl⟩ (Or.inl ⟨by rw [emn] at hf; rw [doF_3, hf], rfl, rfl⟩) dX9_succeeds_177
    · have hW : CxB D [(x0, .inr (12, [.ref a0, .ref v0, .ref h0, .ref t0, .ref p0, .ref o0, .int (bI sv), .int le, .int lf])), (q0, .inr (5, [.ref (zs D 13), .int ca, .int cb, .int cc])), (a0, .inr (10, [.ref a1, .ref a5, .ref a10, .int (bb 8 1), .int (bb 8 2), .int (bb 8 3), .int (bb 8 4), .int (bb 8 5), .int (bb 8 6), .int (bb 8 7), .int (bb 8 8)])), (a1, .inr (6, [.ref a2, .ref a3, .ref a4, .int (nI nh)])), (a2, .inl (aT 0, 6, .inl (bb 0))), (a3, .inl (aT 0, 6, .inl (bb 1))), (a4, .inl (aT 0, 6, .inl (bb 2))), (a5, .inr (8, [.ref a6, .ref a7, .ref a8, .ref a9, .int (nI nm), .int (bb 8 0)])), (a6, .inl (aT 0, 12, .inl (bb 3))), (a7, .inl (aT 0, 12, .inl (bb 4))), (a8, .inl (aT 0, 12, .inl (bb 5))), (a9, .inl (aT 0, 12, .inl (bb 6))), (a10, .inl (aT 0, 4, .inl (bb 7)))] A s.heap H _ := hW
      refine cx_catchT C hZ (nm := "java/lang/IllegalArgumentException") [⟨0, 174, 175, 117⟩] ⟨0, 174, 178, 207⟩ (tableOf [(0, 174, 181, 252)]) htb (fun z hz => by
          simp only [List.mem_cons, List.not_mem_nil, or_false] at hz
          rcases hz with rfl
          · exact Or.inr ⟨by decide, "java/util/NoSuchElementException", gw_862, List.mem_of_getElem? (i := 0) rfl⟩) (by decide) (by decide) gw_1051 nw_561 h7 h8 h9 ?_
      refine lv_astore_n (lv' := [(2, .ref q9), (0, .ref x0), (1, .ref q0)]) hx hb dX9_succeeds_178 rfl hl (by decide) rfl (fun ls hl => ?_)
      refine lv_iconst (v := nI 0) hx hb dX9_succeeds_179 (by decide) ?_
      have hW : CxB D [(x0, .inr (12, [.ref a0, .ref v0, .ref h0, .ref t0, .ref p0, .ref o0, .int (bI sv), .int le, .int lf])), (a0, .inr (10, [.ref a1, .ref a5, .ref a10, .int (bb 8 1), .int (bb 8 2), .int (bb 8 3), .int (bb 8 4), .int (bb 8 5), .int (bb 8 6), .int (bb 8 7), .int (bb 8 8)])), (a1, .inr (6, [.ref a2, .ref a3, .ref a4, .int (nI nh)])), (a2, .inl (aT 0, 6, .inl (bb 0))), (a3, .inl (aT 0, 6, .inl (bb 1))), (a4, .inl (aT 0, 6, .inl (bb 2))), (a5, .inr (8, [.ref a6, .ref a7, .ref a8, .ref a9, .int (nI nm), .int (bb 8 0)])), (a6, .inl (aT 0, 12, .inl (bb 3))), (a7, .inl (aT 0, 12, .inl (bb 4))), (a8, .inl (aT 0, 12, .inl (bb 5))), (a9, .inl (aT 0, 12, .inl (bb 6))), (a10, .inl (aT 0, 4, .inl (bb 7))), (q0, .inr (5, [.ref (zs D 13), .int ca, .int cb, .int cc]))] A s.heap H _ := cx_drop hW [0, 2, 3, 4, 5, 6, 7, 8, 9, 10, 11, 12, 1] rfl (by decide)
      exact cx_tret C hr hlocks (by decide) hW ⟨Nat.le_of_ble_eq_true rfl, Nat.le_of_ble_eq_true rfl⟩ (Or.inl ⟨by rw [emn] at hf; rw [doF_3, hf]; dsimp only; rw [if_neg (by rw [ho]; decide)], rfl, rfl⟩) dX9_succeeds_180
set_option maxHeartbeats 2000000 in
set_option maxRecDepth 20000 in
theorem k_succeeds_4 (l : Launch) (hfl : l.stackTraces = false) (D : va_G) (aT : Nat → ClassId) (x0 : Nat) (v0 : Nat) (t0 : Nat) (p0 : Nat) (o0 : Nat) (sv : Bool) (le : Int32) (lf : Int32) (h0 : Nat) (a0 : Nat) (a1 : Nat) (a2 : Nat) (a3 : Nat) (a4 : Nat) (a5 : Nat) (a6 : Nat) (a7 : Nat) (a8 : Nat) (a9 : Nat) (a10 : Nat) (bb : Nat → Nat → Int32) (nh : Nat) (nm : Nat) (M : Nat → Int32) (Bd : Nat) (hBd : Bd < 1048000) (hC : CoW M Bd) (hB : BlC bb nh nm M) (q0 : Nat) (ca : Int32) (cb : Int32) (cc : Int32) : CxT l yX9_succeeds cX9_succeeds 3 (some (.boolean)) [(0, 174, 175, 117), (0, 174, 178, 207), (0, 174, 181, 252)] 8 3 18 138 D aT [.ref x0, .ref q0] [(x0, .inr (12, [.ref a0, .ref v0, .ref h0, .ref t0, .ref p0, .ref o0, .int (bI sv), .int le, .int lf])), (a0, .inr (10, [.ref a1, .ref a5, .ref a10, .int (bb 8 1), .int (bb 8 2), .int (bb 8 3), .int (bb 8 4), .int (bb 8 5), .int (bb 8 6), .int (bb 8 7), .int (bb 8 8)])), (a1, .inr (6, [.ref a2, .ref a3, .ref a4, .int (nI nh)])), (a2, .inl (aT 0, 6, .inl (bb 0))), (a3, .inl (aT 0, 6, .inl (bb 1))), (a4, .inl (aT 0, 6, .inl (bb 2))), (a5, .inr (8, [.ref a6, .ref a7, .ref a8, .ref a9, .int (nI nm), .int (bb 8 0)])), (a6, .inl (aT 0, 12, .inl (bb 3))), (a7, .inl (aT 0, 12, .inl (bb 4))), (a8, .inl (aT 0, 12, .inl (bb 5))), (a9, .inl (aT 0, 12, .inl (bb 6))), (a10, .inl (aT 0, 4, .inl (bb 7))), (q0, .inr (5, [.ref (zs D 14), .int ca, .int cb, .int cc]))] (qI D aT (fun r W1 => (doF M 4 ca cb cc = none ∧ r = nI 0 ∧ W1 = [(x0, .inr (12, [.ref a0, .ref v0, .ref h0, .ref t0, .ref p0, .ref o0, .int (bI sv), .int le, .int lf])), (a0, .inr (10, [.ref a1, .ref a5, .ref a10, .int (bb 8 1), .int (bb 8 2), .int (bb 8 3), .int (bb 8 4), .int (bb 8 5), .int (bb 8 6), .int (bb 8 7), .int (bb 8 8)])), (a1, .inr (6, [.ref a2, .ref a3, .ref a4, .int (nI nh)])), (a2, .inl (aT 0, 6, .inl (bb 0))), (a3, .inl (aT 0, 6, .inl (bb 1))), (a4, .inl (aT 0, 6, .inl (bb 2))), (a5, .inr (8, [.ref a6, .ref a7, .ref a8, .ref a9, .int (nI nm), .int (bb 8 0)])), (a6, .inl (aT 0, 12, .inl (bb 3))), (a7, .inl (aT 0, 12, .inl (bb 4))), (a8, .inl (aT 0, 12, .inl (bb 5))), (a9, .inl (aT 0, 12, .inl (bb 6))), (a10, .inl (aT 0, 4, .inl (bb 7))), (q0, .inr (5, [.ref (zs D 14), .int ca, .int cb, .int cc]))]) ∨ (r = nI 1 ∧ ∃ (M1 : Nat → Int32) (b2 : Nat → Nat → Int32) (n2 m2 : Nat), doF M 4 ca cb cc = some M1 ∧ BlC b2 n2 m2 M1 ∧ W1 = [(x0, .inr (12, [.ref a0, .ref v0, .ref h0, .ref t0, .ref p0, .ref o0, .int (bI sv), .int le, .int lf])), (a0, .inr (10, [.ref a1, .ref a5, .ref a10, .int (b2 8 1), .int (b2 8 2), .int (b2 8 3), .int (b2 8 4), .int (b2 8 5), .int (b2 8 6), .int (b2 8 7), .int (b2 8 8)])), (a1, .inr (6, [.ref a2, .ref a3, .ref a4, .int (nI n2)])), (a2, .inl (aT 0, 6, .inl (b2 0))), (a3, .inl (aT 0, 6, .inl (b2 1))), (a4, .inl (aT 0, 6, .inl (b2 2))), (a5, .inr (8, [.ref a6, .ref a7, .ref a8, .ref a9, .int (nI m2), .int (b2 8 0)])), (a6, .inl (aT 0, 12, .inl (b2 3))), (a7, .inl (aT 0, 12, .inl (b2 4))), (a8, .inl (aT 0, 12, .inl (b2 5))), (a9, .inl (aT 0, 12, .inl (b2 6))), (a10, .inl (aT 0, 4, .inl (b2 7))), (q0, .inr (5, [.ref (zs D 14), .int ca, .int cb, .int cc]))]))) := by
  have hH := hB.he hC
  have hO := hB.mo hC
  obtain ⟨s0, hs4, hs3⟩ := hC.2.2.1
  have hs0 : bb 8 1 = nI s0 := by rw [hB.2.2.2.2.2.1.2.1]; exact hs3
  have ehn := hB.1
  have emn := hB.2.1
  refine CxT.of RX9 (by decide +kernel) rfl (Nat.le_of_ble_eq_true rfl) ?_
  intro p e s m below meth c A ls C hml hl hA hr hlocks htb hZ hW
  have hl : lv_has ls 3 [(0, .ref x0), (1, .ref q0)] := hl
  have hx := C.1
  have hb := C.2.1
  refine va_gets hx hb hZ.2.2.2.2.2.2.2.2.2.2.1.2.2.2.2.2.2.1 hW.2.2 C.2.2.2.1 (C.2.2.1 _ gw_1305) (fun _ h9 => h9) dX9_succeeds_0 ?_
  refine lv_aload_n hx hb dX9_succeeds_3 rfl (lv_at hl 1 rfl) ?_
  refine cx_getN C hZ hW 12 0 rfl rfl (by decide) inX1 nw_1197 rfl rfl dX9_succeeds_4 ?_
  refine cx_callh (Wr := [(x0, .inr (12, [.ref a0, .ref v0, .ref h0, .ref t0, .ref p0, .ref o0, .int (bI sv), .int le, .int lf])), (a0, .inr (10, [.ref a1, .ref a5, .ref a10, .int (bb 8 1), .int (bb 8 2), .int (bb 8 3), .int (bb 8 4), .int (bb 8 5), .int (bb 8 6), .int (bb 8 7), .int (bb 8 8)])), (a1, .inr (6, [.ref a2, .ref a3, .ref a4, .int (nI nh)])), (a2, .inl (aT 0, 6, .inl (bb 0))), (a3, .inl (aT 0, 6, .inl (bb 1))), (a4, .inl (aT 0, 6, .inl (bb 2))), (a5, .inr (8, [.ref a6, .ref a7, .ref a8, .ref a9, .int (nI nm), .int (bb 8 0)])), (a6, .inl (aT 0, 12, .inl (bb 3))), (a7, .inl (aT 0, 12, .inl (bb 4))), (a8, .inl (aT 0, 12, .inl (bb 5))), (a9, .inl (aT 0, 12, .inl (bb 6))), (a10, .inl (aT 0, 4, .inl (bb 7))), (q0, .inr (5, [.ref (zs D 14), .int ca, .int cb, .int cc]))]) (cx_runOR C hml hl.1 hZ hW hA (i := 4) (rest := [.ref (zs D 2)]) (by decide) gw_1307 ⟨Nat.le_of_ble_eq_true rfl, Nat.le_of_ble_eq_true rfl⟩ ⟨Nat.le_of_ble_eq_true rfl, Nat.le_of_ble_eq_true rfl⟩ (Nat.le_of_ble_eq_true rfl) dX9_succeeds_7) hW hA [] [0, 1, 2, 3, 4, 5, 6, 7, 8, 9, 10, 11, 12] rfl rfl (by decide) (by decide)  (fun r_7 W_7 H locs hq hW => ?_)
  obtain ⟨rfl, rfl⟩ := hq
  have hW : CxB D [(x0, .inr (12, [.ref a0, .ref v0, .ref h0, .ref t0, .ref p0, .ref o0, .int (bI sv), .int le, .int lf])), (a0, .inr (10, [.ref a1, .ref a5, .ref a10, .int (bb 8 1), .int (bb 8 2), .int (bb 8 3), .int (bb 8 4), .int (bb 8 5), .int (bb 8 6), .int (bb 8 7), .int (bb 8 8)])), (a1, .inr (6, [.ref a2, .ref a3, .ref a4, .int (nI nh)])), (a2, .inl (aT 0, 6, .inl (bb 0))), (a3, .inl (aT 0, 6, .inl (bb 1))), (a4, .inl (aT 0, 6, .inl (bb 2))), (a5, .inr (8, [.ref a6, .ref a7, .ref a8, .ref a9, .int (nI nm), .int (bb 8 0)])), (a6, .inl (aT 0, 12, .inl (bb 3))), (a7, .inl (aT 0, 12, .inl (bb 4))), (a8, .inl (aT 0, 12, .inl (bb 5))), (a9, .inl (aT 0, 12, .inl (bb 6))), (a10, .inl (aT 0, 4, .inl (bb 7))), (q0, .inr (5, [.ref (zs D 14), .int ca, .int cb, .int cc]))] A s.heap H _ := hW
  refine va_ti (v := .int (nI 5)) hx hb (hZ.2.2.2.2.2.2.2.2.2.2.1.2.2.2.2.2.2.2) hW.2.2 (i := nI 4) (vp_in_nI (by decide) (by decide)) (by rw [nI_clamp (by decide)]) dX9_succeeds_10 ?_
  refine lv_tableIn (tgt := 136) hx hb dX9_succeeds_11 (by decide) (by decide) rfl (by decide) ?_
  refine lv_aload_n hx hb dX9_succeeds_136 rfl (lv_at hl 0 rfl) ?_
  refine cx_get C hW 0 0 rfl rfl (by decide) inX9 gw_346 rfl rfl dX9_succeeds_137 ?_
  refine lv_aload_n hx hb dX9_succeeds_140 rfl (lv_at hl 1 rfl) ?_
  refine cx_getN C hZ hW 12 1 rfl rfl (by decide) inX1 nw_1199 rfl rfl dX9_succeeds_141 ?_
  refine cx_calli (Wr := [(x0, .inr (12, [.ref a0, .ref v0, .ref h0, .ref t0, .ref p0, .ref o0, .int (bI sv), .int le, .int lf])), (q0, .inr (5, [.ref (zs D 14), .int ca, .int cb, .int cc]))]) (cx_runV C hml hl.1 hZ hW hA (As := [.int ca]) (rest := []) (k_X7_growTip l hfl D aT a0 a1 a2 a3 a4 a5 a6 a7 a8 a9 a10 bb nh nm M Bd hBd hC hB ca) gV_X9_X7_growTip_79 hV_X7_growTip rfl ⟨Nat.le_of_ble_eq_true rfl, Nat.le_of_ble_eq_true rfl⟩ ⟨Nat.le_of_ble_eq_true rfl, Nat.le_of_ble_eq_true rfl⟩ [1, 2, 3, 4, 5, 6, 7, 8, 9, 10, 11] rfl (by decide) 1 10 rfl rfl rfl rfl (Nat.le_of_ble_eq_true rfl) dX9_succeeds_144) hW hA [1, 2, 3, 4, 5, 6, 7, 8, 9, 10, 11] [0, 12] rfl rfl (by decide) (by decide) ?_ (fun r_144 W_144 H locs hq hW => ?_)
  rotate_left
  obtain ⟨q_144, t_144, b2_144, ⟨hq_144, h12_144, ht_144, rfl⟩, hB_144, rfl⟩ := hq
  have hW : CxB D [(x0, .inr (12, [.ref a0, .ref v0, .ref h0, .ref t0, .ref p0, .ref o0, .int (bI sv), .int le, .int lf])), (q0, .inr (5, [.ref (zs D 14), .int ca, .int cb, .int cc])), (a0, .inr (10, [.ref a1, .ref a5, .ref a10, .int (b2_144 8 1), .int (b2_144 8 2), .int (b2_144 8 3), .int (b2_144 8 4), .int (b2_144 8 5), .int (b2_144 8 6), .int (b2_144 8 7), .int (b2_144 8 8)])), (a1, .inr (6, [.ref a2, .ref a3, .ref a4, .int (nI nh)])), (a2, .inl (aT 0, 6, .inl (b2_144 0))), (a3, .inl (aT 0, 6, .inl (b2_144 1))), (a4, .inl (aT 0, 6, .inl (b2_144 2))), (a5, .inr (8, [.ref a6, .ref a7, .ref a8, .ref a9, .int (nI (nm + 1)), .int (b2_144 8 0)])), (a6, .inl (aT 0, 12, .inl (b2_144 3))), (a7, .inl (aT 0, 12, .inl (b2_144 4))), (a8, .inl (aT 0, 12, .inl (b2_144 5))), (a9, .inl (aT 0, 12, .inl (b2_144 6))), (a10, .inl (aT 0, 4, .inl (b2_144 7)))] A s.heap H _ := hW
  refine lv_pop hx hb dX9_succeeds_147 rfl ?_
  refine lv_goto (tgt := 173) hx hb dX9_succeeds_148 (by decide) ?_
  refine lv_iconst (v := nI 1) hx hb dX9_succeeds_173 (by decide) ?_
  have hW : CxB D [(x0, .inr (12, [.ref a0, .ref v0, .ref h0, .ref t0, .ref p0, .ref o0, .int (bI sv), .int le, .int lf])), (a0, .inr (10, [.ref a1, .ref a5, .ref a10, .int (b2_144 8 1), .int (b2_144 8 2), .int (b2_144 8 3), .int (b2_144 8 4), .int (b2_144 8 5), .int (b2_144 8 6), .int (b2_144 8 7), .int (b2_144 8 8)])), (a1, .inr (6, [.ref a2, .ref a3, .ref a4, .int (nI nh)])), (a2, .inl (aT 0, 6, .inl (b2_144 0))), (a3, .inl (aT 0, 6, .inl (b2_144 1))), (a4, .inl (aT 0, 6, .inl (b2_144 2))), (a5, .inr (8, [.ref a6, .ref a7, .ref a8, .ref a9, .int (nI (nm + 1)), .int (b2_144 8 0)])), (a6, .inl (aT 0, 12, .inl (b2_144 3))), (a7, .inl (aT 0, 12, .inl (b2_144 4))), (a8, .inl (aT 0, 12, .inl (b2_144 5))), (a9, .inl (aT 0, 12, .inl (b2_144 6))), (a10, .inl (aT 0, 4, .inl (b2_144 7))), (q0, .inr (5, [.ref (zs D 14), .int ca, .int cb, .int cc]))] A s.heap H _ := cx_drop hW [0, 2, 3, 4, 5, 6, 7, 8, 9, 10, 11, 12, 1] rfl (by decide)
  exact cx_tret C hr hlocks (by decide) hW ⟨Nat.le_of_ble_eq_true rfl, Nat.le_of_ble_eq_true rfl⟩ (Or.inr ⟨rfl, _, _, _, _, by have hf2 := hq_144; have ht2 := ht_144; rw [emn] at hf2 ht2; rw [doF_4, hf2]; dsimp only; rw [if_pos (by omega), ht2], hB_144, rfl⟩) dX9_succeeds_174
  · intro E ce q9 W9 H locs hE hW h7 h8 h9
    rcases hE with ⟨⟨rfl, hf⟩ | ⟨⟨q, hf⟩, rfl, h6⟩, rfl⟩
    · have hW : CxB D [(x0, .inr (12, [.ref a0, .ref v0, .ref h0, .ref t0, .ref p0, .ref o0, .int (bI sv), .int le, .int lf])), (q0, .inr (5, [.ref (zs D 14), .int ca, .int cb, .int cc])), (a0, .inr (10, [.ref a1, .ref a5, .ref a10, .int (bb 8 1), .int (bb 8 2), .int (bb 8 3), .int (bb 8 4), .int (bb 8 5), .int (bb 8 6), .int (bb 8 7), .int (bb 8 8)])), (a1, .inr (6, [.ref a2, .ref a3, .ref a4, .int (nI nh)])), (a2, .inl (aT 0, 6, .inl (bb 0))), (a3, .inl (aT 0, 6, .inl (bb 1))), (a4, .inl (aT 0, 6, .inl (bb 2))), (a5, .inr (8, [.ref a6, .ref a7, .ref a8, .ref a9, .int (nI nm), .int (bb 8 0)])), (a6, .inl (aT 0, 12, .inl (bb 3))), (a7, .inl (aT 0, 12, .inl (bb 4))), (a8, .inl (aT 0, 12, .inl (bb 5))), (a9, .inl (aT 0, 12, .inl (bb 6))), (a10, .inl (aT 0, 4, .inl (bb 7)))] A s.heap H _ := hW
      refine cx_catchT C hZ (nm := "java/util/NoSuchElementException") [] ⟨0, 174, 175, 117⟩ (tableOf [(0, 174, 178, 207), (0, 174, 181, 252)]) htb (fun z hz => by cases hz) (by decide) (by decide) gw_862 nw_705 h7 h8 h9 ?_
      refine lv_astore_n (lv' := [(2, .ref q9), (0, .ref x0), (1, .ref q0)]) hx hb dX9_succeeds_175 rfl hl (by decide) rfl (fun ls hl => ?_)
      refine lv_iconst (v := nI 0) hx hb dX9_succeeds_176 (by decide) ?_
      have hW : CxB D [(x0, .inr (12, [.ref a0, .ref v0, .ref h0, .ref t0, .ref p0, .ref o0, .int (bI sv), .int le, .int lf])), (a0, .inr (10, [.ref a1, .ref a5, .ref a10, .int (bb 8 1), .int (bb 8 2), .int (bb 8 3), .int (bb 8 4), .int (bb 8 5), .int (bb 8 6), .int (bb 8 7), .int (bb 8 8)])), (a1, .inr (6, [.ref a2, .ref a3, .ref a4, .int (nI nh)])), (a2, .inl (aT 0, 6, .inl (bb 0))), (a3, .inl (aT 0, 6, .inl (bb 1))), (a4, .inl (aT 0, 6, .inl (bb 2))), (a5, .inr (8, [.ref a6, .ref a7, .ref a8, .ref a9, .int (nI nm), .int (bb 8 0)])), (a6, .inl (aT 0, 12, .inl (bb 3))), (a7, .inl (aT 0, 12, .inl (bb 4))), (a8, .inl (aT 0, 12, .inl (bb 5))), (a9, .inl (aT 0, 12, .inl (bb 6))), (a10, .inl (aT 0, 4, .inl (bb 7))), (q0, .inr (5, [.ref (zs D 14), .int ca, .int cb, .int cc]))] A s.heap H _ := cx_drop hW [0, 2, 3, 4, 5, 6, 7, 8, 9, 10, 11, 12, 1] rfl (by decide)
      exact cx_tret C hr hlocks (by decide) hW ⟨Nat.le_of_ble_eq_true rfl, Nat.le_of_ble_eq_true rfl⟩ (Or.inl ⟨by rw [emn] at hf; rw [doF_4, hf], rfl, rfl⟩) dX9_succeeds_177
    · have hW : CxB D [(x0, .inr (12, [.ref a0, .ref v0, .ref h0, .ref t0, .ref p0, .ref o0, .int (bI sv), .int le, .int lf])), (q0, .inr (5, [.ref (zs D 14), .int ca, .int cb, .int cc])), (a0, .inr (10, [.ref a1, .ref a5, .ref a10, .int (bb 8 1), .int (bb 8 2), .int (bb 8 3), .int (bb 8 4), .int (bb 8 5), .int (bb 8 6), .int (bb 8 7), .int (bb 8 8)])), (a1, .inr (6, [.ref a2, .ref a3, .ref a4, .int (nI nh)])), (a2, .inl (aT 0, 6, .inl (bb 0))), (a3, .inl (aT 0, 6, .inl (bb 1))), (a4, .inl (aT 0, 6, .inl (bb 2))), (a5, .inr (8, [.ref a6, .ref a7, .ref a8, .ref a9, .int (nI nm), .int (bb 8 0)])), (a6, .inl (aT 0, 12, .inl (bb 3))), (a7, .inl (aT 0, 12, .inl (bb 4))), (a8, .inl (aT 0, 12, .inl (bb 5))), (a9, .inl (aT 0, 12, .inl (bb 6))), (a10, .inl (aT 0, 4, .inl (bb 7)))] A s.heap H _ := hW
      refine cx_catchT C hZ (nm := "java/lang/IllegalStateException") [⟨0, 174, 175, 117⟩, ⟨0, 174, 178, 207⟩] ⟨0, 174, 181, 252⟩ (tableOf []) htb (fun z hz => by
          simp only [List.mem_cons, List.not_mem_nil, or_false] at hz
          rcases hz with rfl | rfl
          · exact Or.inr ⟨by decide, "java/util/NoSuchElementException", gw_862, List.mem_of_getElem? (i := 1) rfl⟩
          · exact Or.inr ⟨by decide, "java/lang/IllegalArgumentException", gw_1051, List.mem_of_getElem? (i := 3) rfl⟩) (by decide) (by decide) gw_1098 nw_637 h7 h8 h9 ?_
      refine lv_astore_n (lv' := [(2, .ref q9), (0, .ref x0), (1, .ref q0)]) hx hb dX9_succeeds_181 rfl hl (by decide) rfl (fun ls hl => ?_)
      refine lv_iconst (v := nI 0) hx hb dX9_succeeds_182 (by decide) ?_
      have hW : CxB D [(x0, .inr (12, [.ref a0, .ref v0, .ref h0, .ref t0, .ref p0, .ref o0, .int (bI sv), .int le, .int lf])), (a0, .inr (10, [.ref a1, .ref a5, .ref a10, .int (bb 8 1), .int (bb 8 2), .int (bb 8 3), .int (bb 8 4), .int (bb 8 5), .int (bb 8 6), .int (bb 8 7), .int (bb 8 8)])), (a1, .inr (6, [.ref a2, .ref a3, .ref a4, .int (nI nh)])), (a2, .inl (aT 0, 6, .inl (bb 0))), (a3, .inl (aT 0, 6, .inl (bb 1))), (a4, .inl (aT 0, 6, .inl (bb 2))), (a5, .inr (8, [.ref a6, .ref a7, .ref a8, .ref a9, .int (nI nm), .int (bb 8 0)])), (a6, .inl (aT 0, 12, .inl (bb 3))), (a7, .inl (aT 0, 12, .inl (bb 4))), (a8, .inl (aT 0, 12, .inl (bb 5))), (a9, .inl (aT 0, 12, .inl (bb 6))), (a10, .inl (aT 0, 4, .inl (bb 7))), (q0, .inr (5, [.ref (zs D 14), .int ca, .int cb, .int cc]))] A s.heap H _ := cx_drop hW [0, 2, 3, 4, 5, 6, 7, 8, 9, 10, 11, 12, 1] rfl (by decide)
      exact cx_tret C hr hlocks (by decide) hW ⟨Nat.le_of_ble_eq_true rfl, Nat.le_of_ble_eq_true rfl⟩ (Or.inl ⟨by have hf2 := hf; rw [emn] at hf2; rw [doF_4, hf2]; dsimp only; rw [if_neg (by omega)], rfl, rfl⟩) dX9_succeeds_183
set_option maxHeartbeats 2000000 in
set_option maxRecDepth 20000 in
theorem k_succeeds_5 (l : Launch) (hfl : l.stackTraces = false) (D : va_G) (aT : Nat → ClassId) (x0 : Nat) (v0 : Nat) (t0 : Nat) (p0 : Nat) (o0 : Nat) (sv : Bool) (le : Int32) (lf : Int32) (h0 : Nat) (a0 : Nat) (a1 : Nat) (a2 : Nat) (a3 : Nat) (a4 : Nat) (a5 : Nat) (a6 : Nat) (a7 : Nat) (a8 : Nat) (a9 : Nat) (a10 : Nat) (bb : Nat → Nat → Int32) (nh : Nat) (nm : Nat) (M : Nat → Int32) (Bd : Nat) (hBd : Bd < 1048000) (hC : CoW M Bd) (hB : BlC bb nh nm M) (q0 : Nat) (ca : Int32) (cb : Int32) (cc : Int32) : CxT l yX9_succeeds cX9_succeeds 3 (some (.boolean)) [(0, 174, 175, 117), (0, 174, 178, 207), (0, 174, 181, 252)] 8 3 18 138 D aT [.ref x0, .ref q0] [(x0, .inr (12, [.ref a0, .ref v0, .ref h0, .ref t0, .ref p0, .ref o0, .int (bI sv), .int le, .int lf])), (a0, .inr (10, [.ref a1, .ref a5, .ref a10, .int (bb 8 1), .int (bb 8 2), .int (bb 8 3), .int (bb 8 4), .int (bb 8 5), .int (bb 8 6), .int (bb 8 7), .int (bb 8 8)])), (a1, .inr (6, [.ref a2, .ref a3, .ref a4, .int (nI nh)])), (a2, .inl (aT 0, 6, .inl (bb 0))), (a3, .inl (aT 0, 6, .inl (bb 1))), (a4, .inl (aT 0, 6, .inl (bb 2))), (a5, .inr (8, [.ref a6, .ref a7, .ref a8, .ref a9, .int (nI nm), .int (bb 8 0)])), (a6, .inl (aT 0, 12, .inl (bb 3))), (a7, .inl (aT 0, 12, .inl (bb 4))), (a8, .inl (aT 0, 12, .inl (bb 5))), (a9, .inl (aT 0, 12, .inl (bb 6))), (a10, .inl (aT 0, 4, .inl (bb 7))), (q0, .inr (5, [.ref (zs D 15), .int ca, .int cb, .int cc]))] (qI D aT (fun r W1 => (doF M 5 ca cb cc = none ∧ r = nI 0 ∧ W1 = [(x0, .inr (12, [.ref a0, .ref v0, .ref h0, .ref t0, .ref p0, .ref o0, .int (bI sv), .int le, .int lf])), (a0, .inr (10, [.ref a1, .ref a5, .ref a10, .int (bb 8 1), .int (bb 8 2), .int (bb 8 3), .int (bb 8 4), .int (bb 8 5), .int (bb 8 6), .int (bb 8 7), .int (bb 8 8)])), (a1, .inr (6, [.ref a2, .ref a3, .ref a4, .int (nI nh)])), (a2, .inl (aT 0, 6, .inl (bb 0))), (a3, .inl (aT 0, 6, .inl (bb 1))), (a4, .inl (aT 0, 6, .inl (bb 2))), (a5, .inr (8, [.ref a6, .ref a7, .ref a8, .ref a9, .int (nI nm), .int (bb 8 0)])), (a6, .inl (aT 0, 12, .inl (bb 3))), (a7, .inl (aT 0, 12, .inl (bb 4))), (a8, .inl (aT 0, 12, .inl (bb 5))), (a9, .inl (aT 0, 12, .inl (bb 6))), (a10, .inl (aT 0, 4, .inl (bb 7))), (q0, .inr (5, [.ref (zs D 15), .int ca, .int cb, .int cc]))]) ∨ (r = nI 1 ∧ ∃ (M1 : Nat → Int32) (b2 : Nat → Nat → Int32) (n2 m2 : Nat), doF M 5 ca cb cc = some M1 ∧ BlC b2 n2 m2 M1 ∧ W1 = [(x0, .inr (12, [.ref a0, .ref v0, .ref h0, .ref t0, .ref p0, .ref o0, .int (bI sv), .int le, .int lf])), (a0, .inr (10, [.ref a1, .ref a5, .ref a10, .int (b2 8 1), .int (b2 8 2), .int (b2 8 3), .int (b2 8 4), .int (b2 8 5), .int (b2 8 6), .int (b2 8 7), .int (b2 8 8)])), (a1, .inr (6, [.ref a2, .ref a3, .ref a4, .int (nI n2)])), (a2, .inl (aT 0, 6, .inl (b2 0))), (a3, .inl (aT 0, 6, .inl (b2 1))), (a4, .inl (aT 0, 6, .inl (b2 2))), (a5, .inr (8, [.ref a6, .ref a7, .ref a8, .ref a9, .int (nI m2), .int (b2 8 0)])), (a6, .inl (aT 0, 12, .inl (b2 3))), (a7, .inl (aT 0, 12, .inl (b2 4))), (a8, .inl (aT 0, 12, .inl (b2 5))), (a9, .inl (aT 0, 12, .inl (b2 6))), (a10, .inl (aT 0, 4, .inl (b2 7))), (q0, .inr (5, [.ref (zs D 15), .int ca, .int cb, .int cc]))]))) := by
  have hH := hB.he hC
  have hO := hB.mo hC
  obtain ⟨s0, hs4, hs3⟩ := hC.2.2.1
  have hs0 : bb 8 1 = nI s0 := by rw [hB.2.2.2.2.2.1.2.1]; exact hs3
  have ehn := hB.1
  have emn := hB.2.1
  refine CxT.of RX9 (by decide +kernel) rfl (Nat.le_of_ble_eq_true rfl) ?_
  intro p e s m below meth c A ls C hml hl hA hr hlocks htb hZ hW
  have hl : lv_has ls 3 [(0, .ref x0), (1, .ref q0)] := hl
  have hx := C.1
  have hb := C.2.1
  refine va_gets hx hb hZ.2.2.2.2.2.2.2.2.2.2.1.2.2.2.2.2.2.1 hW.2.2 C.2.2.2.1 (C.2.2.1 _ gw_1305) (fun _ h9 => h9) dX9_succeeds_0 ?_
  refine lv_aload_n hx hb dX9_succeeds_3 rfl (lv_at hl 1 rfl) ?_
  refine cx_getN C hZ hW 12 0 rfl rfl (by decide) inX1 nw_1197 rfl rfl dX9_succeeds_4 ?_
  refine cx_callh (Wr := [(x0, .inr (12, [.ref a0, .ref v0, .ref h0, .ref t0, .ref p0, .ref o0, .int (bI sv), .int le, .int lf])), (a0, .inr (10, [.ref a1, .ref a5, .ref a10, .int (bb 8 1), .int (bb 8 2), .int (bb 8 3), .int (bb 8 4), .int (bb 8 5), .int (bb 8 6), .int (bb 8 7), .int (bb 8 8)])), (a1, .inr (6, [.ref a2, .ref a3, .ref a4, .int (nI nh)])), (a2, .inl (aT 0, 6, .inl (bb 0))), (a3, .inl (aT 0, 6, .inl (bb 1))), (a4, .inl (aT 0, 6, .inl (bb 2))), (a5, .inr (8, [.ref a6, .ref a7, .ref a8, .ref a9, .int (nI nm), .int (bb 8 0)])), (a6, .inl (aT 0, 12, .inl (bb 3))), (a7, .inl (aT 0, 12, .inl (bb 4))), (a8, .inl (aT 0, 12, .inl (bb 5))), (a9, .inl (aT 0, 12, .inl (bb 6))), (a10, .inl (aT 0, 4, .inl (bb 7))), (q0, .inr (5, [.ref (zs D 15), .int ca, .int cb, .int cc]))]) (cx_runOR C hml hl.1 hZ hW hA (i := 5) (rest := [.ref (zs D 2)]) (by decide) gw_1307 ⟨Nat.le_of_ble_eq_true rfl, Nat.le_of_ble_eq_true rfl⟩ ⟨Nat.le_of_ble_eq_true rfl, Nat.le_of_ble_eq_true rfl⟩ (Nat.le_of_ble_eq_true rfl) dX9_succeeds_7) hW hA [] [0, 1, 2, 3, 4, 5, 6, 7, 8, 9, 10, 11, 12] rfl rfl (by decide) (by decide)  (fun r_7 W_7 H locs hq hW => ?_)
  obtain ⟨rfl, rfl⟩ := hq
  have hW : CxB D [(x0, .inr (12, [.ref a0, .ref v0, .ref h0, .ref t0, .ref p0, .ref o0, .int (bI sv), .int le, .int lf])), (a0, .inr (10, [.ref a1, .ref a5, .ref a10, .int (bb 8 1), .int (bb 8 2), .int (bb 8 3), .int (bb 8 4), .int (bb 8 5), .int (bb 8 6), .int (bb 8 7), .int (bb 8 8)])), (a1, .inr (6, [.ref a2, .ref a3, .ref a4, .int (nI nh)])), (a2, .inl (aT 0, 6, .inl (bb 0))), (a3, .inl (aT 0, 6, .inl (bb 1))), (a4, .inl (aT 0, 6, .inl (bb 2))), (a5, .inr (8, [.ref a6, .ref a7, .ref a8, .ref a9, .int (nI nm), .int (bb 8 0)])), (a6, .inl (aT 0, 12, .inl (bb 3))), (a7, .inl (aT 0, 12, .inl (bb 4))), (a8, .inl (aT 0, 12, .inl (bb 5))), (a9, .inl (aT 0, 12, .inl (bb 6))), (a10, .inl (aT 0, 4, .inl (bb 7))), (q0, .inr (5, [.ref (zs D 15), .int ca, .int cb, .int cc]))] A s.heap H _ := hW
  refine va_ti (v := .int (nI 6)) hx hb (hZ.2.2.2.2.2.2.2.2.2.2.1.2.2.2.2.2.2.2) hW.2.2 (i := nI 5) (vp_in_nI (by decide) (by decide)) (by rw [nI_clamp (by decide)]) dX9_succeeds_10 ?_
  refine lv_tableIn (tgt := 151) hx hb dX9_succeeds_11 (by decide) (by decide) rfl (by decide) ?_
  refine lv_aload_n hx hb dX9_succeeds_151 rfl (lv_at hl 0 rfl) ?_
  refine cx_get C hW 0 0 rfl rfl (by decide) inX9 gw_346 rfl rfl dX9_succeeds_152 ?_
  refine lv_aload_n hx hb dX9_succeeds_155 rfl (lv_at hl 1 rfl) ?_
  refine cx_getN C hZ hW 12 1 rfl rfl (by decide) inX1 nw_1199 rfl rfl dX9_succeeds_156 ?_
  refine cx_calli (Wr := [(x0, .inr (12, [.ref a0, .ref v0, .ref h0, .ref t0, .ref p0, .ref o0, .int (bI sv), .int le, .int lf])), (q0, .inr (5, [.ref (zs D 15), .int ca, .int cb, .int cc]))]) (cx_runV C hml hl.1 hZ hW hA (As := [.int ca]) (rest := []) (k_X7_holdVote l hfl D aT a0 a1 a2 a3 a4 a5 a6 a7 a8 a9 a10 bb nh nm M Bd hBd hC hB ca s0 hs0 hs4) gV_X9_X7_holdVote_83 hV_X7_holdVote rfl ⟨Nat.le_of_ble_eq_true rfl, Nat.le_of_ble_eq_true rfl⟩ ⟨Nat.le_of_ble_eq_true rfl, Nat.le_of_ble_eq_true rfl⟩ [1, 2, 3, 4, 5, 6, 7, 8, 9, 10, 11] rfl (by decide) 1 10 rfl rfl rfl rfl (Nat.le_of_ble_eq_true rfl) dX9_succeeds_159) hW hA [1, 2, 3, 4, 5, 6, 7, 8, 9, 10, 11] [0, 12] rfl rfl (by decide) (by decide) ?_ (fun r_159 W_159 H locs hq hW => ?_)
  rotate_left
  obtain ⟨q_159, b2_159, ⟨hq_159, h0_159, ht_159, rfl⟩, hB_159, rfl⟩ := hq
  have hW : CxB D [(x0, .inr (12, [.ref a0, .ref v0, .ref h0, .ref t0, .ref p0, .ref o0, .int (bI sv), .int le, .int lf])), (q0, .inr (5, [.ref (zs D 15), .int ca, .int cb, .int cc])), (a0, .inr (10, [.ref a1, .ref a5, .ref a10, .int (b2_159 8 1), .int (b2_159 8 2), .int (b2_159 8 3), .int (b2_159 8 4), .int (b2_159 8 5), .int (b2_159 8 6), .int (b2_159 8 7), .int (b2_159 8 8)])), (a1, .inr (6, [.ref a2, .ref a3, .ref a4, .int (nI nh)])), (a2, .inl (aT 0, 6, .inl (b2_159 0))), (a3, .inl (aT 0, 6, .inl (b2_159 1))), (a4, .inl (aT 0, 6, .inl (b2_159 2))), (a5, .inr (8, [.ref a6, .ref a7, .ref a8, .ref a9, .int (nI (nm - 1)), .int (b2_159 8 0)])), (a6, .inl (aT 0, 12, .inl (b2_159 3))), (a7, .inl (aT 0, 12, .inl (b2_159 4))), (a8, .inl (aT 0, 12, .inl (b2_159 5))), (a9, .inl (aT 0, 12, .inl (b2_159 6))), (a10, .inl (aT 0, 4, .inl (b2_159 7)))] A s.heap H _ := hW
  refine lv_pop hx hb dX9_succeeds_162 rfl ?_
  refine lv_goto (tgt := 173) hx hb dX9_succeeds_163 (by decide) ?_
  refine lv_iconst (v := nI 1) hx hb dX9_succeeds_173 (by decide) ?_
  have hW : CxB D [(x0, .inr (12, [.ref a0, .ref v0, .ref h0, .ref t0, .ref p0, .ref o0, .int (bI sv), .int le, .int lf])), (a0, .inr (10, [.ref a1, .ref a5, .ref a10, .int (b2_159 8 1), .int (b2_159 8 2), .int (b2_159 8 3), .int (b2_159 8 4), .int (b2_159 8 5), .int (b2_159 8 6), .int (b2_159 8 7), .int (b2_159 8 8)])), (a1, .inr (6, [.ref a2, .ref a3, .ref a4, .int (nI nh)])), (a2, .inl (aT 0, 6, .inl (b2_159 0))), (a3, .inl (aT 0, 6, .inl (b2_159 1))), (a4, .inl (aT 0, 6, .inl (b2_159 2))), (a5, .inr (8, [.ref a6, .ref a7, .ref a8, .ref a9, .int (nI (nm - 1)), .int (b2_159 8 0)])), (a6, .inl (aT 0, 12, .inl (b2_159 3))), (a7, .inl (aT 0, 12, .inl (b2_159 4))), (a8, .inl (aT 0, 12, .inl (b2_159 5))), (a9, .inl (aT 0, 12, .inl (b2_159 6))), (a10, .inl (aT 0, 4, .inl (b2_159 7))), (q0, .inr (5, [.ref (zs D 15), .int ca, .int cb, .int cc]))] A s.heap H _ := cx_drop hW [0, 2, 3, 4, 5, 6, 7, 8, 9, 10, 11, 12, 1] rfl (by decide)
  exact cx_tret C hr hlocks (by decide) hW ⟨Nat.le_of_ble_eq_true rfl, Nat.le_of_ble_eq_true rfl⟩ (Or.inr ⟨rfl, _, _, _, _, by have hf2 := hq_159; have ht2 := ht_159; have h02 := h0_159; rw [emn] at hf2 ht2; rw [ehn] at h02; rw [doF_5, hf2]; dsimp only; rw [if_neg (by rintro (z | z); omega; rw [ht2] at z; cases z)], hB_159, rfl⟩) dX9_succeeds_174
  · intro E ce q9 W9 H locs hE hW h7 h8 h9
    rcases hE with ⟨⟨rfl, hf⟩ | ⟨q, hf, rfl, h6⟩, rfl⟩
    · have hW : CxB D [(x0, .inr (12, [.ref a0, .ref v0, .ref h0, .ref t0, .ref p0, .ref o0, .int (bI sv), .int le, .int lf])), (q0, .inr (5, [.ref (zs D 15), .int ca, .int cb, .int cc])), (a0, .inr (10, [.ref a1, .ref a5, .ref a10, .int (bb 8 1), .int (bb 8 2), .int (bb 8 3), .int (bb 8 4), .int (bb 8 5), .int (bb 8 6), .int (bb 8 7), .int (bb 8 8)])), (a1, .inr (6, [.ref a2, .ref a3, .ref a4, .int (nI nh)])), (a2, .inl (aT 0, 6, .inl (bb 0))), (a3, .inl (aT 0, 6, .inl (bb 1))), (a4, .inl (aT 0, 6, .inl (bb 2))), (a5, .inr (8, [.ref a6, .ref a7, .ref a8, .ref a9, .int (nI nm), .int (bb 8 0)])), (a6, .inl (aT 0, 12, .inl (bb 3))), (a7, .inl (aT 0, 12, .inl (bb 4))), (a8, .inl (aT 0, 12, .inl (bb 5))), (a9, .inl (aT 0, 12, .inl (bb 6))), (a10, .inl (aT 0, 4, .inl (bb 7)))] A s.heap H _ := hW
      refine cx_catchT C hZ (nm := "java/util/NoSuchElementException") [] ⟨0, 174, 175, 117⟩ (tableOf [(0, 174, 178, 207), (0, 174, 181, 252)]) htb (fun z hz => by cases hz) (by decide) (by decide) gw_862 nw_705 h7 h8 h9 ?_
      refine lv_astore_n (lv' := [(2, .ref q9), (0, .ref x0), (1, .ref q0)]) hx hb dX9_succeeds_175 rfl hl (by decide) rfl (fun ls hl => ?_)
      refine lv_iconst (v := nI 0) hx hb dX9_succeeds_176 (by decide) ?_
      have hW : CxB D [(x0, .inr (12, [.ref a0, .ref v0, .ref h0, .ref t0, .ref p0, .ref o0, .int (bI sv), .int le, .int lf])), (a0, .inr (10, [.ref a1, .ref a5, .ref a10, .int (bb 8 1), .int (bb 8 2), .int (bb 8 3), .int (bb 8 4), .int (bb 8 5), .int (bb 8 6), .int (bb 8 7), .int (bb 8 8)])), (a1, .inr (6, [.ref a2, .ref a3, .ref a4, .int (nI nh)])), (a2, .inl (aT 0, 6, .inl (bb 0))), (a3, .inl (aT 0, 6, .inl (bb 1))), (a4, .inl (aT 0, 6, .inl (bb 2))), (a5, .inr (8, [.ref a6, .ref a7, .ref a8, .ref a9, .int (nI nm), .int (bb 8 0)])), (a6, .inl (aT 0, 12, .inl (bb 3))), (a7, .inl (aT 0, 12, .inl (bb 4))), (a8, .inl (aT 0, 12, .inl (bb 5))), (a9, .inl (aT 0, 12, .inl (bb 6))), (a10, .inl (aT 0, 4, .inl (bb 7))), (q0, .inr (5, [.ref (zs D 15), .int ca, .int cb, .int cc]))] A s.heap H _ := cx_drop hW [0, 2, 3, 4, 5, 6, 7, 8, 9, 10, 11, 12, 1] rfl (by decide)
      exact cx_tret C hr hlocks (by decide) hW ⟨Nat.le_of_ble_eq_true rfl, Nat.le_of_ble_eq_true rfl⟩ (Or.inl ⟨by rw [emn] at hf; rw [doF_5, hf], rfl, rfl⟩) dX9_succeeds_177
    · have hW : CxB D [(x0, .inr (12, [.ref a0, .ref v0, .ref h0, .ref t0, .ref p0, .ref o0, .int (bI sv), .int le, .int lf])), (q0, .inr (5, [.ref (zs D 15), .int ca, .int cb, .int cc])), (a0, .inr (10, [.ref a1, .ref a5, .ref a10, .int (bb 8 1), .int (bb 8 2), .int (bb 8 3), .int (bb 8 4), .int (bb 8 5), .int (bb 8 6), .int (bb 8 7), .int (bb 8 8)])), (a1, .inr (6, [.ref a2, .ref a3, .ref a4, .int (nI nh)])), (a2, .inl (aT 0, 6, .inl (bb 0))), (a3, .inl (aT 0, 6, .inl (bb 1))), (a4, .inl (aT 0, 6, .inl (bb 2))), (a5, .inr (8, [.ref a6, .ref a7, .ref a8, .ref a9, .int (nI nm), .int (bb 8 0)])), (a6, .inl (aT 0, 12, .inl (bb 3))), (a7, .inl (aT 0, 12, .inl (bb 4))), (a8, .inl (aT 0, 12, .inl (bb 5))), (a9, .inl (aT 0, 12, .inl (bb 6))), (a10, .inl (aT 0, 4, .inl (bb 7)))] A s.heap H _ := hW
      refine cx_catchT C hZ (nm := "java/lang/IllegalStateException") [⟨0, 174, 175, 117⟩, ⟨0, 174, 178, 207⟩] ⟨0, 174, 181, 252⟩ (tableOf []) htb (fun z hz => by
          simp only [List.mem_cons, List.not_mem_nil, or_false] at hz
          rcases hz with rfl | rfl
          · exact Or.inr ⟨by decide, "java/util/NoSuchElementException", gw_862, List.mem_of_getElem? (i := 1) rfl⟩
          · exact Or.inr ⟨by decide, "java/lang/IllegalArgumentException", gw_1051, List.mem_of_getElem? (i := 3) rfl⟩) (by decide) (by decide) gw_1098 nw_637 h7 h8 h9 ?_
      refine lv_astore_n (lv' := [(2, .ref q9), (0, .ref x0), (1, .ref q0)]) hx hb dX9_succeeds_181 rfl hl (by decide) rfl (fun ls hl => ?_)
      refine lv_iconst (v := nI 0) hx hb dX9_succeeds_182 (by decide) ?_
      have hW : CxB D [(x0, .inr (12, [.ref a0, .ref v0, .ref h0, .ref t0, .ref p0, .ref o0, .int (bI sv), .int le, .int lf])), (a0, .inr (10, [.ref a1, .ref a5, .ref a10, .int (bb 8 1), .int (bb 8 2), .int (bb 8 3), .int (bb 8 4), .int (bb 8 5), .int (bb 8 6), .int (bb 8 7), .int (bb 8 8)])), (a1, .inr (6, [.ref a2, .ref a3, .ref a4, .int (nI nh)])), (a2, .inl (aT 0, 6, .inl (bb 0))), (a3, .inl (aT 0, 6, .inl (bb 1))), (a4, .inl (aT 0, 6, .inl (bb 2))), (a5, .inr (8, [.ref a6, .ref a7, .ref a8, .ref a9, .int (nI nm), .int (bb 8 0)])), (a6, .inl (aT 0, 12, .inl (bb 3))), (a7, .inl (aT 0, 12, .inl (bb 4))), (a8, .inl (aT 0, 12, .inl (bb 5))), (a9, .inl (aT 0, 12, .inl (bb 6))), (a10, .inl (aT 0, 4, .inl (bb 7))), (q0, .inr (5, [.ref (zs D 15), .int ca, .int cb, .int cc]))] A s.heap H _ := cx_drop hW [0, 2, 3, 4, 5, 6, 7, 8, 9, 10, 11, 12, 1] rfl (by decide)
      exact cx_tret C hr hlocks (by decide) hW ⟨Nat.le_of_ble_eq_true rfl, Nat.le_of_ble_eq_true rfl⟩ (Or.inl ⟨by rw [emn] at hf; rw [emn, ehn] at h6; rw [doF_5, hf]; dsimp only; rw [if_pos h6], rfl, rfl⟩) dX9_succeeds_183
set_option maxHeartbeats 2000000 in
set_option maxRecDepth 20000 in
theorem k_succeeds_6 (l : Launch) (hfl : l.stackTraces = false) (D : va_G) (aT : Nat → ClassId) (x0 : Nat) (v0 : Nat) (t0 : Nat) (p0 : Nat) (o0 : Nat) (sv : Bool) (le : Int32) (lf : Int32) (h0 : Nat) (a0 : Nat) (a1 : Nat) (a2 : Nat) (a3 : Nat) (a4 : Nat) (a5 : Nat) (a6 : Nat) (a7 : Nat) (a8 : Nat) (a9 : Nat) (a10 : Nat) (bb : Nat → Nat → Int32) (nh : Nat) (nm : Nat) (M : Nat → Int32) (Bd : Nat) (hBd : Bd < 1048000) (hC : CoW M Bd) (hB : BlC bb nh nm M) (q0 : Nat) (ca : Int32) (cb : Int32) (cc : Int32) : CxT l yX9_succeeds cX9_succeeds 3 (some (.boolean)) [(0, 174, 175, 117), (0, 174, 178, 207), (0, 174, 181, 252)] 8 3 18 138 D aT [.ref x0, .ref q0] [(x0, .inr (12, [.ref a0, .ref v0, .ref h0, .ref t0, .ref p0, .ref o0, .int (bI sv), .int le, .int lf])), (a0, .inr (10, [.ref a1, .ref a5, .ref a10, .int (bb 8 1), .int (bb 8 2), .int (bb 8 3), .int (bb 8 4), .int (bb 8 5), .int (bb 8 6), .int (bb 8 7), .int (bb 8 8)])), (a1, .inr (6, [.ref a2, .ref a3, .ref a4, .int (nI nh)])), (a2, .inl (aT 0, 6, .inl (bb 0))), (a3, .inl (aT 0, 6, .inl (bb 1))), (a4, .inl (aT 0, 6, .inl (bb 2))), (a5, .inr (8, [.ref a6, .ref a7, .ref a8, .ref a9, .int (nI nm), .int (bb 8 0)])), (a6, .inl (aT 0, 12, .inl (bb 3))), (a7, .inl (aT 0, 12, .inl (bb 4))), (a8, .inl (aT 0, 12, .inl (bb 5))), (a9, .inl (aT 0, 12, .inl (bb 6))), (a10, .inl (aT 0, 4, .inl (bb 7))), (q0, .inr (5, [.ref (zs D 16), .int ca, .int cb, .int cc]))] (qI D aT (fun r W1 => (doF M 6 ca cb cc = none ∧ r = nI 0 ∧ W1 = [(x0, .inr (12, [.ref a0, .ref v0, .ref h0, .ref t0, .ref p0, .ref o0, .int (bI sv), .int le, .int lf])), (a0, .inr (10, [.ref a1, .ref a5, .ref a10, .int (bb 8 1), .int (bb 8 2), .int (bb 8 3), .int (bb 8 4), .int (bb 8 5), .int (bb 8 6), .int (bb 8 7), .int (bb 8 8)])), (a1, .inr (6, [.ref a2, .ref a3, .ref a4, .int (nI nh)])), (a2, .inl (aT 0, 6, .inl (bb 0))), (a3, .inl (aT 0, 6, .inl (bb 1))), (a4, .inl (aT 0, 6, .inl (bb 2))), (a5, .inr (8, [.ref a6, .ref a7, .ref a8, .ref a9, .int (nI nm), .int (bb 8 0)])), (a6, .inl (aT 0, 12, .inl (bb 3))), (a7, .inl (aT 0, 12, .inl (bb 4))), (a8, .inl (aT 0, 12, .inl (bb 5))), (a9, .inl (aT 0, 12, .inl (bb 6))), (a10, .inl (aT 0, 4, .inl (bb 7))), (q0, .inr (5, [.ref (zs D 16), .int ca, .int cb, .int cc]))]) ∨ (r = nI 1 ∧ ∃ (M1 : Nat → Int32) (b2 : Nat → Nat → Int32) (n2 m2 : Nat), doF M 6 ca cb cc = some M1 ∧ BlC b2 n2 m2 M1 ∧ W1 = [(x0, .inr (12, [.ref a0, .ref v0, .ref h0, .ref t0, .ref p0, .ref o0, .int (bI sv), .int le, .int lf])), (a0, .inr (10, [.ref a1, .ref a5, .ref a10, .int (b2 8 1), .int (b2 8 2), .int (b2 8 3), .int (b2 8 4), .int (b2 8 5), .int (b2 8 6), .int (b2 8 7), .int (b2 8 8)])), (a1, .inr (6, [.ref a2, .ref a3, .ref a4, .int (nI n2)])), (a2, .inl (aT 0, 6, .inl (b2 0))), (a3, .inl (aT 0, 6, .inl (b2 1))), (a4, .inl (aT 0, 6, .inl (b2 2))), (a5, .inr (8, [.ref a6, .ref a7, .ref a8, .ref a9, .int (nI m2), .int (b2 8 0)])), (a6, .inl (aT 0, 12, .inl (b2 3))), (a7, .inl (aT 0, 12, .inl (b2 4))), (a8, .inl (aT 0, 12, .inl (b2 5))), (a9, .inl (aT 0, 12, .inl (b2 6))), (a10, .inl (aT 0, 4, .inl (b2 7))), (q0, .inr (5, [.ref (zs D 16), .int ca, .int cb, .int cc]))]))) := by
  have hH := hB.he hC
  have hO := hB.mo hC
  obtain ⟨s0, hs4, hs3⟩ := hC.2.2.1
  have hs0 : bb 8 1 = nI s0 := by rw [hB.2.2.2.2.2.1.2.1]; exact hs3
  have ehn := hB.1
  have emn := hB.2.1
  refine CxT.of RX9 (by decide +kernel) rfl (Nat.le_of_ble_eq_true rfl) ?_
  intro p e s m below meth c A ls C hml hl hA hr hlocks htb hZ hW
  have hl : lv_has ls 3 [(0, .ref x0), (1, .ref q0)] := hl
  have hx := C.1
  have hb := C.2.1
  refine va_gets hx hb hZ.2.2.2.2.2.2.2.2.2.2.1.2.2.2.2.2.2.1 hW.2.2 C.2.2.2.1 (C.2.2.1 _ gw_1305) (fun _ h9 => h9) dX9_succeeds_0 ?_
  refine lv_aload_n hx hb dX9_succeeds_3 rfl (lv_at hl 1 rfl) ?_
  refine cx_getN C hZ hW 12 0 rfl rfl (by decide) inX1 nw_1197 rfl rfl dX9_succeeds_4 ?_
  refine cx_callh (Wr := [(x0, .inr (12, [.ref a0, .ref v0, .ref h0, .ref t0, .ref p0, .ref o0, .int (bI sv), .int le, .int lf])), (a0, .inr (10, [.ref a1, .ref a5, .ref a10, .int (bb 8 1), .int (bb 8 2), .int (bb 8 3), .int (bb 8 4), .int (bb 8 5), .int (bb 8 6), .int (bb 8 7), .int (bb 8 8)])), (a1, .inr (6, [.ref a2, .ref a3, .ref a4, .int (nI nh)])), (a2, .inl (aT 0, 6, .inl (bb 0))), (a3, .inl (aT 0, 6, .inl (bb 1))), (a4, .inl (aT 0, 6, .inl (bb 2))), (a5, .inr (8, [.ref a6, .ref a7, .ref a8, .ref a9, .int (nI nm), .int (bb 8 0)])), (a6, .inl (aT 0, 12, .inl (bb 3))), (a7, .inl (aT 0, 12, .inl (bb 4))), (a8, .inl (aT 0, 12, .inl (bb 5))), (a9, .inl (aT 0, 12, .inl (bb 6))), (a10, .inl (aT 0, 4, .inl (bb 7))), (q0, .inr (5, [.ref (zs D 16), .int ca, .int cb, .int cc]))]) (cx_runOR C hml hl.1 hZ hW hA (i := 6) (rest := [.ref (zs D 2)]) (by decide) gw_1307 ⟨Nat.le_of_ble_eq_true rfl, Nat.le_of_ble_eq_true rfl⟩ ⟨Nat.le_of_ble_eq_true rfl, Nat.le_of_ble_eq_true rfl⟩ (Nat.le_of_ble_eq_true rfl) dX9_succeeds_7) hW hA [] [0, 1, 2, 3, 4, 5, 6, 7, 8, 9, 10, 11, 12] rfl rfl (by decide) (by decide)  (fun r_7 W_7 H locs hq hW => ?_)
  obtain ⟨rfl, rfl⟩ := hq
  have hW : CxB D [(x0, .inr (12, [.ref a0, .ref v0, .ref h0, .ref t0, .ref p0, .ref o0, .int (bI sv), .int le, .int lf])), (a0, .inr (10, [.ref a1, .ref a5, .ref a10, .int (bb 8 1), .int (bb 8 2), .int (bb 8 3), .int (bb 8 4), .int (bb 8 5), .int (bb 8 6), .int (bb 8 7), .int (bb 8 8)])), (a1, .inr (6, [.ref a2, .ref a3, .ref a4, .int (nI nh)])), (a2, .inl (aT 0, 6, .inl (bb 0))), (a3, .inl (aT 0, 6, .inl (bb 1))), (a4, .inl (aT 0, 6, .inl (bb 2))), (a5, .inr (8, [.ref a6, .ref a7, .ref a8, .ref a9, .int (nI nm), .int (bb 8 0)])), (a6, .inl (aT 0, 12, .inl (bb 3))), (a7, .inl (aT 0, 12, .inl (bb 4))), (a8, .inl (aT 0, 12, .inl (bb 5))), (a9, .inl (aT 0, 12, .inl (bb 6))), (a10, .inl (aT 0, 4, .inl (bb 7))), (q0, .inr (5, [.ref (zs D 16), .int ca, .int cb, .int cc]))] A s.heap H _ := hW
  refine va_ti (v := .int (nI 7)) hx hb (hZ.2.2.2.2.2.2.2.2.2.2.1.2.2.2.2.2.2.2) hW.2.2 (i := nI 6) (vp_in_nI (by decide) (by decide)) (by rw [nI_clamp (by decide)]) dX9_succeeds_10 ?_
  refine lv_tableIn (tgt := 166) hx hb dX9_succeeds_11 (by decide) (by decide) rfl (by decide) ?_
  refine lv_aload_n hx hb dX9_succeeds_166 rfl (lv_at hl 0 rfl) ?_
  refine cx_get C hW 0 0 rfl rfl (by decide) inX9 gw_346 rfl rfl dX9_succeeds_167 ?_
  refine cx_callv (Wr := [(x0, .inr (12, [.ref a0, .ref v0, .ref h0, .ref t0, .ref p0, .ref o0, .int (bI sv), .int le, .int lf])), (q0, .inr (5, [.ref (zs D 16), .int ca, .int cb, .int cc]))]) (cx_runV C hml hl.1 hZ hW hA (As := []) (rest := []) (k_X7_beginNextSeason l hfl D aT a0 a1 a2 a3 a4 a5 a6 a7 a8 a9 a10 bb nh nm M Bd hBd hC hB s0 hs0 hs4) gV_X9_X7_beginNextSeason_87 hV_X7_beginNextSeason rfl ⟨Nat.le_of_ble_eq_true rfl, Nat.le_of_ble_eq_true rfl⟩ ⟨Nat.le_of_ble_eq_true rfl, Nat.le_of_ble_eq_true rfl⟩ [1, 2, 3, 4, 5, 6, 7, 8, 9, 10, 11] rfl (by decide) 1 10 rfl rfl rfl rfl (Nat.le_of_ble_eq_true rfl) dX9_succeeds_170) hW hA [1, 2, 3, 4, 5, 6, 7, 8, 9, 10, 11] [0, 12] rfl rfl (by decide) (by decide) (fun _ _ _ _ _ _ h9 => h9.elim) (fun W_170 H locs hq hW => ?_)
  obtain ⟨b2_170, hB_170, rfl⟩ := hq
  have hW : CxB D [(x0, .inr (12, [.ref a0, .ref v0, .ref h0, .ref t0, .ref p0, .ref o0, .int (bI sv), .int le, .int lf])), (q0, .inr (5, [.ref (zs D 16), .int ca, .int cb, .int cc])), (a0, .inr (10, [.ref a1, .ref a5, .ref a10, .int (b2_170 8 1), .int (b2_170 8 2), .int (b2_170 8 3), .int (b2_170 8 4), .int (b2_170 8 5), .int (b2_170 8 6), .int (b2_170 8 7), .int (b2_170 8 8)])), (a1, .inr (6, [.ref a2, .ref a3, .ref a4, .int (nI nh)])), (a2, .inl (aT 0, 6, .inl (b2_170 0))), (a3, .inl (aT 0, 6, .inl (b2_170 1))), (a4, .inl (aT 0, 6, .inl (b2_170 2))), (a5, .inr (8, [.ref a6, .ref a7, .ref a8, .ref a9, .int (nI nm), .int (b2_170 8 0)])), (a6, .inl (aT 0, 12, .inl (b2_170 3))), (a7, .inl (aT 0, 12, .inl (b2_170 4))), (a8, .inl (aT 0, 12, .inl (b2_170 5))), (a9, .inl (aT 0, 12, .inl (b2_170 6))), (a10, .inl (aT 0, 4, .inl (b2_170 7)))] A s.heap H _ := hW
  refine lv_iconst (v := nI 1) hx hb dX9_succeeds_173 (by decide) ?_
  have hW : CxB D [(x0, .inr (12, [.ref a0, .ref v0, .ref h0, .ref t0, .ref p0, .ref o0, .int (bI sv), .int le, .int lf])), (a0, .inr (10, [.ref a1, .ref a5, .ref a10, .int (b2_170 8 1), .int (b2_170 8 2), .int (b2_170 8 3), .int (b2_170 8 4), .int (b2_170 8 5), .int (b2_170 8 6), .int (b2_170 8 7), .int (b2_170 8 8)])), (a1, .inr (6, [.ref a2, .ref a3, .ref a4, .int (nI nh)])), (a2, .inl (aT 0, 6, .inl (b2_170 0))), (a3, .inl (aT 0, 6, .inl (b2_170 1))), (a4, .inl (aT 0, 6, .inl (b2_170 2))), (a5, .inr (8, [.ref a6, .ref a7, .ref a8, .ref a9, .int (nI nm), .int (b2_170 8 0)])), (a6, .inl (aT 0, 12, .inl (b2_170 3))), (a7, .inl (aT 0, 12, .inl (b2_170 4))), (a8, .inl (aT 0, 12, .inl (b2_170 5))), (a9, .inl (aT 0, 12, .inl (b2_170 6))), (a10, .inl (aT 0, 4, .inl (b2_170 7))), (q0, .inr (5, [.ref (zs D 16), .int ca, .int cb, .int cc]))] A s.heap H _ := cx_drop hW [0, 2, 3, 4, 5, 6, 7, 8, 9, 10, 11, 12, 1] rfl (by decide)
  exact cx_tret C hr hlocks (by decide) hW ⟨Nat.le_of_ble_eq_true rfl, Nat.le_of_ble_eq_true rfl⟩ (Or.inr ⟨rfl, _, _, _, _, by rw [doF_6, show snM M = s0 from by unfold snM; rw [hs3, nI_clamp (by omega)]], hB_170, rfl⟩) dX9_succeeds_174
theorem k_succeeds (l : Launch) (hfl : l.stackTraces = false) (D : va_G) (aT : Nat → ClassId) (x0 : Nat) (v0 : Nat) (t0 : Nat) (p0 : Nat) (o0 : Nat) (sv : Bool) (le : Int32) (lf : Int32) (h0 : Nat) (a0 : Nat) (a1 : Nat) (a2 : Nat) (a3 : Nat) (a4 : Nat) (a5 : Nat) (a6 : Nat) (a7 : Nat) (a8 : Nat) (a9 : Nat) (a10 : Nat) (bb : Nat → Nat → Int32) (nh : Nat) (nm : Nat) (M : Nat → Int32) (Bd : Nat) (hBd : Bd < 1048000) (hC : CoW M Bd) (hB : BlC bb nh nm M) (q0 : Nat) (ca : Int32) (cb : Int32) (cc : Int32) (w : Nat) (hw7 : w < 7) : CxT l yX9_succeeds cX9_succeeds 3 (some (.boolean)) [(0, 174, 175, 117), (0, 174, 178, 207), (0, 174, 181, 252)] 8 3 18 138 D aT [.ref x0, .ref q0] [(x0, .inr (12, [.ref a0, .ref v0, .ref h0, .ref t0, .ref p0, .ref o0, .int (bI sv), .int le, .int lf])), (a0, .inr (10, [.ref a1, .ref a5, .ref a10, .int (bb 8 1), .int (bb 8 2), .int (bb 8 3), .int (bb 8 4), .int (bb 8 5), .int (bb 8 6), .int (bb 8 7), .int (bb 8 8)])), (a1, .inr (6, [.ref a2, .ref a3, .ref a4, .int (nI nh)])), (a2, .inl (aT 0, 6, .inl (bb 0))), (a3, .inl (aT 0, 6, .inl (bb 1))), (a4, .inl (aT 0, 6, .inl (bb 2))), (a5, .inr (8, [.ref a6, .ref a7, .ref a8, .ref a9, .int (nI nm), .int (bb 8 0)])), (a6, .inl (aT 0, 12, .inl (bb 3))), (a7, .inl (aT 0, 12, .inl (bb 4))), (a8, .inl (aT 0, 12, .inl (bb 5))), (a9, .inl (aT 0, 12, .inl (bb 6))), (a10, .inl (aT 0, 4, .inl (bb 7))), (q0, .inr (5, [.ref (zs D (10 + w)), .int ca, .int cb, .int cc]))] (qI D aT (fun r W1 => (doF M w ca cb cc = none ∧ r = nI 0 ∧ W1 = [(x0, .inr (12, [.ref a0, .ref v0, .ref h0, .ref t0, .ref p0, .ref o0, .int (bI sv), .int le, .int lf])), (a0, .inr (10, [.ref a1, .ref a5, .ref a10, .int (bb 8 1), .int (bb 8 2), .int (bb 8 3), .int (bb 8 4), .int (bb 8 5), .int (bb 8 6), .int (bb 8 7), .int (bb 8 8)])), (a1, .inr (6, [.ref a2, .ref a3, .ref a4, .int (nI nh)])), (a2, .inl (aT 0, 6, .inl (bb 0))), (a3, .inl (aT 0, 6, .inl (bb 1))), (a4, .inl (aT 0, 6, .inl (bb 2))), (a5, .inr (8, [.ref a6, .ref a7, .ref a8, .ref a9, .int (nI nm), .int (bb 8 0)])), (a6, .inl (aT 0, 12, .inl (bb 3))), (a7, .inl (aT 0, 12, .inl (bb 4))), (a8, .inl (aT 0, 12, .inl (bb 5))), (a9, .inl (aT 0, 12, .inl (bb 6))), (a10, .inl (aT 0, 4, .inl (bb 7))), (q0, .inr (5, [.ref (zs D (10 + w)), .int ca, .int cb, .int cc]))]) ∨ (r = nI 1 ∧ ∃ (M1 : Nat → Int32) (b2 : Nat → Nat → Int32) (n2 m2 : Nat), doF M w ca cb cc = some M1 ∧ BlC b2 n2 m2 M1 ∧ W1 = [(x0, .inr (12, [.ref a0, .ref v0, .ref h0, .ref t0, .ref p0, .ref o0, .int (bI sv), .int le, .int lf])), (a0, .inr (10, [.ref a1, .ref a5, .ref a10, .int (b2 8 1), .int (b2 8 2), .int (b2 8 3), .int (b2 8 4), .int (b2 8 5), .int (b2 8 6), .int (b2 8 7), .int (b2 8 8)])), (a1, .inr (6, [.ref a2, .ref a3, .ref a4, .int (nI n2)])), (a2, .inl (aT 0, 6, .inl (b2 0))), (a3, .inl (aT 0, 6, .inl (b2 1))), (a4, .inl (aT 0, 6, .inl (b2 2))), (a5, .inr (8, [.ref a6, .ref a7, .ref a8, .ref a9, .int (nI m2), .int (b2 8 0)])), (a6, .inl (aT 0, 12, .inl (b2 3))), (a7, .inl (aT 0, 12, .inl (b2 4))), (a8, .inl (aT 0, 12, .inl (b2 5))), (a9, .inl (aT 0, 12, .inl (b2 6))), (a10, .inl (aT 0, 4, .inl (b2 7))), (q0, .inr (5, [.ref (zs D (10 + w)), .int ca, .int cb, .int cc]))]))) := by
  rcases (show w = 0 ∨ w = 1 ∨ w = 2 ∨ w = 3 ∨ w = 4 ∨ w = 5 ∨ w = 6 by omega) with rfl | rfl | rfl | rfl | rfl | rfl | rfl
  · exact (k_succeeds_0 l hfl D aT x0 v0 t0 p0 o0 sv le lf h0 a0 a1 a2 a3 a4 a5 a6 a7 a8 a9 a10 bb nh nm M Bd hBd hC hB q0 ca cb cc)
  · exact (k_succeeds_1 l hfl D aT x0 v0 t0 p0 o0 sv le lf h0 a0 a1 a2 a3 a4 a5 a6 a7 a8 a9 a10 bb nh nm M Bd hBd hC hB q0 ca cb cc)
  · exact (k_succeeds_2 l hfl D aT x0 v0 t0 p0 o0 sv le lf h0 a0 a1 a2 a3 a4 a5 a6 a7 a8 a9 a10 bb nh nm M Bd hBd hC hB q0 ca cb cc)
  · exact (k_succeeds_3 l hfl D aT x0 v0 t0 p0 o0 sv le lf h0 a0 a1 a2 a3 a4 a5 a6 a7 a8 a9 a10 bb nh nm M Bd hBd hC hB q0 ca cb cc)
  · exact (k_succeeds_4 l hfl D aT x0 v0 t0 p0 o0 sv le lf h0 a0 a1 a2 a3 a4 a5 a6 a7 a8 a9 a10 bb nh nm M Bd hBd hC hB q0 ca cb cc)
  · exact (k_succeeds_5 l hfl D aT x0 v0 t0 p0 o0 sv le lf h0 a0 a1 a2 a3 a4 a5 a6 a7 a8 a9 a10 bb nh nm M Bd hBd hC hB q0 ca cb cc)
  · exact (k_succeeds_6 l hfl D aT x0 v0 t0 p0 o0 sv le lf h0 a0 a1 a2 a3 a4 a5 a6 a7 a8 a9 a10 bb nh nm M Bd hBd hC hB q0 ca cb cc)

