/-! throws of an exception whose own constructor reaches super by another index; turned from kit/laws/EXCEPTIONS.to-paste -/
def cx_chA (X : String) (ix : Nat) (rx : ByteArray) : List String → List Cond
  | [] => Bundle.passSAtoms X Bundle.tN ix rx
  | Y :: r => Bundle.passSAtoms X Y ix rx ++ Bundle.chainSAtoms Y r
def cx_oX (own : String) (ic : Nat) (X : String) (ix : Nat) (rx : ByteArray) (names : List String) : List Cond :=
  Bundle.throwableAtoms ++ Bundle.throwableSAtoms ++ cx_chA X ix rx names ++
  [.methodLink own ic (Bundle.initS X), .instantiable X 6, .castable X X, .selects X Bundle.tFill0 Bundle.tFill0, .selects X Bundle.tFill Bundle.tFill,
   .lays X Bundle.tN "cause" "Ljava/lang/Throwable;", .lays X Bundle.tN "stackTrace" Bundle.steD, .lays X Bundle.tN "suppressedExceptions" Bundle.listD, .lays X Bundle.tN "detailMessage" "Ljava/lang/String;",
   .isRef (.static Bundle.tN "UNASSIGNED_STACK" Bundle.steD), .isRef (.static Bundle.tN "SUPPRESSED_SENTINEL" Bundle.listD),
   .fieldLink Bundle.tN 198 Bundle.tN "backtrace" "Ljava/lang/Object;", .lays Bundle.tN Bundle.tN "backtrace" "Ljava/lang/Object;", .lays X Bundle.tN "backtrace" "Ljava/lang/Object;"]
def cx_aX (own : String) (ic : Nat) (X : String) (ix : Nat) (rx : ByteArray) (names : List String) : List Cond := (cx_oX own ic X ix rx names).filter vx_no
theorem cx_chain {args : Array Value} {s : State} {pl : Platform} (hpl : pl.magicAccessors = ({} : Platform).magicAccessors) {top : MethodId} (htop : s.methodNamed? (Bundle.initS Bundle.tN) = some top) {ix : Nat} {rx : ByteArray} (x0 : decode rx 0 = .ok (.aload_n 0, 1)) (x1 : decode rx 1 = .ok (.aload_n 1, 1)) (x2 : decode rx 2 = .ok (.invokespecial ix, 3)) (x5 : decode rx 5 = .ok (.return_, 1)) (names : List String) (X : String) (hX : Bundle.fit X = true) (hn : ∀ n ∈ names, Bundle.fit n = true) (h : ∀ c ∈ cx_chA X ix rx names, c.before args s = true) :
    ∃ (P1 : PassC) (Ps : List PassC), Ps.length = names.length ∧ P1.LinksS pl s ∧ (∀ P, P ∈ Ps → P.LinksS pl s) ∧ s.methodNamed? (Bundle.initS X) = some P1.m ∧ P1.sup = firstOf top (Ps.map (·.toPassT)) ∧ PassesOn top (Ps.map (·.toPassT)) := by
  cases names with
  | nil =>
    obtain ⟨P, L, hm, hs⟩ := PassC.ofS_atoms (args := args) (s := s) hpl (X := X) (Y := Bundle.tN) (Bundle.fit_spec hX).1 (by decide) x0 x1 x2 x5 h
    exact ⟨P, [], rfl, L, fun _ q => (nomatch q), hm, Option.some.inj (hs.symm.trans htop), trivial⟩
  | cons Y r =>
    have h1 : ∀ c ∈ Bundle.passSAtoms X Y ix rx, c.before args s = true := fun c hc => h c (List.mem_append_left _ hc)
    have h2 : ∀ c ∈ Bundle.chainSAtoms Y r, c.before args s = true := fun c hc => h c (List.mem_append_right _ hc)
    obtain ⟨P, L, hm, hs⟩ := PassC.ofS_atoms (args := args) (s := s) hpl (X := X) (Y := Y) (Bundle.fit_spec hX).1 (Bundle.fit_spec (hn Y List.mem_cons_self)).2 x0 x1 x2 x5 h1
    obtain ⟨P2, Ps, e1, e2, e3, e4, e5, e6⟩ := Bundle.chainS (args := args) hpl htop r Y (hn Y List.mem_cons_self) (fun n q => hn n (List.mem_cons_of_mem _ q)) h2
    refine ⟨P, P2 :: Ps, by simp [e1], L, fun Q hQ => ?_, hm, Option.some.inj (hs.symm.trans e4), e5, e6⟩
    rcases List.mem_cons.mp hQ with rfl | q
    · exact e2
    · exact e3 Q q
section CXXA
variable {p : Program} {l : Launch} {e : Env} {R : Room} {s : State} {m₀ : MethodId} {args : Array Value} {below : List Frame} {meth : Method} {c : Code} {W : State} {locs : List Loc} {cells slots : Nat}
set_option maxHeartbeats 1000000 in
theorem cx_ctorX (X : Stand p l e R s m₀ args below meth c W locs cells slots) (hexec : p.tables.exec = Jvm.exec) (htr : e.platform.stackTraces = false) {own cls : String} {names : List String} {ic : Nat}
    {ix : Nat} {rx : ByteArray} (x0 : decode rx 0 = .ok (.aload_n 0, 1)) (x1 : decode rx 1 = .ok (.aload_n 1, 1)) (x2 : decode rx 2 = .ok (.invokespecial ix, 3)) (x5 : decode rx 5 = .ok (.return_, 1))
    (hown : s.vm.findClass own = some m₀.cls) (hcls : Bundle.fit cls = true) (hnames : ∀ n ∈ names, Bundle.fit n = true)
    (h : ∀ a ∈ cx_oX own ic cls ix rx names, a.before args s = true)
    (hlocs : ∀ x ∈ locs, ∀ cell, s.heap[x.base]? = some cell → cell.vm.isStatics = false)
    {a : Addr} {cX : ClassId} {kX : Class} (hfoundX : s.vm.findClass cls = some cX) (hkX : s.vm.classes[cX]? = some kX) (hcell : W.heap[a]? = some (freshCell cX kX)) (hnew : s.heap.size ≤ a)
    {msg : Value} (hmsg : msg.isRef = true)
    {g : JFrame} (hg : g.method = m₀) (hsize : g.locals.size = c.maxLocals) {rest : List Value} (hstack : g.stack = msg :: .ref a :: .ref a :: rest)
    (hd6 : decode c.code g.pc = .ok (.invokespecial ic, 3))
    (hRframes : names.length + 3 < R.frames) (hRlocals : 2 * g.monitorRoom + ((Value.ref a :: rest).map fun v => v.category).sum + (13 * (names.length + 1) + 42) ≤ R.locals) :
    ∃ (V : State) (ce : Cell) (L : List Loc), Stand p l e R s m₀ args below meth c (V.setCell a ce) (locs ++ L) cells slots ∧ (∀ y ∈ L, y.base = a) ∧ a < V.heap.size ∧ ce.cls = cX ∧ ce.vm = .none ∧
      ∀ target, Steps p.tables e below ((V.setCell a ce).setTop { g with stack := .ref a :: rest, pc := g.pc + 3 }) target → Steps p.tables e below (W.setTop g) target := by
  have howns : e.platform.frameOwnsMonitors = true := by rw [X.admits.platform]
  have hfin : e.platform.finalization = false := by rw [X.admits.platform]
  have hpl : e.platform.magicAccessors = ({} : Platform).magicAccessors := by rw [X.admits.platform]
  have a' : ∀ x, x ∈ cx_oX own ic cls ix rx names → x.holds args s none s [] = true := fun x hx => h x hx
  obtain ⟨T, Z0, L, -, Y⟩ := ThrowableC.of_atoms (args := args) howns hfin hpl (fun x hx => h x (by simp [cx_oX, hx]))
  obtain ⟨Z, M, LZ, LM, hnZ⟩ := Init0T.ofS_atoms (args := args) hpl L Y (fun x hx => h x (by simp [cx_oX, hx]))
  obtain ⟨P1, Ps, hlen, L1, hL, hP1m, hlink1, hlink⟩ := cx_chain (args := args) hpl hnZ x0 x1 x2 x5 names cls hcls hnames (fun x hx => h x (by simp [cx_oX, hx]))
  have hfound : s.vm.findClass cls = some P1.m.cls := findClass_of_methodNamed hP1m
  cases Option.some.inj (hfoundX.symm.trans hfound)
  obtain ⟨c1, kX', hc1, hk, hord, -, -, hn6⟩ := Cond.instantiable_spec (a' (.instantiable cls 6) (by simp [cx_oX]))
  cases Option.some.inj (hc1.symm.trans hfound)
  cases Option.some.inj (hkX.symm.trans hk)
  have hsel0 : selectMethod e.platform s.vm P1.m.cls T.fill0 = .method T.fill0 := by
    obtain ⟨c2, r2, m2, q1, q2, q3, q4, -⟩ := Cond.selects_spec (a' (.selects cls Bundle.tFill0 Bundle.tFill0) (by simp [cx_oX]))
    cases Option.some.inj (q1.symm.trans hfound)
    cases Option.some.inj (q2.symm.trans (State.methodFound?_of_named Y.fill0 (by decide)))
    cases Option.some.inj (q3.symm.trans Y.fill0)
    rw [Launch.admits_selectMethod X.admits]; exact q4
  have hselF : selectMethod e.platform s.vm P1.m.cls T.fill = .method T.fill := by
    obtain ⟨c2, r2, m2, q1, q2, q3, q4, -⟩ := Cond.selects_spec (a' (.selects cls Bundle.tFill Bundle.tFill) (by simp [cx_oX]))
    cases Option.some.inj (q1.symm.trans hfound)
    cases Option.some.inj (q2.symm.trans (State.methodFound?_of_named Y.fill (by decide)))
    cases Option.some.inj (q3.symm.trans Y.fill)
    rw [Launch.admits_selectMethod X.admits]; exact q4
  obtain ⟨cellS0, hcS0, hiss⟩ := Y.statics
  obtain ⟨u0, hu0⟩ := Cond.staticRefV Y.unassigned L.unassignedStatic L.statics hcS0 hiss (a' (.isRef (.static Bundle.tN "UNASSIGNED_STACK" Bundle.steD)) (by simp [cx_oX]))
  obtain ⟨sen, hsen⟩ := Cond.staticRefV Y.sentinel L.sentinelStatic L.statics hcS0 hiss (a' (.isRef (.static Bundle.tN "SUPPRESSED_SENTINEL" Bundle.listD)) (by simp [cx_oX]))
  obtain ⟨ci198, i198, fB, hk198, hg198, ha198, hsB, -, hnB, htB, hffB⟩ := Cond.ownField (t := .object "java/lang/Object") Y.found L.cls (by decide +kernel) (a' (.fieldLink Bundle.tN 198 Bundle.tN "backtrace" "Ljava/lang/Object;") (by simp [cx_oX])) (a' (.lays Bundle.tN Bundle.tN "backtrace" "Ljava/lang/Object;") (by simp [cx_oX])) e.platform hpl
  obtain ⟨cellS, hcS', heS, -, hkeep⟩ := X.same.2.2.2.2.2 T.aS cellS0 hcS0
  have hcellS : W.heap[T.aS]? = some cellS := hcS'
  have hout' : ∀ i, (⟨T.aS, i⟩ : Loc) ∉ locs := fun i hmem => by
    have := hlocs _ hmem cellS0 hcS0
    rw [hiss] at this; cases this
  have hknownS : cellS.vm ≠ .unknown := by
    rw [heS]; intro hu
    rw [show cellS0.vm = .unknown from hu] at hiss
    cases hiss
  have hneS : T.aS ≠ a := Nat.ne_of_lt (Nat.lt_of_lt_of_le (Array.getElem?_eq_some_iff.mp hcS0).1 hnew)
  obtain ⟨iM, hffM⟩ := Y.msg
  obtain ⟨tyC, dC, hdC, hdnC⟩ := Cond.laysAt hfound hk Y.cause (a' (.lays cls Bundle.tN "cause" "Ljava/lang/Throwable;") (by simp [cx_oX]))
  obtain ⟨tyS, dS, hdS, hdnS⟩ := Cond.laysAt hfound hk Y.stack (a' (.lays cls Bundle.tN "stackTrace" Bundle.steD) (by simp [cx_oX]))
  obtain ⟨tyP, dP, hdP, hdnP⟩ := Cond.laysAt hfound hk Y.supp (a' (.lays cls Bundle.tN "suppressedExceptions" Bundle.listD) (by simp [cx_oX]))
  obtain ⟨tyM, dM, hdM, hdnM⟩ := Cond.laysAt hfound hk hffM (a' (.lays cls Bundle.tN "detailMessage" "Ljava/lang/String;") (by simp [cx_oX]))
  obtain ⟨tyB, dB, hdB, hdnB⟩ := Cond.laysAt hfound hk hffB (a' (.lays cls Bundle.tN "backtrace" "Ljava/lang/Object;") (by simp [cx_oX]))
  have bC := Cond.laysApart hdB hdC hdnB hdnC (by rw [hnB, Y.causeName]; decide)
  have bS := Cond.laysApart hdB hdS hdnB hdnS (by rw [hnB, Y.stackName]; decide)
  have bP := Cond.laysApart hdB hdP hdnB hdnP (by rw [hnB, Y.suppName]; decide)
  have hskip : SkipFacts T e.platform s (fun u => u) u0 ((preparedCellV T.toThrowableT (freshCell P1.m.cls kX) a u0 sen).withEntry W.cur) :=
    ⟨{ ci198 := ci198, i198 := i198, fBack := fB }, ⟨hk198, hg198, ha198, hsB⟩, by
      have := fresh_default (c := P1.m.cls) tyB
      rw [htB] at this
      simpa [preparedCellV, Cell.setSlot, Cell.withEntry, Array.getElem?_setIfInBounds, bC, bS, bP, bC.symm, bS.symm, bP.symm, defaultValue] using this, fun _ _ => rfl⟩
  obtain ⟨tm, methC, cdC, kC, vm₁, hnC, -, -, -, -, -, -, -, hW₁, st1⟩ := Steps.initColdS (tb := p.tables) (e := e) (below := below) (s := s) (U := W) X.here hexec X.warmed hpl hown (t := Bundle.initS cls) rfl rfl (Bundle.fit_spec hcls).2
    (a' (.methodLink own ic (Bundle.initS cls)) (by simp [cx_oX])) (h (.instanceMethod (Bundle.initS cls)) (by cases names <;> simp [cx_oX, cx_chA, Bundle.passSAtoms])) (bytes := rx) (maxL := 2) (h (.code (Bundle.initS cls) rx 2 none) (by cases names <;> simp [cx_oX, cx_chA, Bundle.passSAtoms]))
    (f := g) hg (a := a) (msg := msg) (rest := .ref a :: rest) hstack hd6
  cases Option.some.inj (hnC.symm.trans hP1m)
  have X₁ := X.noted hW₁
  obtain ⟨vm₂, X₂, st2⟩ := X₁.ctorMessageOffV hexec (g := { g with stack := .ref a :: rest }) hg hsize T L Z LZ M LM (P1 :: Ps)
    (fun P hP => by rcases List.mem_cons.mp hP with rfl | hP; exact L1; exact hL P hP) ⟨hlink1, hlink⟩ (u0 := u0) (sen := sen) (self := a) hmsg (cell := freshCell P1.m.cls kX) (cellS := cellS)
    hcell (fun _ => by simp) (by simp) rfl rfl hsel0 hselF hcellS hneS hknownS (by rw [hkeep _ (hout' _)]; exact hu0) (by rw [hkeep _ (hout' _)]; exact hsen)
    (Takes.of_laid hk hord tyC (by rw [Y.causeType]; rfl)) (Takes.of_laid hk hord tyS (by rw [Y.stackType]; exact fits_refV_array _ u0)) (Takes.of_laid hk hord tyP (by rw [Y.suppType]; exact fits_refV_object _ sen))
    (Takes.of_laid hk hord tyM (by rw [Y.msgType]; exact fits_refV_object _ ⟨msg, hmsg⟩)) Y.objLocals hskip htr [] hd6
    (by simp only [List.length_cons, hlen]; omega) (by simp only [List.length_cons, hlen]; exact hRlocals)
  have hlt : a < ((W.setVm vm₁).setVm vm₂).heap.size := (Array.getElem?_eq_some_iff.mp hcell).1
  refine ⟨(W.setVm vm₁).setVm vm₂, _, _, X₂, fun y hy => ?_, hlt, rfl, rfl, fun target hwalk => st1 _ (fun acts => ?_)⟩
  · simp only [List.mem_cons, List.not_mem_nil, or_false] at hy
    rcases hy with rfl | rfl | rfl | rfl | rfl <;> rfl
  · rw [doInvoke_state]
    exact st2 _ hwalk
end CXXA
section CXXB
variable {p : Program} {l : Launch} {e : Env} {R : Room} {s : State} {m : MethodId} {args : Array Value} {below : List Frame} {meth : Method} {c : Code} {H : Heap} {locs : List Loc} {cells slots : Nat} {Q : State → Prop}
variable {ls : Array Slot} {rest : List Value}
theorem cx_makeX {cc : ByteArray} {pc : Nat} (hexec : p.tables.exec = Jvm.exec) (hb : c.code = cc) (hl : l.stackTraces = false) {own cls text : String} {names : List String} {ik is ic sa : Nat} {A : Nat → Prop}
    {ix : Nat} {rx : ByteArray} (x0 : decode rx 0 = .ok (.aload_n 0, 1)) (x1 : decode rx 1 = .ok (.aload_n 1, 1)) (x2 : decode rx 2 = .ok (.invokespecial ix, 3)) (x5 : decode rx 5 = .ok (.return_, 1))
    (hown : s.vm.findClass own = some m.cls) (hcls : Bundle.fit cls = true) (hnames : ∀ n ∈ names, Bundle.fit n = true)
    (hk : (Cond.classLink own ik cls).before args s = true) (hini : (Cond.initialized cls).before args s = true) (hstr : vk_R own is text sa s) (hat : ∀ w ∈ cx_aX own ic cls ix rx names, w.before args s = true)
    (hgood : ∀ w ∈ Cond.classLink own ik cls :: Cond.initialized cls :: cx_aX own ic cls ix rx names, vx_ot w = true)
    (hU : vx_Zq Bundle.tN "UNASSIGNED_STACK" Bundle.steD A s s.heap) (hN : vx_Zq Bundle.tN "SUPPRESSED_SENTINEL" Bundle.listD A s s.heap) (hS : va_S A s.heap H locs) (hsize : ls.size = c.maxLocals)
    (d0 : decode cc pc = .ok (.new ik, 3)) (d3 : decode cc (pc + 3) = .ok (.dup, 1)) (d4 : decode cc (pc + 4) = .ok (.ldc is, 2)) (d6 : decode cc (pc + 6) = .ok (.invokespecial ic, 3))
    (hRframes : names.length + 3 < R.frames) (hRlocals : (rest.map fun v => v.category).sum + (13 * (names.length + 1) + 43) ≤ R.locals) (hRcells : cells + 1 ≤ R.cells) (hRslots : slots + 6 ≤ R.slots)
    (kk : ∀ (q : Nat) (ce : Cell) (H1 : Heap), H1[q]? = some ce → ce.vm = .none → s.vm.findClass cls = some ce.cls → (∀ q : Nat, q < H.size → H1[q]? = H[q]?) → va_S A s.heap H1 locs → W p l e R s m args below meth c H1 locs (cells + 1) (slots + 6) Q (F0 m (pc + 9) ls (.ref q :: rest))) :
    W p l e R s m args below meth c H locs cells slots Q (F0 m pc ls rest) := by
  intro T hT X
  subst hT
  have htr : e.platform.stackTraces = false := (show e.platform.stackTraces = l.stackTraces by rw [X.admits.platform]).trans hl
  have Y := vx_rebase X (R' := { frames := R.frames, locals := R.locals, cells := 1, slots := 6 }) (Nat.le_refl _) (Nat.le_refl _) hRcells hRslots
  obtain ⟨s', hA'⟩ : ∃ z, z = (T.setVm s.vm).setFrames (.invoking m args :: below) := ⟨_, rfl⟩
  rw [← hA'] at Y
  have hvm : s'.vm = s.vm := by rw [hA']; rfl
  have hhp : s'.heap = T.heap := by rw [hA']; rfl
  have hW0 : s.WarmedH s'.vm := by rw [hvm]; exact State.WarmedH.refl s
  have hat' : ∀ w ∈ cx_aX own ic cls ix rx names, w.before args s' = true := fun w hw => vx_ot_at hW0 hvm.symm (hgood w (List.mem_cons_of_mem _ (List.mem_cons_of_mem _ hw))) (hat w hw)
  have hk' : (Cond.classLink own ik cls).before args s' = true := vx_ot_at hW0 hvm.symm (hgood _ List.mem_cons_self) hk
  have hini' : (Cond.initialized cls).before args s' = true := vx_ot_at hW0 hvm.symm (hgood _ (List.mem_cons_of_mem _ List.mem_cons_self)) hini
  have hU' : vx_Zq Bundle.tN "UNASSIGNED_STACK" Bundle.steD A s' s'.heap := by rw [hhp]; exact vx_Zq.moved hW0.alike (hU.kept hS.2.1)
  have hN' : vx_Zq Bundle.tN "SUPPRESSED_SENTINEL" Bundle.listD A s' s'.heap := by rw [hhp]; exact vx_Zq.moved hW0.alike (hN.kept hS.2.1)
  have h : ∀ w ∈ cx_oX own ic cls ix rx names, w.before args s' = true := vx_own hat' (vx_isRefq hU'.1) (vx_isRefq hN'.1) hU'.2.word hN'.2.word
  have hown' : s'.vm.findClass own = some m.cls := by rw [hvm]; exact hown
  have hins : (Cond.instantiable cls 6).before args s' = true := h _ (by simp [cx_oX])
  obtain ⟨vm₁, cX, kX, hfX, hkX, -, -, X₁, st1⟩ := Y.newCold hexec (own := own) (C := cls) (index := ik) (n := 6) hown' hk' hins hini'
    (g := F0 m pc ls rest) rfl (by rw [hb]; exact d0) (Nat.le_refl _) (Nat.le_refl _)
  generalize hT1 : (T.setVm vm₁).pushCell { cls := cX, slots := kX.instanceTypes.map defaultValue, vm := .none } = T1 at X₁ st1
  have hcat : (Value.ref T.heap.size).category = 1 := rfl
  have hcellA : T1.heap[T.heap.size]? = some (freshCell cX kX) := by rw [← hT1]; exact State.heap_pushCell_size _ _
  have d3' : decode c.code (pc + 3) = .ok (.dup, 1) := by rw [hb]; exact d3
  have d4' : decode c.code (pc + 4) = .ok (.ldc is, 2) := by rw [hb]; exact d4
  have hstr' : vk_R own is text sa s' := vk_R.warm hW0 hstr
  obtain ⟨V, ce, L, Z, hL, hlt, hcl9, hvm9, st⟩ := cx_ctorX X₁ hexec htr (ix := ix) (rx := rx) x0 x1 x2 x5 (own := own) (cls := cls) (names := names) (ic := ic) hown' hcls hnames h (fun x hx => nomatch hx) hfX hkX hcellA (by rw [hhp]; exact Nat.le_refl _) (msg := .ref sa) rfl
    (g := { method := m, pc := pc + 6, locals := ls, stack := .ref sa :: .ref T.heap.size :: .ref T.heap.size :: rest, locked := none }) rfl hsize (rest := rest) rfl
    (by rw [hb]; exact d6) hRframes (by simp only [List.map_cons, List.sum_cons, hcat]; omega)
  have Z0 := Stand.forget (locs := []) Z (fun y hy => by rw [hL y hy, hhp]; exact Nat.le_refl _)
  obtain ⟨f1, f2⟩ := vx_frame Z0.same
  rw [hhp] at f1 f2
  have hcid : s.vm.findClass cls = some ce.cls := by
    rw [hcl9, ← hvm]
    exact hfX
  have hh : (V.setCell T.heap.size ce).heap[T.heap.size]? = some ce := heapAt_setCell_self (s := V) ce hlt
  subst hA'
  have X5 := vx_back9 X Y Z0
  have X6 : Stand p l e R s m args below meth c (V.setCell T.heap.size ce) locs (cells + 1) (slots + 6) := { X5 with same := X5.same.mono (by omega) (by omega) }
  obtain ⟨t, a1, b1⟩ := kk T.heap.size ce (V.setCell T.heap.size ce).heap hh hvm9 hcid (fun q h1 => f2 q h1 (fun z hz => nomatch hz)) ⟨Nat.le_trans hS.1 f1, fun q h1 h2 => (f2 q (Nat.lt_of_lt_of_le h1 hS.1) (fun z hz => nomatch hz)).trans (hS.2.1 q h1 h2), hS.2.2⟩ _ rfl X6
  refine ⟨t, st1 _ ?_, b1⟩
  show Steps p.tables e below (T1.setTop { method := m, pc := pc + 3, locals := ls, stack := .ref T.heap.size :: rest, locked := none }) _
  jvm_step X₁.here [X₁.here.top, hexec, d3', Value.category]
  exact X₁.ldcString hexec (own := own) (text := text) (index := is) (a := sa) hown' hstr'.1 hstr'.2
    (g := { method := m, pc := pc + 4, locals := ls, stack := .ref T.heap.size :: .ref T.heap.size :: rest, locked := none }) rfl d4' _ (st _ a1)
theorem cx_makeXW {cc : ByteArray} {pc : Nat} (hexec : p.tables.exec = Jvm.exec) (hb : c.code = cc) (hl : l.stackTraces = false) {own cls text : String} {names : List String} {ik is ic sa : Nat} {A : Nat → Prop}
    {ix : Nat} {rx : ByteArray} (x0 : decode rx 0 = .ok (.aload_n 0, 1)) (x1 : decode rx 1 = .ok (.aload_n 1, 1)) (x2 : decode rx 2 = .ok (.invokespecial ix, 3)) (x5 : decode rx 5 = .ok (.return_, 1))
    (hown : s.vm.findClass own = some m.cls) (hcls : Bundle.fit cls = true) (hnames : ∀ n ∈ names, Bundle.fit n = true)
    (hk : (Cond.classLink own ik cls).before args s = true) (hini : (Cond.initialized cls).before args s = true) (hstr : vk_R own is text sa s) (hat : ∀ w ∈ cx_aX own ic cls ix rx names, w.before args s = true)
    (hgood : ∀ w ∈ Cond.classLink own ik cls :: Cond.initialized cls :: cx_aX own ic cls ix rx names, vx_ot w = true)
    (hU : vx_Zq Bundle.tN "UNASSIGNED_STACK" Bundle.steD A s s.heap) (hN : vx_Zq Bundle.tN "SUPPRESSED_SENTINEL" Bundle.listD A s s.heap) (hS : va_S A s.heap H locs) (hsize : ls.size = c.maxLocals)
    (d0 : decode cc pc = .ok (.new ik, 3)) (d3 : decode cc (pc + 3) = .ok (.dup, 1)) (d4 : decode cc (pc + 4) = .ok (.ldc_w is, 3)) (d6 : decode cc (pc + 7) = .ok (.invokespecial ic, 3))
    (hRframes : names.length + 3 < R.frames) (hRlocals : (rest.map fun v => v.category).sum + (13 * (names.length + 1) + 43) ≤ R.locals) (hRcells : cells + 1 ≤ R.cells) (hRslots : slots + 6 ≤ R.slots)
    (kk : ∀ (q : Nat) (ce : Cell) (H1 : Heap), H1[q]? = some ce → ce.vm = .none → s.vm.findClass cls = some ce.cls → (∀ q : Nat, q < H.size → H1[q]? = H[q]?) → va_S A s.heap H1 locs → W p l e R s m args below meth c H1 locs (cells + 1) (slots + 6) Q (F0 m (pc + 10) ls (.ref q :: rest))) :
    W p l e R s m args below meth c H locs cells slots Q (F0 m pc ls rest) := by
  intro T hT X
  subst hT
  have htr : e.platform.stackTraces = false := (show e.platform.stackTraces = l.stackTraces by rw [X.admits.platform]).trans hl
  have Y := vx_rebase X (R' := { frames := R.frames, locals := R.locals, cells := 1, slots := 6 }) (Nat.le_refl _) (Nat.le_refl _) hRcells hRslots
  obtain ⟨s', hA'⟩ : ∃ z, z = (T.setVm s.vm).setFrames (.invoking m args :: below) := ⟨_, rfl⟩
  rw [← hA'] at Y
  have hvm : s'.vm = s.vm := by rw [hA']; rfl
  have hhp : s'.heap = T.heap := by rw [hA']; rfl
  have hW0 : s.WarmedH s'.vm := by rw [hvm]; exact State.WarmedH.refl s
  have hat' : ∀ w ∈ cx_aX own ic cls ix rx names, w.before args s' = true := fun w hw => vx_ot_at hW0 hvm.symm (hgood w (List.mem_cons_of_mem _ (List.mem_cons_of_mem _ hw))) (hat w hw)
  have hk' : (Cond.classLink own ik cls).before args s' = true := vx_ot_at hW0 hvm.symm (hgood _ List.mem_cons_self) hk
  have hini' : (Cond.initialized cls).before args s' = true := vx_ot_at hW0 hvm.symm (hgood _ (List.mem_cons_of_mem _ List.mem_cons_self)) hini
  have hU' : vx_Zq Bundle.tN "UNASSIGNED_STACK" Bundle.steD A s' s'.heap := by rw [hhp]; exact vx_Zq.moved hW0.alike (hU.kept hS.2.1)
  have hN' : vx_Zq Bundle.tN "SUPPRESSED_SENTINEL" Bundle.listD A s' s'.heap := by rw [hhp]; exact vx_Zq.moved hW0.alike (hN.kept hS.2.1)
  have h : ∀ w ∈ cx_oX own ic cls ix rx names, w.before args s' = true := vx_own hat' (vx_isRefq hU'.1) (vx_isRefq hN'.1) hU'.2.word hN'.2.word
  have hown' : s'.vm.findClass own = some m.cls := by rw [hvm]; exact hown
  have hins : (Cond.instantiable cls 6).before args s' = true := h _ (by simp [cx_oX])
  obtain ⟨vm₁, cX, kX, hfX, hkX, -, -, X₁, st1⟩ := Y.newCold hexec (own := own) (C := cls) (index := ik) (n := 6) hown' hk' hins hini'
    (g := F0 m pc ls rest) rfl (by rw [hb]; exact d0) (Nat.le_refl _) (Nat.le_refl _)
  generalize hT1 : (T.setVm vm₁).pushCell { cls := cX, slots := kX.instanceTypes.map defaultValue, vm := .none } = T1 at X₁ st1
  have hcat : (Value.ref T.heap.size).category = 1 := rfl
  have hcellA : T1.heap[T.heap.size]? = some (freshCell cX kX) := by rw [← hT1]; exact State.heap_pushCell_size _ _
  have d3' : decode c.code (pc + 3) = .ok (.dup, 1) := by rw [hb]; exact d3
  have d4' : decode c.code (pc + 4) = .ok (.ldc_w is, 3) := by rw [hb]; exact d4
  have hstr' : vk_R own is text sa s' := vk_R.warm hW0 hstr
  obtain ⟨V, ce, L, Z, hL, hlt, hcl9, hvm9, st⟩ := cx_ctorX X₁ hexec htr (ix := ix) (rx := rx) x0 x1 x2 x5 (own := own) (cls := cls) (names := names) (ic := ic) hown' hcls hnames h (fun x hx => nomatch hx) hfX hkX hcellA (by rw [hhp]; exact Nat.le_refl _) (msg := .ref sa) rfl
    (g := { method := m, pc := pc + 7, locals := ls, stack := .ref sa :: .ref T.heap.size :: .ref T.heap.size :: rest, locked := none }) rfl hsize (rest := rest) rfl
    (by rw [hb]; exact d6) hRframes (by simp only [List.map_cons, List.sum_cons, hcat]; omega)
  have Z0 := Stand.forget (locs := []) Z (fun y hy => by rw [hL y hy, hhp]; exact Nat.le_refl _)
  obtain ⟨f1, f2⟩ := vx_frame Z0.same
  rw [hhp] at f1 f2
  have hcid : s.vm.findClass cls = some ce.cls := by
    rw [hcl9, ← hvm]
    exact hfX
  have hh : (V.setCell T.heap.size ce).heap[T.heap.size]? = some ce := heapAt_setCell_self (s := V) ce hlt
  subst hA'
  have X5 := vx_back9 X Y Z0
  have X6 : Stand p l e R s m args below meth c (V.setCell T.heap.size ce) locs (cells + 1) (slots + 6) := { X5 with same := X5.same.mono (by omega) (by omega) }
  obtain ⟨t, a1, b1⟩ := kk T.heap.size ce (V.setCell T.heap.size ce).heap hh hvm9 hcid (fun q h1 => f2 q h1 (fun z hz => nomatch hz)) ⟨Nat.le_trans hS.1 f1, fun q h1 h2 => (f2 q (Nat.lt_of_lt_of_le h1 hS.1) (fun z hz => nomatch hz)).trans (hS.2.1 q h1 h2), hS.2.2⟩ _ rfl X6
  refine ⟨t, st1 _ ?_, b1⟩
  show Steps p.tables e below (T1.setTop { method := m, pc := pc + 3, locals := ls, stack := .ref T.heap.size :: rest, locked := none }) _
  jvm_step X₁.here [X₁.here.top, hexec, d3', Value.category]
  exact X₁.ldcStringW hexec (own := own) (text := text) (index := is) (a := sa) hown' hstr'.1 hstr'.2
    (g := { method := m, pc := pc + 4, locals := ls, stack := .ref T.heap.size :: .ref T.heap.size :: rest, locked := none }) rfl d4' _ (st _ a1)
end CXXB

def strs : List (String × Nat × String) := [("HedgeCommittee$State", 73, "leaves, thorns or taste out of range"), ("HedgeCommittee$State", 84, "no room for another hedge"), ("HedgeCommittee$State", 162, "tone or weight out of range"), ("HedgeCommittee$State", 160, "no room for another motion"), ("HedgeCommittee$Motions", 39, "no such motion"), ("HedgeCommittee$State", 120, "levels out of range"), ("HedgeCommittee$State", 137, "no hedges"), ("HedgeCommittee$State", 142, "the motion is not a tip"), ("HedgeCommittee", 320, "no such hedge"), ("HedgeCommittee", 119, "no hedge at this rank"), ("HedgeCommittee", 322, "no motion at this place"), ("HedgeCommittee", 159, "a main motion has no parent"), ("HedgeCommittee", 324, "no branch contains both motions"), ("HedgeCommittee", 186, "no path leads from one motion to the other"), ("HedgeCommittee", 209, "no such season"), ("HedgeCommittee", 227, "no hedges"), ("HedgeCommittee", 236, "no vote was held"), ("HedgeCommittee", 254, "the text buffer is full"), ("HedgeCommittee", 267, "the text is not a program"), ("HedgeCommittee", 275, "a command fails"), ("HedgeCommittee", 286, "no error position was stored"), ("HedgeCommittee", 288, "no failed command was stored"), ("HedgeCommittee", 302, "no such character"), ("HedgeCommittee", 309, "no call can be undone"), ("HedgeCommittee", 318, "no state was saved"), ("HedgeCommittee$Kind", 49, "hedge # ? ?"), ("HedgeCommittee$Kind", 55, "main ? #"), ("HedgeCommittee$Kind", 58, "amend # ? #"), ("HedgeCommittee$Kind", 61, "prune # ?"), ("HedgeCommittee$Kind", 64, "regrow #"), ("HedgeCommittee$Kind", 67, "vote #"), ("HedgeCommittee$Kind", 70, "season")]
/-! the class's layer: worlds of any cells, methods that may throw -/
section CXA
def isNk : Cond → Bool
  | .fieldLinkNest .. => true
  | .declares _ => true
  | .castable .. => true
  | _ => false
def nw : List Cond := tables_1.filter isNk
theorem nw_t {w : Cond} (h : w ∈ tables_1) (g : isNk w = true) : w ∈ nw := List.mem_filter.mpr ⟨h, g⟩
theorem nw_tab {w : Cond} (hw : w ∈ nw) : w.onTables = true := by
  have g := (List.mem_filter.mp hw).2
  cases w <;> first | rfl | cases g
theorem nw_warm {s U : State} (hW : s.WarmedH U.vm) {w : Cond} (hw : w ∈ nw) (h : va_Nw w s) : va_Nw w U := by
  have g := (List.mem_filter.mp hw).2
  cases w <;> first | exact va_Nw.warmF hW h | exact va_Nw.warmD hW h | exact va_Nw.warmC hW h | cases g
/-- the exceptions of ours, pair by pair: none is of another's class -/
def ncs : List (String × String) := ([("java/lang/IllegalArgumentException", "java/util/NoSuchElementException"), ("java/lang/IllegalStateException", "java/util/NoSuchElementException"), ("java/util/NoSuchElementException", "java/lang/IllegalArgumentException"), ("java/lang/IllegalStateException", "java/lang/IllegalArgumentException"), ("java/util/NoSuchElementException", "java/lang/IllegalStateException"), ("java/lang/IllegalArgumentException", "java/lang/IllegalStateException"), ("java/util/NoSuchElementException", "java/lang/IndexOutOfBoundsException"), ("java/util/NoSuchElementException", "java/lang/UnsupportedOperationException"), ("java/lang/UnsupportedOperationException", "java/util/NoSuchElementException"), ("java/lang/UnsupportedOperationException", "java/lang/IllegalArgumentException")])
/-- the static row of what a season gives -/
def lgF (j : Nat) : Int32 := ([4, 2, -2, -4] : List Int32).getD j 0
/-- where the static objects stand -/
abbrev zs (D : va_G) (k : Nat) : Nat := D.2 99 k
/-- the patterns of the commands: lengths and bytes -/
def kL : List Nat := [11, 8, 11, 9, 8, 6, 6]
def kB : List (List Int32) := [[104, 101, 100, 103, 101, 32, 35, 32, 63, 32, 63], [109, 97, 105, 110, 32, 63, 32, 35], [97, 109, 101, 110, 100, 32, 35, 32, 63, 32, 35], [112, 114, 117, 110, 101, 32, 35, 32, 63], [114, 101, 103, 114, 111, 119, 32, 35], [118, 111, 116, 101, 32, 35], [115, 101, 97, 115, 111, 110]]
def dgO (j : Nat) : Value := .int (nI (48 + j % 10))
def dgT (j : Nat) : Value := .int (nI (48 + j / 10))
/-- the kinds of commands: KINDS at zs D 1, the kinds at zs D 10 .., their patterns at zs D 20 .., the bytes at zs D 30 .., the switch's row at zs D 2 -/
def cK (D : va_G) (A : Nat → Prop) (U : State) (H : Heap) : Prop :=
  va_Z "HedgeCommittee$Program" "KINDS" "[LHedgeCommittee$Kind;" (.ref (zs D 1)) A U H ∧ va_T (.object "HedgeCommittee$Kind") (zs D 1) 7 (fun j => .ref (zs D (10 + j))) A U H ∧ va_Ef 7 "java/lang/Enum" "ordinal" "I" (fun j => .int (nI j)) (fun j => zs D (10 + j)) A U H ∧ va_Ef 7 "HedgeCommittee$Kind" "pattern" "Ljava/lang/String;" (fun j => .ref (zs D (20 + j))) (fun j => zs D (10 + j)) A U H ∧ (∀ i, i < 7 → va_O "HedgeCommittee$Kind" (zs D (10 + i)) A U H) ∧ vk_S 7 kL kB (fun i => zs D (20 + i)) (fun i => zs D (30 + i)) A U H ∧ va_Z "HedgeCommittee$1" "$SwitchMap$HedgeCommittee$Kind" "[I" (.ref (zs D 2)) A U H ∧ va_T .int (zs D 2) 7 (fun j => .int (nI (j + 1))) A U H
theorem cK.moved {D : va_G} {A : Nat → Prop} {u U : State} {H : Heap} (hvm : u.vm.Alike U.vm) (h : cK D A u H) : cK D A U H :=
  ⟨va_Z.moved hvm h.1, va_T.moved hvm h.2.1, va_Ef.moved hvm h.2.2.1, va_Ef.moved hvm h.2.2.2.1, fun i hi => va_O.moved hvm (h.2.2.2.2.1 i hi), vk_S.moved hvm h.2.2.2.2.2.1, va_Z.moved hvm h.2.2.2.2.2.2.1, va_T.moved hvm h.2.2.2.2.2.2.2⟩
theorem cK.kept {D : va_G} {A : Nat → Prop} {U : State} {H H1 : Heap} (h : cK D A U H) (hq : ∀ a : Nat, a < H.size → ¬ A a → H1[a]? = H[a]?) : cK D A U H1 :=
  ⟨h.1.kept hq, h.2.1.kept hq, h.2.2.1.kept hq, h.2.2.2.1.kept hq, fun i hi => (h.2.2.2.2.1 i hi).kept hq, h.2.2.2.2.2.1.kept hq, h.2.2.2.2.2.2.1.kept hq, h.2.2.2.2.2.2.2.kept hq⟩
theorem cK.narrow {D : va_G} {A B : Nat → Prop} {U : State} {H : Heap} (h : cK D A U H) (hAB : ∀ q, B q → A q) : cK D B U H :=
  ⟨h.1.narrow hAB, h.2.1.narrow hAB, h.2.2.1.narrow hAB, h.2.2.2.1.narrow hAB, fun i hi => (h.2.2.2.2.1 i hi).narrow hAB, h.2.2.2.2.2.1.narrow hAB, h.2.2.2.2.2.2.1.narrow hAB, h.2.2.2.2.2.2.2.narrow hAB⟩
/-- the JDK's: the list's empty row at zs D 3, the digits at zs D 4 and zs D 5 -/
def cJ (D : va_G) (A : Nat → Prop) (U : State) (H : Heap) : Prop :=
  va_Z "java/util/ArrayList" "DEFAULTCAPACITY_EMPTY_ELEMENTDATA" "[Ljava/lang/Object;" (.ref (zs D 3)) A U H ∧ va_T (.object "java/lang/Object") (zs D 3) 0 (fun _ => .null) A U H ∧ va_Zq "jdk/internal/util/Preconditions" "SIOOBE_FORMATTER" "Ljava/util/function/BiFunction;" A U H ∧ va_Z "java/lang/Integer" "DigitOnes" "[B" (.ref (zs D 4)) A U H ∧ va_T .byte (zs D 4) 100 dgO A U H ∧ va_Z "java/lang/Integer" "DigitTens" "[B" (.ref (zs D 5)) A U H ∧ va_T .byte (zs D 5) 100 dgT A U H ∧ va_AO "java/lang/Object" U
theorem cJ.moved {D : va_G} {A : Nat → Prop} {u U : State} {H : Heap} (hvm : u.vm.Alike U.vm) (h : cJ D A u H) : cJ D A U H :=
  ⟨va_Z.moved hvm h.1, va_T.moved hvm h.2.1, va_Zq.moved hvm h.2.2.1, va_Z.moved hvm h.2.2.2.1, va_T.moved hvm h.2.2.2.2.1, va_Z.moved hvm h.2.2.2.2.2.1, va_T.moved hvm h.2.2.2.2.2.2.1, va_AO.moved hvm h.2.2.2.2.2.2.2⟩
theorem cJ.kept {D : va_G} {A : Nat → Prop} {U : State} {H H1 : Heap} (h : cJ D A U H) (hq : ∀ a : Nat, a < H.size → ¬ A a → H1[a]? = H[a]?) : cJ D A U H1 :=
  ⟨h.1.kept hq, h.2.1.kept hq, h.2.2.1.kept hq, h.2.2.2.1.kept hq, h.2.2.2.2.1.kept hq, h.2.2.2.2.2.1.kept hq, h.2.2.2.2.2.2.1.kept hq, h.2.2.2.2.2.2.2⟩
theorem cJ.narrow {D : va_G} {A B : Nat → Prop} {U : State} {H : Heap} (h : cJ D A U H) (hAB : ∀ q, B q → A q) : cJ D B U H :=
  ⟨h.1.narrow hAB, h.2.1.narrow hAB, h.2.2.1.narrow hAB, h.2.2.2.1.narrow hAB, h.2.2.2.2.1.narrow hAB, h.2.2.2.2.2.1.narrow hAB, h.2.2.2.2.2.2.1.narrow hAB, h.2.2.2.2.2.2.2⟩
def cS (D : va_G) (A : Nat → Prop) (U : State) (H : Heap) : Prop :=
  (∀ q ∈ ncs, va_Nc q.1 q.2 U) ∧ va_Z "HedgeCommittee" "LEAVES_GAINED" "[I" (.ref (zs D 0)) A U H ∧ va_T .int (zs D 0) 4 (fun j => .int (lgF j)) A U H ∧ cK D A U H ∧ cJ D A U H
theorem cS.moved {D : va_G} {A : Nat → Prop} {u U : State} {H : Heap} (hvm : u.vm.Alike U.vm) (h : cS D A u H) : cS D A U H :=
  ⟨fun q hq => (h.1 q hq).moved hvm, va_Z.moved hvm h.2.1, va_T.moved hvm h.2.2.1, h.2.2.2.1.moved hvm, h.2.2.2.2.moved hvm⟩
theorem cS.kept {D : va_G} {A : Nat → Prop} {U : State} {H H1 : Heap} (h : cS D A U H) (hq : ∀ a : Nat, a < H.size → ¬ A a → H1[a]? = H[a]?) : cS D A U H1 :=
  ⟨h.1, h.2.1.kept hq, h.2.2.1.kept hq, h.2.2.2.1.kept hq, h.2.2.2.2.kept hq⟩
theorem cS.narrow {D : va_G} {A B : Nat → Prop} {U : State} {H : Heap} (h : cS D A U H) (hAB : ∀ q, B q → A q) : cS D B U H :=
  ⟨h.1, h.2.1.narrow hAB, h.2.2.1.narrow hAB, h.2.2.2.1.narrow hAB, h.2.2.2.2.narrow hAB⟩
def cZ (D : va_G) (A : Nat → Prop) (U : State) (H : Heap) : Prop :=
  (∀ w ∈ nw, va_Nw w U) ∧ (∀ q ∈ strs, ∃ a, vk_R q.1 q.2.1 q.2.2 a U) ∧ vx_Zq Bundle.tN "UNASSIGNED_STACK" Bundle.steD A U H ∧ vx_Zq Bundle.tN "SUPPRESSED_SENTINEL" Bundle.listD A U H ∧ va_AO "HedgeCommittee$State" U ∧ va_Zq "java/util/ArrayList" "DEFAULTCAPACITY_EMPTY_ELEMENTDATA" "[Ljava/lang/Object;" A U H ∧ va_Z "java/lang/String" "COMPACT_STRINGS" "Z" (.int 1) A U H ∧ cS D A U H
theorem cZ.to {D : va_G} {A B : Nat → Prop} {s U : State} {H0 H : Heap} (h : cZ D A s H0) (hS : ∀ q : Nat, q < H0.size → ¬ A q → H[q]? = H0[q]?) (hW : s.WarmedH U.vm) (hAB : ∀ q, B q → A q) : cZ D B U H := by
  obtain ⟨h1, h2, h3, h4, h5, h6, h7, h8⟩ := h
  refine ⟨fun w hw => nw_warm hW hw (h1 w hw), fun q hq => ?_, vx_Zq.moved hW.alike ((h3.kept hS).narrow hAB), vx_Zq.moved hW.alike ((h4.kept hS).narrow hAB), va_AO.moved hW.alike h5, va_Zq.moved hW.alike ((h6.kept hS).narrow hAB), va_Z.moved hW.alike ((h7.kept hS).narrow hAB), cS.moved hW.alike ((h8.kept hS).narrow hAB)⟩
  obtain ⟨a, ha⟩ := h2 q hq
  exact ⟨a, ha.warm hW⟩
theorem cZ.same {D : va_G} {A : Nat → Prop} {u U : State} {H : Heap} (h : cZ D A u H) (hv : U.vm = u.vm) : cZ D A U H := by
  obtain ⟨h1, h2, h3, h4, h5, h6, h7, h8⟩ := h
  have ha : u.vm.Alike U.vm := by rw [hv]; exact Vm.Alike.refl _
  refine ⟨fun w hw => va_Nw.same (nw_tab hw) hv.symm (h1 w hw), fun q hq => ?_, vx_Zq.moved ha h3, vx_Zq.moved ha h4, va_AO.moved ha h5, va_Zq.moved ha h6, va_Z.moved ha h7, cS.moved ha h8⟩
  obtain ⟨a, hq⟩ := h2 q hq
  exact ⟨a, hq.same hv⟩
def CxX (p : Program) (c : Code) (cc : ByteArray) (s : State) (args : Array Value) (m : MethodId) (D : va_G) (aT : Nat → ClassId) (own : String) : Prop := p.tables.exec = Jvm.exec ∧ c.code = cc ∧ (∀ w ∈ gw, w.before args s = true) ∧ s.vm.findClass own = some m.cls ∧ va_K D vwCl (tyG aT) s
def CxB (D : va_G) (Wd : va_W) (A : Nat → Prop) (H0 H : Heap) (locs : List Loc) : Prop := va_P D vwCl Wd H ∧ va_D A Wd ∧ va_S A H0 H locs
def cxB1 (D : va_G) (aT : Nat → ClassId) (Wd : va_W) (sz : Nat) (U : State) : Prop := U.heap.size = sz ∧ va_P D vwCl Wd U.heap ∧ va_K D vwCl (tyG aT) U ∧ va_D (fun _ => True) Wd ∧ cZ D (va_A Wd sz) U U.heap
def cxB2 (D : va_G) (aT : Nat → ClassId) (A : Nat → Prop) (Wd : va_W) (U : State) : Prop := va_P D vwCl Wd U.heap ∧ va_K D vwCl (tyG aT) U ∧ va_D A Wd
def cxX (D : va_G) (aT : Nat → ClassId) (PX : String → va_W → Prop) (A : Nat → Prop) : String → State → State → Prop := vx_X (fun _ : va_W => True) (fun E Wd t => PX E Wd ∧ cxB2 D aT A Wd t) A
abbrev CxQ : Type := (Nat → Prop) → Array Value → State → Outcome → State → Prop
def qI (D : va_G) (aT : Nat → ClassId) (post : Int32 → va_W → Prop) : CxQ := fun A => va_Qi post (cxB2 D aT A) A
def qV (D : va_G) (aT : Nat → ClassId) (post : va_W → Prop) : CxQ := fun A => va_Qv post (cxB2 D aT A) A
def qL (D : va_G) (aT : Nat → ClassId) (post : Int64 → va_W → Prop) : CxQ := fun A => va_Ql post (cxB2 D aT A) A
def qD (D : va_G) (aT : Nat → ClassId) (post : UInt64 → va_W → Prop) : CxQ := fun A => va_Qd post (cxB2 D aT A) A
def qF (D : va_G) (aT : Nat → ClassId) (post : UInt32 → va_W → Prop) : CxQ := fun A => va_Qf post (cxB2 D aT A) A
/-- an answer that is a reference or null -/
def qR (D : va_G) (aT : Nat → ClassId) (post : Option Nat → va_W → Prop) : CxQ := fun A => va_Qq post (cxB2 D aT A) A
abbrev cxR (fr mc ms lo : Nat) : Room := { frames := fr, cells := mc, slots := ms, locals := lo }
/-- a method: over the world Wd, with the arguments As, it ends as Qk says, or throws as PX says -/
def CxG (l : Launch) (y : MethodName) (b : ByteArray) (L : Nat) (ret : Option FieldType) (fr mc ms lo : Nat) (D : va_G) (aT : Nat → ClassId) (As : List Value) (Wd : va_W) (Qk : CxQ) (PX : String → va_W → Prop) : Prop :=
  ∀ sz, vx_Met l y (Cond.code y b L ret :: gw) (cxR fr mc ms lo) (va_Pc As (cxB1 D aT Wd sz)) (Qk (va_A Wd sz)) (cxX D aT PX (va_A Wd sz)) mc ms (va_A Wd sz)
theorem cx_blind {D : va_G} {aT : Nat → ClassId} {Wd : va_W} (As : List Value) (sz : Nat) : FrameBlind (va_Pc As (cxB1 D aT Wd sz)) := fun a U g mk q => by
  obtain ⟨q0, q1, qP, qK, qD, qZ⟩ := q
  exact ⟨q0, q1, qP, va_K.moved (u := U) (U := U.calling g mk a) (Vm.Alike.refl U.vm) qK, qD, cZ.same qZ rfl⟩
theorem CxG.of {l : Launch} {D : va_G} {aT : Nat → ClassId} {y : MethodName} {b : ByteArray} {L : Nat} {ret : Option FieldType} {fr mc ms lo : Nat} {As : List Value} {Wd : va_W} {Qk : CxQ} {PX : String → va_W → Prop} (own : String) (hy : plainName y.cls = true) (hcls : y.cls = own) (hL : (lg_sl As).length ≤ L)
    (body : ∀ (p : Program) (e : Env) (s : State) (m : MethodId) (below : List Frame) (meth : Method) (c : Code) (A : Nat → Prop) (ls : Array Slot), CxX p c b s As.toArray m D aT own → c.maxLocals = L → lv_has ls L (lv_args 0 As) → (∀ q, s.heap.size ≤ q → A q) → meth.sig.returnType = ret → meth.locks = false → (∀ x ∈ c.exceptionTable.toList, False) → meth.name = y.name → cZ D A s s.heap → CxB D Wd A s.heap s.heap [] →
      W p l e (cxR fr mc ms lo) s m As.toArray below meth c s.heap [] 0 0 (vx_MQ below (Qk A) (cxX D aT PX A) As.toArray s mc ms A) (F0 m 0 ls [])) : CxG l y b L ret fr mc ms lo D aT As Wd Qk PX := by
  intro sz
  refine vx_ofW (cc := b) (maxL := L) (ret := ret) hy rfl ?_
  intro p e s m args below meth c s₁ B hml hex hv
  obtain ⟨rfl, hsz, hP, hK, hD0, hZ⟩ := hv
  have hts := atoms_spec (ws := Cond.code y b L ret :: gw) B.pre
  have hown : s.vm.findClass y.cls = some m.cls := findClass_of_methodNamed B.named
  rw [hcls] at hown
  subst hsz
  have hl := lv_entry As (n := L) hL
  rw [lg_entry_eq]
  exact body p e s m below meth c _ _ ⟨B.exec, B.bytes, fun w hw => hts w (List.mem_cons_of_mem _ hw), hown, hK⟩ hml hl (fun q h => Or.inr h) B.returns B.notSynchronized hex (name_of_methodNamed B.named B.method).1 hZ ⟨hP, hD0.self (sz := s.heap.size), va_S.rf⟩
end CXA
section CXR
variable {p : Program} {l : Launch} {e : Env} {R : Room} {s : State} {m : MethodId} {args : Array Value} {below : List Frame} {meth : Method} {c : Code} {H : Heap} {locs : List Loc} {cells slots : Nat} {Q : State → Prop} {cc : ByteArray} {pc : Nat} {ls : Array Slot} {rest : List Value} {D : va_G} {aT : Nat → ClassId} {Wd : va_W} {A : Nat → Prop} {H0 : Heap} {nL : Nat} {own : String} {a : Nat}
theorem cx_get (C : CxX p c cc s args m D aT own) (hW : CxB D Wd A H0 H locs) (i k : Nat) {ci N index : Nat} {Cn ref : String} {T : u_T} {fs : List Value} {v : Value} (he : Wd[i]? = some (a, .inr (ci, fs))) (hc : vwCl[ci]? = some (Cn, T, N)) (hk : k < N) (hin : ∀ w ∈ u_ws Cn T N, w ∈ gw) (hl : Cond.fieldLink own index ref (T k).2.1 (T k).2.2.1 ∈ gw) (hr : (T k).1 = ref) (hv : fs[k]? = some v) (hdg : decode cc pc = .ok (.getfield index, 3)) (kk : W p l e R s m args below meth c H locs cells slots Q (F0 m (pc + 3) ls (v :: rest))) : W p l e R s m args below meth c H locs cells slots Q (F0 m pc ls (.ref a :: rest)) := by
  obtain ⟨hx, hb, hg, hown, hK⟩ := C
  exact va_get (D := D) (ci := ci) (v := v) (C := Cn) (T := T) (N := N) hx hb hg hin hown hK hW.1 i he hc k hk (hg _ hl) (fun x h9 => by rw [← hr]; exact h9) hv hdg kk
theorem cx_getN (C : CxX p c cc s args m D aT own) (hZ : cZ D A s s.heap) (hW : CxB D Wd A H0 H locs) (i k : Nat) {ci N index : Nat} {Cn ref host : String} {T : u_T} {fs : List Value} {v : Value} (he : Wd[i]? = some (a, .inr (ci, fs))) (hc : vwCl[ci]? = some (Cn, T, N)) (hk : k < N) (hin : ∀ w ∈ u_ws Cn T N, w ∈ gw) (hl : Cond.fieldLinkNest own index ref (T k).2.1 (T k).2.2.1 host ∈ nw) (hr : (T k).1 = ref) (hv : fs[k]? = some v) (hdg : decode cc pc = .ok (.getfield index, 3)) (kk : W p l e R s m args below meth c H locs cells slots Q (F0 m (pc + 3) ls (v :: rest))) : W p l e R s m args below meth c H locs cells slots Q (F0 m pc ls (.ref a :: rest)) := by
  obtain ⟨hx, hb, hg, hown, hK⟩ := C
  exact va_getN (D := D) (ci := ci) (v := v) (C := Cn) (T := T) (N := N) hx hb hg hin hown hK hW.1 i he hc k hk (va_Nw.use (nw_tab hl) (hZ.1 _ hl)) (fun x h9 => by rw [← hr]; exact h9) hv hdg kk
theorem cx_put (C : CxX p c cc s args m D aT own) (hW : CxB D Wd A H0 H locs) (i k : Nat) {ci N index : Nat} {Cn ref : String} {T : u_T} {fs : List Value} {v : Value} {ty : FieldType} {W1 : va_W} (he : Wd[i]? = some (a, .inr (ci, fs))) (hc : vwCl[ci]? = some (Cn, T, N)) (hk : k < N) (hin : ∀ w ∈ u_ws Cn T N, w ∈ gw) (ty0 : Nat → FieldType) (hty : ∀ k, k < N → parseFieldDescriptor (T k).2.2.1 = some (ty0 k)) (hnm : ∀ a, a < N → ∀ b, b < N → a ≠ b → (T a).2.1 ≠ (T b).2.1) (hl : Cond.fieldLink own index ref (T k).2.1 (T k).2.2.1 ∈ gw) (hr : (T k).1 = ref) (hfin : (T k).2.2.2 = false) (hd : ty0 k = ty) (hn : narrow ty v = v) (hf : fits ty v = true) (hlen : k < fs.length) (hW1 : Wd.set i (a, .inr (ci, fs.set k v)) = W1) (hdg : decode cc pc = .ok (.putfield index, 3)) (kk : ∀ (H1 : Heap) (locs1 : List Loc), CxB D W1 A H0 H1 locs1 → W p l e R s m args below meth c H1 locs1 cells slots Q (F0 m (pc + 3) ls rest)) : W p l e R s m args below meth c H locs cells slots Q (F0 m pc ls (v :: .ref a :: rest)) := by
  obtain ⟨hx, hb, hg, hown, hK⟩ := C
  refine va_put (D := D) (ci := ci) (v := v) (ty := ty) (C := Cn) (T := T) (N := N) hx hb hg hin ty0 hty hnm hown hK hW.1 hW.2.1 hW.2.2 i he hc k hk (hg _ hl) (fun x h9 => by rw [← hr]; exact h9) hfin (by rw [hty k hk, hd]) hn hf hlen hdg (fun H1 locs1 h1 h2 h3 => ?_)
  rw [hW1] at h1 h2
  exact kk H1 locs1 ⟨h1, h2, h3⟩
theorem cx_putF (C : CxX p c cc s args m D aT own) (hin2 : meth.name = "<init>") (hW : CxB D Wd A H0 H locs) (i k : Nat) {ci N index : Nat} {Cn ref : String} {T : u_T} {fs : List Value} {v : Value} {ty : FieldType} {W1 : va_W} (he : Wd[i]? = some (a, .inr (ci, fs))) (hc : vwCl[ci]? = some (Cn, T, N)) (hk : k < N) (hin : ∀ w ∈ u_ws Cn T N, w ∈ gw) (ty0 : Nat → FieldType) (hty : ∀ k, k < N → parseFieldDescriptor (T k).2.2.1 = some (ty0 k)) (hnm : ∀ a, a < N → ∀ b, b < N → a ≠ b → (T a).2.1 ≠ (T b).2.1) (hl : Cond.fieldLink own index ref (T k).2.1 (T k).2.2.1 ∈ gw) (hr : (T k).1 = ref) (hfin : (T k).2.2.2 = true) (hdecl : (T k).1 = own) (hd : ty0 k = ty) (hn : narrow ty v = v) (hf : fits ty v = true) (hlen : k < fs.length) (hW1 : Wd.set i (a, .inr (ci, fs.set k v)) = W1) (hdg : decode cc pc = .ok (.putfield index, 3)) (kk : ∀ (H1 : Heap) (locs1 : List Loc), CxB D W1 A H0 H1 locs1 → W p l e R s m args below meth c H1 locs1 cells slots Q (F0 m (pc + 3) ls rest)) : W p l e R s m args below meth c H locs cells slots Q (F0 m pc ls (v :: .ref a :: rest)) := by
  obtain ⟨hx, hb, hg, hown, hK⟩ := C
  refine va_putF (D := D) (ci := ci) (v := v) (ty := ty) (C := Cn) (T := T) (N := N) hx hb hg hin ty0 hty hnm hown hK hW.1 hW.2.1 hW.2.2 i he hc k hk (hg _ hl) (fun x h9 => by rw [← hr]; exact h9) hfin hin2 hdecl (by rw [hty k hk, hd]) hn hf hlen hdg (fun H1 locs1 h1 h2 h3 => ?_)
  rw [hW1] at h1 h2
  exact kk H1 locs1 ⟨h1, h2, h3⟩
theorem cx_ald (C : CxX p c cc s args m D aT own) (hW : CxB D Wd A H0 H locs) (i t0 : Nat) {n j : Nat} {f : Nat → Int32} {ty : FieldType} (he : Wd[i]? = some (a, .inl (aT t0, n, .inl f))) (ht : (tyG aT)[t0]? = some (aT t0, ty)) (hc : ty = .int) (hj : j < n) (hn : n < 2 ^ 31) (hdg : decode cc pc = .ok (.iaload, 1)) (kk : W p l e R s m args below meth c H locs cells slots Q (F0 m (pc + 1) ls (.int (f j) :: rest))) : W p l e R s m args below meth c H locs cells slots Q (F0 m pc ls (.int (nI j) :: .ref a :: rest)) := by
  obtain ⟨hx, hb, hg, hown, hK⟩ := C
  subst hc
  refine va_iald (D := D) hx hb hK hW.1 i t0 he ht (vp_in_nI hj (by omega)) hdg ?_
  rw [nI_clamp (by omega)]
  exact kk
theorem cx_ast (C : CxX p c cc s args m D aT own) (hW : CxB D Wd A H0 H locs) (i t0 : Nat) {n j : Nat} {f : Nat → Int32} {x : Int32} {ty : FieldType} {W1 : va_W} (he : Wd[i]? = some (a, .inl (aT t0, n, .inl f))) (ht : (tyG aT)[t0]? = some (aT t0, ty)) (hc : ty = .int) (hj : j < n) (hn : n < 2 ^ 31) (hW1 : Wd.set i (a, .inl (aT t0, n, .inl (upd f j x))) = W1) (hdg : decode cc pc = .ok (.iastore, 1)) (kk : ∀ (H1 : Heap) (locs1 : List Loc), CxB D W1 A H0 H1 locs1 → W p l e R s m args below meth c H1 locs1 cells slots Q (F0 m (pc + 1) ls rest)) : W p l e R s m args below meth c H locs cells slots Q (F0 m pc ls (.int x :: .int (nI j) :: .ref a :: rest)) := by
  obtain ⟨hx, hb, hg, hown, hK⟩ := C
  subst hc
  refine va_iast (D := D) hx hb hK hW.1 hW.2.1 hW.2.2 i t0 he ht (vp_in_nI hj (by omega)) hdg (fun H1 locs1 h1 h2 h3 => ?_)
  rw [nI_clamp (by omega)] at h1 h2
  rw [hW1] at h1 h2
  exact kk H1 locs1 ⟨h1, h2, h3⟩
/-- System.arraycopy of n ints from place 0 to place 0 -/
theorem cx_copy (C : CxX p c cc s args m D aT own) (hml : c.maxLocals = nL) (hls : ls.size = nL) (hW : CxB D Wd A H0 H locs) (i i1 t0 : Nat) {index a0 n n0 n1 : Nat} {f g : Nat → Int32} {ty : FieldType} {W1 : va_W} (he : Wd[i]? = some (a0, .inl (aT t0, n0, .inl f))) (he1 : Wd[i1]? = some (a, .inl (aT t0, n1, .inl g))) (ht : (tyG aT)[t0]? = some (aT t0, ty)) (hc : ty = .int) (h0 : n ≤ n0) (h1 : n ≤ n1) (hn : n < 2 ^ 31) (hlk : Cond.methodLink own index arraycopyName ∈ gw) (hnat : Cond.native arraycopyName ∈ gw) (hstat : Cond.static arraycopyName ∈ gw) (hini : Cond.initialized "java/lang/System" ∈ gw) (hR : 1 ≤ R.frames) (hlo : (rest.map fun v => v.category).sum + (nativeFrameWords "java/lang/System" "arraycopy" 5 + 11) ≤ R.locals) (hW1 : Wd.set i1 (a, .inl (aT t0, n1, .inl (va_cpy f g 0 0 n))) = W1) (hdg : decode cc pc = .ok (.invokestatic index, 3)) (kk : ∀ (H1 : Heap) (locs1 : List Loc), CxB D W1 A H0 H1 locs1 → W p l e R s m args below meth c H1 locs1 cells slots Q (F0 m (pc + 3) ls rest)) : W p l e R s m args below meth c H locs cells slots Q (F0 m pc ls (.int (nI n) :: .int (nI 0) :: .ref a :: .int (nI 0) :: .ref a0 :: rest)) := by
  obtain ⟨hx, hb, hg, hown, hK⟩ := C
  subst hc
  have z0 : (nI 0).toNatClampNeg = 0 := nI_clamp (by omega)
  have zn : (nI n).toNatClampNeg = n := nI_clamp hn
  have neg : ∀ k : Nat, k < 2 ^ 31 → ¬ (nI k) < 0 := fun k hk q => Nat.not_lt_zero _ ((nI_ltI hk (by decide)).mp (show nI k < nI 0 from q))
  refine va_copyi (D := D) hx hb (hml.trans hls.symm) hown (hg _ hlk) (hg _ hnat) (hg _ hstat) (hg _ hini) hK hW.1 hW.2.1 hW.2.2 i i1 t0 t0 he he1 ht ht rfl (neg 0 (by omega)) (neg 0 (by omega)) (neg n hn) (by rw [z0, zn]; omega) (by rw [z0, zn]; omega) (fun _ _ => rfl) hR hlo hdg (fun H1 locs1 h1 h2 h3 => ?_)
  rw [z0, zn, hW1] at h1 h2
  exact kk H1 locs1 ⟨h1, h2, h3⟩
/-- a new object -/
theorem cx_new (C : CxX p c cc s args m D aT own) (hA : ∀ q, H0.size ≤ q → A q) (hW : CxB D Wd A H0 H locs) {ci N index : Nat} {Cn : String} {T : u_T} {fs : List Value} (hc : vwCl[ci]? = some (Cn, T, N)) (hin : ∀ w ∈ u_ws Cn T N, w ∈ gw) (ty : Nat → FieldType) (hty : ∀ k, k < N → parseFieldDescriptor (T k).2.2.1 = some (ty k)) (hcl : Cond.classLink own index Cn ∈ gw) (hinst : Cond.instantiable Cn N ∈ gw) (hini : Cond.initialized Cn ∈ gw) (hfs : ∀ j, j < N → defaultValue (ty j) = vp_V fs j) (hcells : cells + 1 ≤ R.cells) (hslots : slots + N ≤ R.slots) (hdg : decode cc pc = .ok (.new index, 3)) (kk : ∀ (q : Nat) (H1 : Heap), CxB D (Wd ++ [(q, .inr (ci, fs))]) A H0 H1 locs → W p l e R s m args below meth c H1 locs (cells + 1) (slots + N) Q (F0 m (pc + 3) ls (.ref q :: rest))) : W p l e R s m args below meth c H locs cells slots Q (F0 m pc ls rest) := by
  obtain ⟨hx, hb, hg, hown, hK⟩ := C
  exact va_new (D := D) (ci := ci) (fs := fs) (C := Cn) (T := T) (N := N) hx hb hg hin ty hty hown (hg _ hcl) (hg _ hinst) (hg _ hini) hK hW.1 hW.2.1 hW.2.2 hA hc hfs hcells hslots hdg (fun q H1 h1 h2 h3 => kk q H1 ⟨h1, h2, h3⟩)
/-- a new array -/
theorem cx_newa (C : CxX p c cc s args m D aT own) (hA : ∀ q, H0.size ≤ q → A q) (hW : CxB D Wd A H0 H locs) (t0 : Nat) {atype : ArrayType} {ty : FieldType} (harr : Cond.arrayClass (newarray.typeOf atype) ∈ gw) (hty : newarray.typeOf atype = ty) (ht : (tyG aT)[t0]? = some (aT t0, ty)) (hob : ∀ U cA, va_RA U cA ty → U.vm.findClass ("[" ++ ty.toString) = some cA) {n : Nat} {a0 : vp_A} (ha : ∀ cA : ClassId, vp_cell cA a0 = arrV cA n (fun _ => defaultValue ty)) (hn : n < 2 ^ 31) (hbytes : n * componentBytes ty ≤ 536870912) (hcells : cells + 1 ≤ R.cells) (hslots : slots + n ≤ R.slots) (hdg : decode cc pc = .ok (.newarray atype, 2)) (kk : ∀ (q : Nat) (H1 : Heap), CxB D (Wd ++ [(q, .inl (aT t0, a0))]) A H0 H1 locs → W p l e R s m args below meth c H1 locs (cells + 1) (slots + n) Q (F0 m (pc + 2) ls (.ref q :: rest))) : W p l e R s m args below meth c H locs cells slots Q (F0 m pc ls (.int (nI n) :: rest)) := by
  obtain ⟨hx, hb, hg, hown, hK⟩ := C
  have neg : ¬ (nI n) < 0 := fun q => Nat.not_lt_zero _ ((nI_ltI hn (by decide)).mp (show nI n < nI 0 from q))
  refine va_newa (D := D) (ty := ty) hx hb (hg _ harr) hty hK hW.1 hW.2.1 hW.2.2 hA ha neg (nI_clamp hn) hbytes hcells hslots hdg (fun q cA H1 hK1 h1 h2 h3 => ?_)
  have e1 := hob _ _ (hK.2 t0 _ ht).2
  have e2 := hob _ _ (hK1.2 (tyG aT).length (cA, ty) (by rw [List.getElem?_append_right (Nat.le_refl _), Nat.sub_self]; rfl)).2
  have e : cA = aT t0 := Option.some.inj (e2.symm.trans e1)
  subst e
  exact kk q H1 ⟨h1, h2, h3⟩
theorem cx_init (C : CxX p c cc s args m D aT own) (hml : c.maxLocals = nL) (hls : ls.size = nL) {idx : Nat} (h1 : Cond.methodLink own idx objectInit ∈ gw) (h2 : Cond.instanceMethod objectInit ∈ gw) (h3 : Cond.code objectInit ⟨#[0xb1]⟩ 1 none ∈ gw) (hd : decode cc pc = .ok (.invokespecial idx, 3)) (hfr : 1 ≤ R.frames) (hlo : (rest.map fun v => v.category).sum + 12 ≤ R.locals) (kk : W p l e R s m args below meth c H locs cells slots Q (F0 m (pc + 3) ls rest)) : W p l e R s m args below meth c H locs cells slots Q (F0 m pc ls (.ref a :: rest)) := by
  obtain ⟨hx, hb, hg, hown, hK⟩ := C
  exact W.objInit hx hb hown (hg _ h1) (hg _ h2) (hg _ h3) rfl (hls.trans hml.symm) rfl hd hfr (by show 2 * 0 + (rest.map fun v => v.category).sum + 12 ≤ R.locals; omega) kk
theorem cx_cast (C : CxX p c cc s args m D aT own) (hW : CxB D Wd A H0 H locs) (i t0 : Nat) {n j : Nat} {f : Nat → Int32} {x : Int32} {ty : FieldType} {W1 : va_W} (he : Wd[i]? = some (a, .inl (aT t0, n, .inl f))) (ht : (tyG aT)[t0]? = some (aT t0, ty)) (hc : ty = .char) (hj : j < n) (hn : n < 2 ^ 31) (hW1 : Wd.set i (a, .inl (aT t0, n, .inl (upd f j (vp_nar .char x)))) = W1) (hdg : decode cc pc = .ok (.castore, 1)) (kk : ∀ (H1 : Heap) (locs1 : List Loc), CxB D W1 A H0 H1 locs1 → W p l e R s m args below meth c H1 locs1 cells slots Q (F0 m (pc + 1) ls rest)) : W p l e R s m args below meth c H locs cells slots Q (F0 m pc ls (.int x :: .int (nI j) :: .ref a :: rest)) := by
  obtain ⟨hx, hb, hg, hown, hK⟩ := C
  subst hc
  refine va_cast (D := D) hx hb hK hW.1 hW.2.1 hW.2.2 i t0 he ht (vp_in_nI hj (by omega)) hdg (fun H1 locs1 h1 h2 h3 => ?_)
  rw [nI_clamp (by omega)] at h1 h2
  rw [hW1] at h1 h2
  exact kk H1 locs1 ⟨h1, h2, h3⟩
/-- a new row of States -/
theorem cx_newq (C : CxX p c cc s args m D aT own) (hA : ∀ q, H0.size ≤ q → A q) (hZ : cZ D A s s.heap) (hW : CxB D Wd A H0 H locs) (t0 : Nat) {index n : Nat} (hk : Cond.classLink own index "HedgeCommittee$State" ∈ gw) (ht : (tyG aT)[t0]? = some (aT t0, .object "HedgeCommittee$State")) (hb2 : n * 4 ≤ 536870912) (hn : n < 2 ^ 31) (hcells : cells + 1 ≤ R.cells) (hslots : slots + n ≤ R.slots) (hle : n ≤ 100) (hdg : decode cc pc = .ok (.anewarray index, 3)) (kk : ∀ (q : Nat) (H1 : Heap), CxB D (Wd ++ [(q, .inl (aT t0, n, .inr (.inr (.inr (.inr (fun _ => none))))))]) A H0 H1 locs → W p l e R s m args below meth c H1 locs (cells + 1) (slots + n) Q (F0 m (pc + 3) ls (.ref q :: rest))) : W p l e R s m args below meth c H locs cells slots Q (F0 m pc ls (.int (nI n) :: rest)) := by
  obtain ⟨hx, hb, hg, hown, hK⟩ := C
  have neg : ¬ (nI n) < 0 := fun q => Nat.not_lt_zero _ ((nI_ltI hn (by decide)).mp (show nI n < nI 0 from q))
  refine va_newq (D := D) (C := "HedgeCommittee$State") hx hb hown (hg _ hk) hZ.2.2.2.2.1 hK hW.1 hW.2.1 hW.2.2 hA neg (nI_clamp hn) hb2 hcells hslots hdg (fun q cA H1 hK1 h1 h2 h3 => ?_)
  obtain ⟨k1, c1, a1, a2, a3, a4⟩ := (hK.2 t0 _ ht).2
  obtain ⟨k2, c2, b1, b2, b3, b4⟩ := (hK1.2 (tyG aT).length (cA, .object "HedgeCommittee$State") (by rw [List.getElem?_append_right (Nat.le_refl _), Nat.sub_self]; rfl)).2
  have e : cA = aT t0 := Option.some.inj (b4.symm.trans a4)
  subst e
  exact kk q H1 ⟨h1, h2, h3⟩
theorem gdS2 {own : String} {idx : Nat} {y : MethodName} {b : ByteArray} {L : Nat} {ret : Option FieldType} (h1 : Cond.methodLink own idx y ∈ gw) (h2 : Cond.static y ∈ gw) (h4 : Cond.initialized y.cls ∈ gw) (h5 : Cond.code y b L ret ∈ gw) : GoodIn gw (va_wsS own idx y (Cond.code y b L ret :: gw)) := by
  intro w hw
  have h : w ∈ gw := by
    unfold va_wsS at hw
    simp only [List.cons_append, List.nil_append, List.mem_cons] at hw
    rcases hw with rfl | rfl | rfl | rfl | hw
    · exact h1
    · exact h2
    · exact h4
    · exact h5
    · exact hw
  exact ⟨h, gw_good w h⟩
theorem gdI {y : MethodName} {b : ByteArray} {L : Nat} {ret : Option FieldType} (h5 : Cond.code y b L ret ∈ gw) : GoodIn gw (Cond.code y b L ret :: gw) := by
  intro w hw
  rcases List.mem_cons.mp hw with rfl | h
  · exact ⟨h5, gw_good _ h5⟩
  · exact ⟨h, gw_good _ h⟩
end CXR

theorem nw_125 : Cond.fieldLinkNest "HedgeCommittee" 106 "HedgeCommittee$Hedges" "leaves" "[I" "HedgeCommittee" ∈ nw := nw_t (tb_1 (List.mem_of_getElem? (i := 59) rfl)) rfl
theorem nw_127 : Cond.fieldLinkNest "HedgeCommittee" 110 "HedgeCommittee$Hedges" "thorns" "[I" "HedgeCommittee" ∈ nw := nw_t (tb_1 (List.mem_of_getElem? (i := 61) rfl)) rfl
theorem nw_130 : Cond.fieldLinkNest "HedgeCommittee" 97 "HedgeCommittee$Hedges" "count" "I" "HedgeCommittee" ∈ nw := nw_t (tb_1 (List.mem_of_getElem? (i := 64) rfl)) rfl
theorem nw_131 : Cond.fieldLinkNest "HedgeCommittee$State" 136 "HedgeCommittee$Hedges" "count" "I" "HedgeCommittee" ∈ nw := nw_t (tb_1 (List.mem_of_getElem? (i := 65) rfl)) rfl
theorem nw_149 : Cond.fieldLinkNest "HedgeCommittee" 150 "HedgeCommittee$Motions" "ids" "[I" "HedgeCommittee" ∈ nw := nw_t (tb_1 (List.mem_of_getElem? (i := 83) rfl)) rfl
theorem nw_151 : Cond.fieldLinkNest "HedgeCommittee$State" 108 "HedgeCommittee$Motions" "tones" "[I" "HedgeCommittee" ∈ nw := nw_t (tb_1 (List.mem_of_getElem? (i := 85) rfl)) rfl
theorem nw_152 : Cond.fieldLinkNest "HedgeCommittee" 136 "HedgeCommittee$Motions" "tones" "[I" "HedgeCommittee" ∈ nw := nw_t (tb_1 (List.mem_of_getElem? (i := 86) rfl)) rfl
theorem nw_154 : Cond.fieldLinkNest "HedgeCommittee$State" 111 "HedgeCommittee$Motions" "weights" "[I" "HedgeCommittee" ∈ nw := nw_t (tb_1 (List.mem_of_getElem? (i := 88) rfl)) rfl
theorem nw_155 : Cond.fieldLinkNest "HedgeCommittee$Trees" 71 "HedgeCommittee$Motions" "weights" "[I" "HedgeCommittee" ∈ nw := nw_t (tb_1 (List.mem_of_getElem? (i := 89) rfl)) rfl
theorem nw_156 : Cond.fieldLinkNest "HedgeCommittee" 153 "HedgeCommittee$Motions" "weights" "[I" "HedgeCommittee" ∈ nw := nw_t (tb_1 (List.mem_of_getElem? (i := 90) rfl)) rfl
theorem nw_158 : Cond.fieldLinkNest "HedgeCommittee$Trees" 37 "HedgeCommittee$Motions" "parents" "[I" "HedgeCommittee" ∈ nw := nw_t (tb_1 (List.mem_of_getElem? (i := 92) rfl)) rfl
theorem nw_159 : Cond.fieldLinkNest "HedgeCommittee$State" 148 "HedgeCommittee$Motions" "parents" "[I" "HedgeCommittee" ∈ nw := nw_t (tb_1 (List.mem_of_getElem? (i := 93) rfl)) rfl
theorem nw_160 : Cond.fieldLinkNest "HedgeCommittee" 156 "HedgeCommittee$Motions" "parents" "[I" "HedgeCommittee" ∈ nw := nw_t (tb_1 (List.mem_of_getElem? (i := 94) rfl)) rfl
theorem nw_162 : Cond.fieldLinkNest "HedgeCommittee$Trees" 50 "HedgeCommittee$Motions" "count" "I" "HedgeCommittee" ∈ nw := nw_t (tb_1 (List.mem_of_getElem? (i := 96) rfl)) rfl
theorem nw_163 : Cond.fieldLinkNest "HedgeCommittee$State" 125 "HedgeCommittee$Motions" "count" "I" "HedgeCommittee" ∈ nw := nw_t (tb_1 (List.mem_of_getElem? (i := 97) rfl)) rfl
theorem nw_164 : Cond.fieldLinkNest "HedgeCommittee" 146 "HedgeCommittee$Motions" "count" "I" "HedgeCommittee" ∈ nw := nw_t (tb_1 (List.mem_of_getElem? (i := 98) rfl)) rfl
theorem nw_180 : Cond.fieldLinkNest "HedgeCommittee" 93 "HedgeCommittee$State" "hedges" "LHedgeCommittee$Hedges;" "HedgeCommittee" ∈ nw := nw_t (tb_1 (List.mem_of_getElem? (i := 114) rfl)) rfl
theorem nw_182 : Cond.fieldLinkNest "HedgeCommittee" 127 "HedgeCommittee$State" "motions" "LHedgeCommittee$Motions;" "HedgeCommittee" ∈ nw := nw_t (tb_1 (List.mem_of_getElem? (i := 116) rfl)) rfl
theorem nw_184 : Cond.fieldLinkNest "HedgeCommittee" 212 "HedgeCommittee$State" "minutes" "[I" "HedgeCommittee" ∈ nw := nw_t (tb_1 (List.mem_of_getElem? (i := 118) rfl)) rfl
theorem nw_186 : Cond.fieldLinkNest "HedgeCommittee" 90 "HedgeCommittee$State" "season" "I" "HedgeCommittee" ∈ nw := nw_t (tb_1 (List.mem_of_getElem? (i := 120) rfl)) rfl
theorem nw_188 : Cond.fieldLinkNest "HedgeCommittee" 233 "HedgeCommittee$State" "votes" "I" "HedgeCommittee" ∈ nw := nw_t (tb_1 (List.mem_of_getElem? (i := 122) rfl)) rfl
theorem nw_190 : Cond.fieldLinkNest "HedgeCommittee" 238 "HedgeCommittee$State" "carriedVotes" "I" "HedgeCommittee" ∈ nw := nw_t (tb_1 (List.mem_of_getElem? (i := 124) rfl)) rfl
theorem nw_196 : Cond.fieldLinkNest "HedgeCommittee" 215 "HedgeCommittee$State" "adopted" "I" "HedgeCommittee" ∈ nw := nw_t (tb_1 (List.mem_of_getElem? (i := 130) rfl)) rfl
theorem nw_231 : Cond.fieldLinkNest "HedgeCommittee" 308 "HedgeCommittee$History" "count" "I" "HedgeCommittee" ∈ nw := nw_t (tb_1 (List.mem_of_getElem? (i := 165) rfl)) rfl
theorem nw_299 : Cond.fieldLinkNest "HedgeCommittee" 277 "HedgeCommittee$Program" "commands" "Ljava/util/ArrayList;" "HedgeCommittee" ∈ nw := nw_t (tb_1 (List.mem_of_getElem? (i := 233) rfl)) rfl
theorem nw_407 : Cond.fieldLinkNest "HedgeCommittee$Hedges" 47 "HedgeCommittee" "LEAVES_GAINED" "[I" "HedgeCommittee" ∈ nw := nw_t (tb_2 (List.mem_of_getElem? (i := 101) rfl)) rfl
theorem nw_561 : Cond.castable "java/lang/IllegalArgumentException" "java/lang/IllegalArgumentException" ∈ nw := nw_t (tb_3 (List.mem_of_getElem? (i := 15) rfl)) rfl
theorem nw_562 : Cond.declares ⟨"java/lang/RuntimeException", "<init>", "()V"⟩ ∈ nw := nw_t (tb_3 (List.mem_of_getElem? (i := 16) rfl)) rfl
theorem nw_563 : Cond.declares ⟨"java/lang/RuntimeException", "<init>", "(Ljava/lang/String;)V"⟩ ∈ nw := nw_t (tb_3 (List.mem_of_getElem? (i := 17) rfl)) rfl
theorem nw_564 : Cond.declares ⟨"java/lang/Exception", "<init>", "()V"⟩ ∈ nw := nw_t (tb_3 (List.mem_of_getElem? (i := 18) rfl)) rfl
theorem nw_565 : Cond.declares ⟨"java/lang/Exception", "<init>", "(Ljava/lang/String;)V"⟩ ∈ nw := nw_t (tb_3 (List.mem_of_getElem? (i := 19) rfl)) rfl
theorem nw_566 : Cond.declares ⟨"java/lang/Throwable", "<init>", "()V"⟩ ∈ nw := nw_t (tb_3 (List.mem_of_getElem? (i := 20) rfl)) rfl
theorem nw_567 : Cond.declares ⟨"java/lang/Throwable", "<init>", "(Ljava/lang/String;)V"⟩ ∈ nw := nw_t (tb_3 (List.mem_of_getElem? (i := 21) rfl)) rfl
theorem nw_637 : Cond.castable "java/lang/IllegalStateException" "java/lang/IllegalStateException" ∈ nw := nw_t (tb_3 (List.mem_of_getElem? (i := 91) rfl)) rfl
theorem nw_705 : Cond.castable "java/util/NoSuchElementException" "java/util/NoSuchElementException" ∈ nw := nw_t (tb_3 (List.mem_of_getElem? (i := 159) rfl)) rfl
theorem nw_814 : Cond.castable "java/lang/ArrayIndexOutOfBoundsException" "java/lang/ArrayIndexOutOfBoundsException" ∈ nw := nw_t (tb_4 (List.mem_of_getElem? (i := 28) rfl)) rfl
theorem nw_815 : Cond.declares ⟨"java/lang/IndexOutOfBoundsException", "<init>", "()V"⟩ ∈ nw := nw_t (tb_4 (List.mem_of_getElem? (i := 29) rfl)) rfl
theorem nw_816 : Cond.declares ⟨"java/lang/IndexOutOfBoundsException", "<init>", "(Ljava/lang/String;)V"⟩ ∈ nw := nw_t (tb_4 (List.mem_of_getElem? (i := 30) rfl)) rfl
theorem nw_837 : Cond.castable "java/lang/IndexOutOfBoundsException" "java/lang/IndexOutOfBoundsException" ∈ nw := nw_t (tb_4 (List.mem_of_getElem? (i := 51) rfl)) rfl
theorem nw_998 : Cond.castable "java/lang/UnsupportedOperationException" "java/lang/UnsupportedOperationException" ∈ nw := nw_t (tb_4 (List.mem_of_getElem? (i := 212) rfl)) rfl
theorem nw_1069 : Cond.castable "java/lang/ArithmeticException" "java/lang/ArithmeticException" ∈ nw := nw_t (tb_5 (List.mem_of_getElem? (i := 43) rfl)) rfl
theorem nw_1197 : Cond.fieldLinkNest "HedgeCommittee" 341 "HedgeCommittee$Command" "kind" "LHedgeCommittee$Kind;" "HedgeCommittee" ∈ nw := nw_t (tb_5 (List.mem_of_getElem? (i := 171) rfl)) rfl
theorem nw_1199 : Cond.fieldLinkNest "HedgeCommittee" 350 "HedgeCommittee$Command" "first" "I" "HedgeCommittee" ∈ nw := nw_t (tb_5 (List.mem_of_getElem? (i := 173) rfl)) rfl
theorem nw_1201 : Cond.fieldLinkNest "HedgeCommittee" 353 "HedgeCommittee$Command" "second" "I" "HedgeCommittee" ∈ nw := nw_t (tb_5 (List.mem_of_getElem? (i := 175) rfl)) rfl
theorem nw_1203 : Cond.fieldLinkNest "HedgeCommittee" 356 "HedgeCommittee$Command" "third" "I" "HedgeCommittee" ∈ nw := nw_t (tb_5 (List.mem_of_getElem? (i := 177) rfl)) rfl
theorem nw_1309 : Cond.declares ⟨"java/lang/Enum", "ordinal", "()I"⟩ ∈ nw := nw_t (tb_6 (List.mem_of_getElem? (i := 43) rfl)) rfl
theorem nw_1385 : Cond.castable "[B" "java/lang/Cloneable" ∈ nw := nw_t (tb_6 (List.mem_of_getElem? (i := 119) rfl)) rfl
theorem nw_2109 : Cond.castable "java/lang/ArrayIndexOutOfBoundsException" "java/lang/IndexOutOfBoundsException" ∈ nw := nw_t (tb_9 (List.mem_of_getElem? (i := 123) rfl)) rfl
theorem nw_2110 : Cond.castable "java/lang/StringIndexOutOfBoundsException" "java/lang/IndexOutOfBoundsException" ∈ nw := nw_t (tb_9 (List.mem_of_getElem? (i := 124) rfl)) rfl
theorem nw_2111 : Cond.castable "HedgeCommittee$State" "java/lang/Object" ∈ nw := nw_t (tb_9 (List.mem_of_getElem? (i := 125) rfl)) rfl
theorem nw_2112 : Cond.castable "HedgeCommittee$Kind" "java/lang/Object" ∈ nw := nw_t (tb_9 (List.mem_of_getElem? (i := 126) rfl)) rfl
theorem nw_2113 : Cond.castable "HedgeCommittee" "java/lang/Object" ∈ nw := nw_t (tb_9 (List.mem_of_getElem? (i := 127) rfl)) rfl
theorem nw_2114 : Cond.castable "HedgeCommittee$Hedges" "java/lang/Object" ∈ nw := nw_t (tb_9 (List.mem_of_getElem? (i := 128) rfl)) rfl
theorem nw_2115 : Cond.castable "HedgeCommittee$Motions" "java/lang/Object" ∈ nw := nw_t (tb_9 (List.mem_of_getElem? (i := 129) rfl)) rfl
theorem nw_2116 : Cond.castable "HedgeCommittee$History" "java/lang/Object" ∈ nw := nw_t (tb_9 (List.mem_of_getElem? (i := 130) rfl)) rfl
theorem nw_2117 : Cond.castable "HedgeCommittee$Trees" "java/lang/Object" ∈ nw := nw_t (tb_9 (List.mem_of_getElem? (i := 131) rfl)) rfl
theorem nw_2118 : Cond.castable "HedgeCommittee$Program" "java/lang/Object" ∈ nw := nw_t (tb_9 (List.mem_of_getElem? (i := 132) rfl)) rfl
theorem nw_2119 : Cond.castable "java/util/ArrayList" "java/lang/Object" ∈ nw := nw_t (tb_9 (List.mem_of_getElem? (i := 133) rfl)) rfl
theorem nw_2120 : Cond.castable "java/lang/StringBuilder" "java/lang/Object" ∈ nw := nw_t (tb_9 (List.mem_of_getElem? (i := 134) rfl)) rfl
theorem nw_2121 : Cond.castable "HedgeCommitteeModel" "java/lang/Object" ∈ nw := nw_t (tb_9 (List.mem_of_getElem? (i := 135) rfl)) rfl
theorem nw_2122 : Cond.castable "java/lang/IllegalArgumentException" "java/lang/Object" ∈ nw := nw_t (tb_9 (List.mem_of_getElem? (i := 136) rfl)) rfl
theorem nw_2123 : Cond.castable "java/lang/IllegalStateException" "java/lang/Object" ∈ nw := nw_t (tb_9 (List.mem_of_getElem? (i := 137) rfl)) rfl
theorem nw_2124 : Cond.castable "java/util/NoSuchElementException" "java/lang/Object" ∈ nw := nw_t (tb_9 (List.mem_of_getElem? (i := 138) rfl)) rfl
theorem nw_2125 : Cond.castable "java/lang/ArrayIndexOutOfBoundsException" "java/lang/Object" ∈ nw := nw_t (tb_9 (List.mem_of_getElem? (i := 139) rfl)) rfl
theorem nw_2126 : Cond.castable "java/lang/IndexOutOfBoundsException" "java/lang/Object" ∈ nw := nw_t (tb_9 (List.mem_of_getElem? (i := 140) rfl)) rfl
theorem nw_2127 : Cond.castable "java/lang/UnsupportedOperationException" "java/lang/Object" ∈ nw := nw_t (tb_9 (List.mem_of_getElem? (i := 141) rfl)) rfl
theorem nw_2128 : Cond.castable "java/lang/ArithmeticException" "java/lang/Object" ∈ nw := nw_t (tb_9 (List.mem_of_getElem? (i := 142) rfl)) rfl
theorem nw_2129 : Cond.castable "HedgeCommittee$Command" "java/lang/Object" ∈ nw := nw_t (tb_9 (List.mem_of_getElem? (i := 143) rfl)) rfl
theorem nw_2130 : Cond.castable "java/lang/StringIndexOutOfBoundsException" "java/lang/Object" ∈ nw := nw_t (tb_9 (List.mem_of_getElem? (i := 144) rfl)) rfl
theorem nw_2131 : Cond.castable "java/lang/String" "java/lang/Object" ∈ nw := nw_t (tb_9 (List.mem_of_getElem? (i := 145) rfl)) rfl
theorem nw_2132 : Cond.castable "java/lang/Throwable" "java/lang/Object" ∈ nw := nw_t (tb_9 (List.mem_of_getElem? (i := 146) rfl)) rfl
theorem nw_2135 : Cond.declares ⟨"java/lang/Object", "getClass", "()Ljava/lang/Class;"⟩ ∈ nw := nw_t (tb_9 (List.mem_of_getElem? (i := 149) rfl)) rfl
theorem nw_2136 : Cond.castable "[I" "java/lang/Object" ∈ nw := nw_t (tb_9 (List.mem_of_getElem? (i := 150) rfl)) rfl
theorem nw_2137 : Cond.castable "[LHedgeCommittee$State;" "java/lang/Object" ∈ nw := nw_t (tb_9 (List.mem_of_getElem? (i := 151) rfl)) rfl
theorem nw_2138 : Cond.castable "[J" "java/lang/Object" ∈ nw := nw_t (tb_9 (List.mem_of_getElem? (i := 152) rfl)) rfl
theorem nw_2139 : Cond.castable "[C" "java/lang/Object" ∈ nw := nw_t (tb_9 (List.mem_of_getElem? (i := 153) rfl)) rfl
theorem nw_2140 : Cond.castable "[B" "java/lang/Object" ∈ nw := nw_t (tb_9 (List.mem_of_getElem? (i := 154) rfl)) rfl
theorem nw_2141 : Cond.castable "[Ljava/lang/Object;" "java/lang/Object" ∈ nw := nw_t (tb_9 (List.mem_of_getElem? (i := 155) rfl)) rfl
theorem nw_2142 : Cond.castable "[D" "java/lang/Object" ∈ nw := nw_t (tb_9 (List.mem_of_getElem? (i := 156) rfl)) rfl
theorem nw_2143 : Cond.castable "[LHedgeCommittee$Kind;" "java/lang/Object" ∈ nw := nw_t (tb_9 (List.mem_of_getElem? (i := 157) rfl)) rfl
theorem nw_2144 : Cond.fieldLinkNest "HedgeCommittee$Program" 54 "HedgeCommittee$Kind" "pattern" "Ljava/lang/String;" "HedgeCommittee" ∈ nw := nw_t (tb_9 (List.mem_of_getElem? (i := 158) rfl)) rfl
theorem inJ0 : ∀ w ∈ u_ws RJ0 TJ0 4, w ∈ gw := List.forall_mem_cons.mpr ⟨gw_819, List.forall_mem_cons.mpr ⟨gw_821, List.forall_mem_cons.mpr ⟨gw_1522, List.forall_mem_cons.mpr ⟨gw_1524, fun _ h => absurd h List.not_mem_nil⟩⟩⟩⟩
theorem inJ4 : ∀ w ∈ u_ws RJ4 TJ4 4, w ∈ gw := List.forall_mem_cons.mpr ⟨gw_336, List.forall_mem_cons.mpr ⟨gw_338, List.forall_mem_cons.mpr ⟨gw_340, List.forall_mem_cons.mpr ⟨gw_342, fun _ h => absurd h List.not_mem_nil⟩⟩⟩⟩
theorem inJx00060 : ∀ w ∈ u_ws RJx00060 TJx00060 6, w ∈ gw := List.forall_mem_cons.mpr ⟨gw_807, List.forall_mem_cons.mpr ⟨gw_808, List.forall_mem_cons.mpr ⟨gw_809, List.forall_mem_cons.mpr ⟨gw_810, List.forall_mem_cons.mpr ⟨gw_811, List.forall_mem_cons.mpr ⟨gw_812, fun _ h => absurd h List.not_mem_nil⟩⟩⟩⟩⟩⟩
theorem inJx7c733 : ∀ w ∈ u_ws RJx7c733 TJx7c733 6, w ∈ gw := List.forall_mem_cons.mpr ⟨gw_1528, List.forall_mem_cons.mpr ⟨gw_1529, List.forall_mem_cons.mpr ⟨gw_1530, List.forall_mem_cons.mpr ⟨gw_1531, List.forall_mem_cons.mpr ⟨gw_1532, List.forall_mem_cons.mpr ⟨gw_1533, fun _ h => absurd h List.not_mem_nil⟩⟩⟩⟩⟩⟩
theorem inJx4a65c : ∀ w ∈ u_ws RJx4a65c TJx4a65c 3, w ∈ gw := List.forall_mem_cons.mpr ⟨gw_292, List.forall_mem_cons.mpr ⟨gw_288, List.forall_mem_cons.mpr ⟨gw_290, fun _ h => absurd h List.not_mem_nil⟩⟩⟩
theorem inX1 : ∀ w ∈ u_ws RX1 TX1 4, w ∈ gw := List.forall_mem_cons.mpr ⟨gw_1204, List.forall_mem_cons.mpr ⟨gw_1206, List.forall_mem_cons.mpr ⟨gw_1208, List.forall_mem_cons.mpr ⟨gw_1210, fun _ h => absurd h List.not_mem_nil⟩⟩⟩⟩
theorem inX2 : ∀ w ∈ u_ws RX2 TX2 4, w ∈ gw := List.forall_mem_cons.mpr ⟨gw_132, List.forall_mem_cons.mpr ⟨gw_134, List.forall_mem_cons.mpr ⟨gw_136, List.forall_mem_cons.mpr ⟨gw_138, fun _ h => absurd h List.not_mem_nil⟩⟩⟩⟩
theorem inX3 : ∀ w ∈ u_ws RX3 TX3 2, w ∈ gw := List.forall_mem_cons.mpr ⟨gw_232, List.forall_mem_cons.mpr ⟨gw_234, fun _ h => absurd h List.not_mem_nil⟩⟩
theorem inX5 : ∀ w ∈ u_ws RX5 TX5 6, w ∈ gw := List.forall_mem_cons.mpr ⟨gw_166, List.forall_mem_cons.mpr ⟨gw_168, List.forall_mem_cons.mpr ⟨gw_170, List.forall_mem_cons.mpr ⟨gw_172, List.forall_mem_cons.mpr ⟨gw_174, List.forall_mem_cons.mpr ⟨gw_176, fun _ h => absurd h List.not_mem_nil⟩⟩⟩⟩⟩⟩
theorem inX6 : ∀ w ∈ u_ws RX6 TX6 5, w ∈ gw := List.forall_mem_cons.mpr ⟨gw_302, List.forall_mem_cons.mpr ⟨gw_304, List.forall_mem_cons.mpr ⟨gw_306, List.forall_mem_cons.mpr ⟨gw_308, List.forall_mem_cons.mpr ⟨gw_310, fun _ h => absurd h List.not_mem_nil⟩⟩⟩⟩⟩
theorem inX7 : ∀ w ∈ u_ws RX7 TX7 11, w ∈ gw := List.forall_mem_cons.mpr ⟨gw_197, List.forall_mem_cons.mpr ⟨gw_199, List.forall_mem_cons.mpr ⟨gw_201, List.forall_mem_cons.mpr ⟨gw_203, List.forall_mem_cons.mpr ⟨gw_205, List.forall_mem_cons.mpr ⟨gw_207, List.forall_mem_cons.mpr ⟨gw_209, List.forall_mem_cons.mpr ⟨gw_211, List.forall_mem_cons.mpr ⟨gw_213, List.forall_mem_cons.mpr ⟨gw_215, List.forall_mem_cons.mpr ⟨gw_217, fun _ h => absurd h List.not_mem_nil⟩⟩⟩⟩⟩⟩⟩⟩⟩⟩⟩
theorem inX8 : ∀ w ∈ u_ws RX8 TX8 6, w ∈ gw := List.forall_mem_cons.mpr ⟨gw_249, List.forall_mem_cons.mpr ⟨gw_251, List.forall_mem_cons.mpr ⟨gw_253, List.forall_mem_cons.mpr ⟨gw_255, List.forall_mem_cons.mpr ⟨gw_257, List.forall_mem_cons.mpr ⟨gw_259, fun _ h => absurd h List.not_mem_nil⟩⟩⟩⟩⟩⟩
theorem inX9 : ∀ w ∈ u_ws RX9 TX9 9, w ∈ gw := List.forall_mem_cons.mpr ⟨gw_355, List.forall_mem_cons.mpr ⟨gw_357, List.forall_mem_cons.mpr ⟨gw_359, List.forall_mem_cons.mpr ⟨gw_361, List.forall_mem_cons.mpr ⟨gw_363, List.forall_mem_cons.mpr ⟨gw_365, List.forall_mem_cons.mpr ⟨gw_367, List.forall_mem_cons.mpr ⟨gw_369, List.forall_mem_cons.mpr ⟨gw_371, fun _ h => absurd h List.not_mem_nil⟩⟩⟩⟩⟩⟩⟩⟩⟩
section CXT
variable {p : Program} {l : Launch} {e : Env} {R : Room} {s : State} {m : MethodId} {args : Array Value} {below : List Frame} {meth : Method} {c : Code} {H : Heap} {locs : List Loc} {cells slots : Nat} {Q : State → Prop} {cc : ByteArray} {pc : Nat} {ls : Array Slot} {rest : List Value} {D : va_G} {aT : Nat → ClassId} {Wd : va_W} {A : Nat → Prop} {H0 : Heap} {nL : Nat} {own : String} {a mc ms : Nat} {PX : String → va_W → Prop} {Qc : Array Value → State → Outcome → State → Prop}
/-- the classes between an exception of ours and Throwable -/
def exN : List String := ["java/lang/RuntimeException", "java/lang/Exception"]
def atOk (own : String) (ic : Nat) (X : String) : Prop := ∀ w ∈ Bundle.ownAtoms own ic X exN, w ∈ gw ∨ w ∈ nw ∨ vx_no w = false
theorem gw_g {w : Cond} (h : w ∈ gw) : goodWord w = true := (List.mem_filter.mp h).2
theorem ot_g {w : Cond} (h : w ∈ gw) : vx_ot w = true := by unfold vx_ot; rw [gw_g h, Bool.or_true]
theorem ot_n {w : Cond} (h : w ∈ nw) : vx_ot w = true := by unfold vx_ot; rw [nw_tab h, Bool.true_or]
def atOkX (own : String) (ic : Nat) (X : String) (ix : Nat) (rx : ByteArray) : Prop := ∀ w ∈ cx_oX own ic X ix rx exN, w ∈ gw ∨ w ∈ nw ∨ vx_no w = false
theorem at_splitX {ic ix : Nat} {X : String} {rx : ByteArray} (h : atOkX own ic X ix rx) {w : Cond} (hw : w ∈ cx_aX own ic X ix rx exN) : w ∈ gw ∨ w ∈ nw := by
  obtain ⟨h1, h2⟩ := List.mem_filter.mp hw
  rcases h w h1 with h3 | h3 | h3
  · exact Or.inl h3
  · exact Or.inr h3
  · rw [h3] at h2; cases h2
theorem exN_fit : ∀ n ∈ exN, Bundle.fit n = true := by decide +kernel
theorem at_split {ic : Nat} {X : String} (h : atOk own ic X) {w : Cond} (hw : w ∈ vx_atS own ic X exN) : w ∈ gw ∨ w ∈ nw := by
  obtain ⟨h1, h2⟩ := List.mem_filter.mp hw
  rcases h w h1 with h3 | h3 | h3
  · exact Or.inl h3
  · exact Or.inr h3
  · rw [h3] at h2; cases h2
theorem cx_F (hW : CxB D Wd A s.heap H locs) {t : State} (h1 : H.size ≤ t.heap.size) (h2 : ∀ q : Nat, q < H.size → t.heap[q]? = H[q]?) : va_F A s t :=
  ⟨Nat.le_trans hW.2.2.1 h1, fun q hq hA => (h2 q (Nat.lt_of_lt_of_le hq hW.2.2.1)).trans (hW.2.2.2.1 q hq hA)⟩
theorem cx_tw (hW : CxB D Wd A H0 H locs) (hK : va_K D vwCl (tyG aT) s) {t : State} (h1 : s.vm.Alike t.vm) (h2 : ∀ q : Nat, q < H.size → t.heap[q]? = H[q]?) : cxB2 D aT A Wd t := ⟨hW.1.kept (fun k q hk => h2 _ (hW.1 k q hk).lt), va_K.moved h1 hK, hW.2.1⟩
theorem cx_gr (hW : CxB D Wd A H0 H locs) {H1 : Heap} (h2 : ∀ q : Nat, q < H.size → H1[q]? = H[q]?) (hS : va_S A H0 H1 locs) : CxB D Wd A H0 H1 locs := ⟨hW.1.kept (fun k q hk => h2 _ (hW.1 k q hk).lt), hW.2.1, hS⟩
theorem cx_throw (C : CxX p c cc s args m D aT own) (hfl : l.stackTraces = false) (hex : ∀ x ∈ c.exceptionTable.toList, False) (hml : c.maxLocals = nL) (hls : ls.size = nL) (hlocks : meth.locks = false) (hZ : cZ D A s s.heap) (hW : CxB D Wd A s.heap H locs) {X text : String} {ik is ic : Nat} (hat : atOk own ic X) (hs : (own, is, text) ∈ strs) (hk : Cond.classLink own ik X ∈ gw) (hini : Cond.initialized X ∈ gw) (hcls : Bundle.fit X = true)
    (d0 : decode cc pc = .ok (.new ik, 3)) (d3 : decode cc (pc + 3) = .ok (.dup, 1)) (d4 : decode cc (pc + 4) = .ok (.ldc is, 2)) (d6 : decode cc (pc + 6) = .ok (.invokespecial ic, 3)) (d9 : decode cc (pc + 9) = .ok (.athrow, 1))
    (hR : 6 ≤ R.frames ∧ (rest.map fun v => v.category).sum + 82 ≤ R.locals ∧ cells + 1 ≤ R.cells ∧ slots + 6 ≤ R.slots) (hc : cells + 1 ≤ mc ∧ slots + 6 ≤ ms) (hPX : PX X Wd) : W p l e R s m args below meth c H locs cells slots (vx_MQ below Qc (cxX D aT PX A) args s mc ms A) (F0 m pc ls rest) := by
  obtain ⟨hx, hb, hg, hown, hK⟩ := C
  obtain ⟨sa, hsa⟩ := hZ.2.1 _ hs
  refine vx_throwS (cls := X) (names := exN) (A := A) (XC := cxX D aT PX A) hx hb hfl hown hcls exN_fit (hg _ hk) (hg _ hini) hsa (fun w hw => ?_) (fun w hw => ?_) hZ.2.2.1 hZ.2.2.2.1 hW.2.2 (hls.trans hml.symm) d0 d3 d4 d6 d9 (fun x hx => (hex x hx).elim) (show 2 + 3 < R.frames by omega) (show _ + (13 * (2 + 1) + 43) ≤ R.locals by omega) hR.2.2.1 hR.2.2.2 hlocks (fun t h1 h2 h3 => ⟨Wd, trivial, ⟨hPX, cx_tw hW hK h1 h3⟩, cx_F hW h2 h3⟩) (fun z hz => hW.2.2.2.2 z hz) hc.1 hc.2
  · rcases at_split hat hw with h | h
    · exact hg _ h
    · exact va_Nw.use (nw_tab h) (hZ.1 _ h)
  · rcases List.mem_cons.mp hw with rfl | hw
    · exact ot_g hk
    · rcases List.mem_cons.mp hw with rfl | hw
      · exact ot_g hini
      · rcases at_split hat hw with h | h
        · exact ot_g h
        · exact ot_n h
theorem cx_throwW (C : CxX p c cc s args m D aT own) (hfl : l.stackTraces = false) (hex : ∀ x ∈ c.exceptionTable.toList, False) (hml : c.maxLocals = nL) (hls : ls.size = nL) (hlocks : meth.locks = false) (hZ : cZ D A s s.heap) (hW : CxB D Wd A s.heap H locs) {X text : String} {ik is ic : Nat} (hat : atOk own ic X) (hs : (own, is, text) ∈ strs) (hk : Cond.classLink own ik X ∈ gw) (hini : Cond.initialized X ∈ gw) (hcls : Bundle.fit X = true)
    (d0 : decode cc pc = .ok (.new ik, 3)) (d3 : decode cc (pc + 3) = .ok (.dup, 1)) (d4 : decode cc (pc + 4) = .ok (.ldc_w is, 3)) (d7 : decode cc (pc + 7) = .ok (.invokespecial ic, 3)) (d10 : decode cc (pc + 10) = .ok (.athrow, 1))
    (hR : 6 ≤ R.frames ∧ (rest.map fun v => v.category).sum + 82 ≤ R.locals ∧ cells + 1 ≤ R.cells ∧ slots + 6 ≤ R.slots) (hc : cells + 1 ≤ mc ∧ slots + 6 ≤ ms) (hPX : PX X Wd) : W p l e R s m args below meth c H locs cells slots (vx_MQ below Qc (cxX D aT PX A) args s mc ms A) (F0 m pc ls rest) := by
  obtain ⟨hx, hb, hg, hown, hK⟩ := C
  obtain ⟨sa, hsa⟩ := hZ.2.1 _ hs
  refine vx_throwSW (cls := X) (names := exN) (A := A) (XC := cxX D aT PX A) hx hb hfl hown hcls exN_fit (hg _ hk) (hg _ hini) hsa (fun w hw => ?_) (fun w hw => ?_) hZ.2.2.1 hZ.2.2.2.1 hW.2.2 (hls.trans hml.symm) d0 d3 d4 d7 d10 (fun x hx => (hex x hx).elim) (show 2 + 3 < R.frames by omega) (show _ + (13 * (2 + 1) + 43) ≤ R.locals by omega) hR.2.2.1 hR.2.2.2 hlocks (fun t h1 h2 h3 => ⟨Wd, trivial, ⟨hPX, cx_tw hW hK h1 h3⟩, cx_F hW h2 h3⟩) (fun z hz => hW.2.2.2.2 z hz) hc.1 hc.2
  · rcases at_split hat hw with h | h
    · exact hg _ h
    · exact va_Nw.use (nw_tab h) (hZ.1 _ h)
  · rcases List.mem_cons.mp hw with rfl | hw
    · exact ot_g hk
    · rcases List.mem_cons.mp hw with rfl | hw
      · exact ot_g hini
      · rcases at_split hat hw with h | h
        · exact ot_g h
        · exact ot_n h
/-- thrown by a callee, not caught here -/
theorem cx_out (C : CxX p c cc s args m D aT own) (hex : ∀ x ∈ c.exceptionTable.toList, False) (hlocks : meth.locks = false) (hW : CxB D Wd A s.heap H locs) {E : String} {ce : Cell} {q9 : Addr} (hcell : H[q9]? = some ce) (hv : ce.vm = .none) (hcl : s.vm.findClass E = some ce.cls) (hc : cells ≤ mc ∧ slots ≤ ms) (hPX : PX E Wd) : vx_W p l e R s m args below meth c H locs cells slots (vx_MQ below Qc (cxX D aT PX A) args s mc ms A) (F0 m pc ls rest) q9 := by
  obtain ⟨hx, hb, hg, hown, hK⟩ := C
  exact vx_out (XC := cxX D aT PX A) (fun x hx => (hex x hx).elim) hlocks hcell hv hcl (fun t ht h1 => ⟨Wd, trivial, ⟨hPX, by rw [ht]; exact hW.1, va_K.moved h1 hK, hW.2.1⟩, hW.2.2.F ht⟩) (fun z hz => hW.2.2.2.2 z hz) hc.1 hc.2
theorem cx_throwX (C : CxX p c cc s args m D aT own) (hfl : l.stackTraces = false) (hex : ∀ x ∈ c.exceptionTable.toList, False) (hml : c.maxLocals = nL) (hls : ls.size = nL) (hlocks : meth.locks = false) (hZ : cZ D A s s.heap) (hW : CxB D Wd A s.heap H locs) {X text : String} {ik is ic ix : Nat} {rx : ByteArray} (x0 : decode rx 0 = .ok (.aload_n 0, 1)) (x1 : decode rx 1 = .ok (.aload_n 1, 1)) (x2 : decode rx 2 = .ok (.invokespecial ix, 3)) (x5 : decode rx 5 = .ok (.return_, 1)) (hat : atOkX own ic X ix rx) (hs : (own, is, text) ∈ strs) (hk : Cond.classLink own ik X ∈ gw) (hini : Cond.initialized X ∈ gw) (hcls : Bundle.fit X = true)
    (d0 : decode cc pc = .ok (.new ik, 3)) (d3 : decode cc (pc + 3) = .ok (.dup, 1)) (d4 : decode cc (pc + 4) = .ok (.ldc is, 2)) (d6 : decode cc (pc + 6) = .ok (.invokespecial ic, 3)) (d9 : decode cc (pc + 9) = .ok (.athrow, 1))
    (hR : 6 ≤ R.frames ∧ (rest.map fun v => v.category).sum + 82 ≤ R.locals ∧ cells + 1 ≤ R.cells ∧ slots + 6 ≤ R.slots) (hc : cells + 1 ≤ mc ∧ slots + 6 ≤ ms) (hPX : PX X Wd) : W p l e R s m args below meth c H locs cells slots (vx_MQ below Qc (cxX D aT PX A) args s mc ms A) (F0 m pc ls rest) := by
  have C' := C
  obtain ⟨hx, hb, hg, hown, hK⟩ := C
  obtain ⟨sa, hsa⟩ := hZ.2.1 _ hs
  refine cx_makeX (cls := X) (names := exN) (A := A) hx hb hfl x0 x1 x2 x5 hown hcls exN_fit (hg _ hk) (hg _ hini) hsa (fun w hw => ?_) (fun w hw => ?_) hZ.2.2.1 hZ.2.2.2.1 hW.2.2 (hls.trans hml.symm) d0 d3 d4 d6 (show 2 + 3 < R.frames by omega) (show _ + (13 * (2 + 1) + 43) ≤ R.locals by omega) hR.2.2.1 hR.2.2.2 (fun q ce H1 h1 h2 h3 h4 hS1 => vx_athrow hx hb d9 (cx_out C' hex hlocks (cx_gr hW h4 hS1) h1 h2 h3 hc hPX))
  · rcases at_splitX hat hw with h | h
    · exact hg _ h
    · exact va_Nw.use (nw_tab h) (hZ.1 _ h)
  · rcases List.mem_cons.mp hw with rfl | hw
    · exact ot_g hk
    · rcases List.mem_cons.mp hw with rfl | hw
      · exact ot_g hini
      · rcases at_splitX hat hw with h | h
        · exact ot_g h
        · exact ot_n h
theorem cx_throwXW (C : CxX p c cc s args m D aT own) (hfl : l.stackTraces = false) (hex : ∀ x ∈ c.exceptionTable.toList, False) (hml : c.maxLocals = nL) (hls : ls.size = nL) (hlocks : meth.locks = false) (hZ : cZ D A s s.heap) (hW : CxB D Wd A s.heap H locs) {X text : String} {ik is ic ix : Nat} {rx : ByteArray} (x0 : decode rx 0 = .ok (.aload_n 0, 1)) (x1 : decode rx 1 = .ok (.aload_n 1, 1)) (x2 : decode rx 2 = .ok (.invokespecial ix, 3)) (x5 : decode rx 5 = .ok (.return_, 1)) (hat : atOkX own ic X ix rx) (hs : (own, is, text) ∈ strs) (hk : Cond.classLink own ik X ∈ gw) (hini : Cond.initialized X ∈ gw) (hcls : Bundle.fit X = true)
    (d0 : decode cc pc = .ok (.new ik, 3)) (d3 : decode cc (pc + 3) = .ok (.dup, 1)) (d4 : decode cc (pc + 4) = .ok (.ldc_w is, 3)) (d6 : decode cc (pc + 7) = .ok (.invokespecial ic, 3)) (d9 : decode cc (pc + 10) = .ok (.athrow, 1))
    (hR : 6 ≤ R.frames ∧ (rest.map fun v => v.category).sum + 82 ≤ R.locals ∧ cells + 1 ≤ R.cells ∧ slots + 6 ≤ R.slots) (hc : cells + 1 ≤ mc ∧ slots + 6 ≤ ms) (hPX : PX X Wd) : W p l e R s m args below meth c H locs cells slots (vx_MQ below Qc (cxX D aT PX A) args s mc ms A) (F0 m pc ls rest) := by
  have C' := C
  obtain ⟨hx, hb, hg, hown, hK⟩ := C
  obtain ⟨sa, hsa⟩ := hZ.2.1 _ hs
  refine cx_makeXW (cls := X) (names := exN) (A := A) hx hb hfl x0 x1 x2 x5 hown hcls exN_fit (hg _ hk) (hg _ hini) hsa (fun w hw => ?_) (fun w hw => ?_) hZ.2.2.1 hZ.2.2.2.1 hW.2.2 (hls.trans hml.symm) d0 d3 d4 d6 (show 2 + 3 < R.frames by omega) (show _ + (13 * (2 + 1) + 43) ≤ R.locals by omega) hR.2.2.1 hR.2.2.2 (fun q ce H1 h1 h2 h3 h4 hS1 => vx_athrow hx hb d9 (cx_out C' hex hlocks (cx_gr hW h4 hS1) h1 h2 h3 hc hPX))
  · rcases at_splitX hat hw with h | h
    · exact hg _ h
    · exact va_Nw.use (nw_tab h) (hZ.1 _ h)
  · rcases List.mem_cons.mp hw with rfl | hw
    · exact ot_g hk
    · rcases List.mem_cons.mp hw with rfl | hw
      · exact ot_g hini
      · rcases at_splitX hat hw with h | h
        · exact ot_g h
        · exact ot_n h
theorem cx_fm {is : List Nat} {w : va_W} (h : is.map (fun i => Wd[i]?) = w.map some) : is.filterMap (fun i => Wd[i]?) = w := by
  have h1 : is.filterMap (fun i => Wd[i]?) = (is.map (fun i => Wd[i]?)).filterMap id := by rw [List.filterMap_map]; rfl
  rw [h1, h, List.filterMap_map]
  show w.filterMap (fun x => some x) = w
  exact List.filterMap_some
theorem cx_sub (C : CxX p c cc s args m D aT own) (hZ : cZ D A s s.heap) (hW : CxB D Wd A s.heap H locs) (hA : ∀ q, s.heap.size ≤ q → A q) {Wc : va_W} (is : List Nat) (his : is.map (fun i => Wd[i]?) = Wc.map some) (hnd : va_nd is = true) {U : State} (hU : U.heap = H) (hw : s.WarmedH U.vm) : cxB1 D aT Wc H.size U := by
  obtain ⟨hx, hb, hg, hown, hK⟩ := C
  refine ⟨by rw [hU], by rw [hU]; exact hW.1.sub is (cx_fm his), va_K.moved hw.alike hK, (hW.2.1.sub is hnd his).weaken (fun _ _ _ _ => trivial), ?_⟩
  rw [hU]
  exact cZ.to hZ hW.2.2.2.1 hw (va_free hW.2.1 hW.2.2 hA is his)
section CALLS
variable {y : MethodName} {b : ByteArray} {L : Nat} {ret : Option FieldType} {fr mc1 ms1 lo idx n : Nat} {As st : List Value} {Wc Wr : va_W} {Qk : CxQ} {PX1 : String → va_W → Prop} {Cn : String}
theorem cx_runV (C : CxX p c cc s args m D aT own) (hml : c.maxLocals = nL) (hls : ls.size = nL) (hZ : cZ D A s s.heap) (hW : CxB D Wd A s.heap H locs) (hA : ∀ q, s.heap.size ≤ q → A q) (hM : CxG l y b L ret fr mc1 ms1 lo D aT (.ref a :: As) Wc Qk PX1)
    (hT : GoodIn gw (wsV own idx Cn y (Cond.code y b L ret :: gw))) (hd : y.cls = Cn ∧ y.cls ≠ "java/lang/invoke/MethodHandle" ∧ y.cls ≠ "java/lang/invoke/VarHandle" ∧ (parseMethodDescriptor y.desc).map (fun d => d.parameters.length) = some n) (hn : As.length = n)
    (hR : fr + 1 ≤ R.frames ∧ 8 + (L + 11) + lo ≤ R.locals) (hcs : cells + mc1 ≤ R.cells ∧ slots + ms1 ≤ R.slots) (is : List Nat) (his : is.map (fun i => Wd[i]?) = Wc.map some) (hnd : va_nd is = true) (r0 ci : Nat) {q : vw_C} {fs : List Value} (hci : vwCl[ci]? = some q) (hq : q.1 = Cn) (hrec : Wd[r0]? = some (a, .inr (ci, fs)))
    (hst : st = As.reverse ++ .ref a :: rest) (hw : (rest.map fun v => v.category).sum ≤ 8) (hdg : decode cc pc = .ok (.invokevirtual idx, 3)) : vx_Run p l e R s m args below meth c H locs cells slots mc1 ms1 (F0 m pc ls st) rest (Qk (va_A Wc H.size) (Value.ref a :: As).toArray) (cxX D aT PX1 (va_A Wc H.size)) (va_A Wc H.size) := by
  have C' := C
  obtain ⟨hx, hb, hg, hown, hK⟩ := C
  subst hst
  subst hq
  exact vx_runV (As := As) (rest := rest) ⟨hx, hb, hml, hown, hg⟩ (hM H.size) (cwV n hg hT rfl rfl rfl hd hR) ⟨cx_blind _ _, va_recv hK hW.1 hci hrec, fun U hU hw => ⟨rfl, cx_sub C' hZ hW hA is his hnd hU hw⟩⟩ rfl hn hls rfl (lv_room hw) hdg hcs
theorem cx_runS (C : CxX p c cc s args m D aT own) (hml : c.maxLocals = nL) (hls : ls.size = nL) (hZ : cZ D A s s.heap) (hW : CxB D Wd A s.heap H locs) (hA : ∀ q, s.heap.size ≤ q → A q) (hM : CxG l y b L ret fr mc1 ms1 lo D aT As Wc Qk PX1)
    (hT : GoodIn gw (va_wsS own idx y (Cond.code y b L ret :: gw))) (hd : y.cls ≠ "java/lang/invoke/MethodHandle" ∧ y.cls ≠ "java/lang/invoke/VarHandle" ∧ (parseMethodDescriptor y.desc).map (fun d => d.parameters.length) = some n) (hn : As.length = n)
    (hR : fr + 1 ≤ R.frames ∧ 8 + (L + 11) + lo ≤ R.locals) (hcs : cells + mc1 ≤ R.cells ∧ slots + ms1 ≤ R.slots) (is : List Nat) (his : is.map (fun i => Wd[i]?) = Wc.map some) (hnd : va_nd is = true)
    (hst : st = As.reverse ++ rest) (hw : (rest.map fun v => v.category).sum ≤ 8) (hdg : decode cc pc = .ok (.invokestatic idx, 3)) : vx_Run p l e R s m args below meth c H locs cells slots mc1 ms1 (F0 m pc ls st) rest (Qk (va_A Wc H.size) As.toArray) (cxX D aT PX1 (va_A Wc H.size)) (va_A Wc H.size) := by
  have C' := C
  obtain ⟨hx, hb, hg, hown, hK⟩ := C
  subst hst
  exact vx_runS (As := As) (rest := rest) ⟨hx, hb, hml, hown, hg⟩ (hM H.size) (va_cwS n hg hT rfl rfl rfl hd hR) ⟨cx_blind _ _, fun U hU hw => ⟨rfl, cx_sub C' hZ hW hA is his hnd hU hw⟩⟩ rfl hn hls rfl (lv_room hw) hdg hcs
theorem cx_runI (C : CxX p c cc s args m D aT own) (hml : c.maxLocals = nL) (hls : ls.size = nL) (hZ : cZ D A s s.heap) (hW : CxB D Wd A s.heap H locs) (hA : ∀ q, s.heap.size ≤ q → A q) (hM : CxG l y b L none fr mc1 ms1 lo D aT (.ref a :: As) Wc Qk PX1)
    (hT : GoodIn gw (Cond.code y b L none :: gw)) (hini : Cond.initialized y.cls ∈ gw) (hlk : Cond.methodLink own idx y ∈ gw) (hin : Cond.instanceMethod y ∈ gw) (hy : y.name = "<init>") (hd : y.cls ≠ "java/lang/invoke/MethodHandle" ∧ y.cls ≠ "java/lang/invoke/VarHandle" ∧ (parseMethodDescriptor y.desc).map (fun d => d.parameters.length) = some n) (hn : As.length = n)
    (hR : fr + 1 ≤ R.frames ∧ 8 + (L + 11) + lo ≤ R.locals) (hcs : cells + mc1 ≤ R.cells ∧ slots + ms1 ≤ R.slots) (is : List Nat) (his : is.map (fun i => Wd[i]?) = Wc.map some) (hnd : va_nd is = true)
    (hst : st = As.reverse ++ .ref a :: rest) (hw : (rest.map fun v => v.category).sum ≤ 8) (hdg : decode cc pc = .ok (.invokespecial idx, 3)) : vx_Run p l e R s m args below meth c H locs cells slots mc1 ms1 (F0 m pc ls st) rest (Qk (va_A Wc H.size) (Value.ref a :: As).toArray) (cxX D aT PX1 (va_A Wc H.size)) (va_A Wc H.size) := by
  have C' := C
  obtain ⟨hx, hb, hg, hown, hK⟩ := C
  subst hst
  exact vx_runI (As := As) (rest := rest) ⟨hx, hb, hml, hown, hg⟩ (hM H.size) (cwI n hg hT rfl rfl rfl (hg _ hini) (hg _ hlk) (hg _ hin) hy hd hR) ⟨cx_blind _ _, fun U hU hw => ⟨rfl, cx_sub C' hZ hW hA is his hnd hU hw⟩⟩ rfl hn hls rfl (lv_room hw) hdg hcs
/-- behind a call: the rest, and the callee's world -/
theorem cx_back (hW : CxB D Wd A s.heap H locs) (hA : ∀ q, s.heap.size ≤ q → A q) (is isR : List Nat) (his : is.map (fun i => Wd[i]?) = Wc.map some) (hR : isR.map (fun i => Wd[i]?) = Wr.map some) (hn : va_nd isR = true) (hdis : ∀ i ∈ isR, i ∉ is) {W1 : va_W} {t : State} {H1 : Heap} {locs1 : List Loc} (ht : t.heap = H1) (hB : cxB2 D aT (va_A Wc H.size) W1 t) (hk : ∀ q : Nat, q < H.size → ¬ va_A Wc H.size q → H1[q]? = H[q]?) (hS1 : va_S A s.heap H1 locs1) : CxB D (Wr ++ W1) A s.heap H1 locs1 := by
  obtain ⟨hP1, hK1, hD1⟩ := hB
  rw [ht] at hP1
  obtain ⟨h1, h2⟩ := va_join hW.1 hW.2.1 is isR his hR hn hdis hk (va_free hW.2.1 hW.2.2 hA is his) hP1 hD1
  exact ⟨h1, h2, hS1⟩
theorem cx_calli {a' : Array Value} {post : Int32 → va_W → Prop} (hr : vx_Run p l e R s m args below meth c H locs cells slots mc1 ms1 (F0 m pc ls st) rest (qI D aT post (va_A Wc H.size) a') (cxX D aT PX1 (va_A Wc H.size)) (va_A Wc H.size)) (hW : CxB D Wd A s.heap H locs) (hA : ∀ q, s.heap.size ≤ q → A q) (is isR : List Nat) (his : is.map (fun i => Wd[i]?) = Wc.map some) (hR : isR.map (fun i => Wd[i]?) = Wr.map some) (hn : va_nd isR = true) (hdis : ∀ i ∈ isR, i ∉ is)
    (kx : ∀ (E : String) (ce : Cell) (q9 : Addr) (W1 : va_W) (H1 : Heap) (locs1 : List Loc), PX1 E W1 → CxB D (Wr ++ W1) A s.heap H1 locs1 → H1[q9]? = some ce → ce.vm = .none → s.vm.findClass E = some ce.cls → vx_W p l e R s m args below meth c H1 locs1 (cells + mc1) (slots + ms1) Q (F0 m pc ls rest) q9)
    (kk : ∀ (r : Int32) (W1 : va_W) (H1 : Heap) (locs1 : List Loc), post r W1 → CxB D (Wr ++ W1) A s.heap H1 locs1 → W p l e R s m args below meth c H1 locs1 (cells + mc1) (slots + ms1) Q (F0 m (pc + 3) ls (.int r :: rest))) : W p l e R s m args below meth c H locs cells slots Q (F0 m pc ls st) := by
  have hF := va_free hW.2.1 hW.2.2 hA is his
  exact vx_calli hr hW.2.2 (fun q _ h => hF q h) hF (fun q _ h => hF q h) (fun E ce q9 u t H1 locs1 ht _ _ hPX _ hk hS1 h1 h2 h3 => kx E ce q9 u H1 locs1 hPX.1 (cx_back hW hA is isR his hR hn hdis ht hPX.2 hk hS1) h1 h2 h3) (fun r u t H1 locs1 ht _ hp hB _ hk hS1 => kk r u H1 locs1 hp (cx_back hW hA is isR his hR hn hdis ht hB hk hS1))
theorem cx_calll {a' : Array Value} {post : Int64 → va_W → Prop} (hr : vx_Run p l e R s m args below meth c H locs cells slots mc1 ms1 (F0 m pc ls st) rest (qL D aT post (va_A Wc H.size) a') (cxX D aT PX1 (va_A Wc H.size)) (va_A Wc H.size)) (hW : CxB D Wd A s.heap H locs) (hA : ∀ q, s.heap.size ≤ q → A q) (is isR : List Nat) (his : is.map (fun i => Wd[i]?) = Wc.map some) (hR : isR.map (fun i => Wd[i]?) = Wr.map some) (hn : va_nd isR = true) (hdis : ∀ i ∈ isR, i ∉ is)
    (kx : ∀ (E : String) (ce : Cell) (q9 : Addr) (W1 : va_W) (H1 : Heap) (locs1 : List Loc), PX1 E W1 → CxB D (Wr ++ W1) A s.heap H1 locs1 → H1[q9]? = some ce → ce.vm = .none → s.vm.findClass E = some ce.cls → vx_W p l e R s m args below meth c H1 locs1 (cells + mc1) (slots + ms1) Q (F0 m pc ls rest) q9)
    (kk : ∀ (r : Int64) (W1 : va_W) (H1 : Heap) (locs1 : List Loc), post r W1 → CxB D (Wr ++ W1) A s.heap H1 locs1 → W p l e R s m args below meth c H1 locs1 (cells + mc1) (slots + ms1) Q (F0 m (pc + 3) ls (.long r :: rest))) : W p l e R s m args below meth c H locs cells slots Q (F0 m pc ls st) := by
  have hF := va_free hW.2.1 hW.2.2 hA is his
  exact vx_calll hr hW.2.2 (fun q _ h => hF q h) hF (fun q _ h => hF q h) (fun E ce q9 u t H1 locs1 ht _ _ hPX _ hk hS1 h1 h2 h3 => kx E ce q9 u H1 locs1 hPX.1 (cx_back hW hA is isR his hR hn hdis ht hPX.2 hk hS1) h1 h2 h3) (fun r u t H1 locs1 ht _ hp hB _ hk hS1 => kk r u H1 locs1 hp (cx_back hW hA is isR his hR hn hdis ht hB hk hS1))
theorem cx_calld {a' : Array Value} {post : UInt64 → va_W → Prop} (hr : vx_Run p l e R s m args below meth c H locs cells slots mc1 ms1 (F0 m pc ls st) rest (qD D aT post (va_A Wc H.size) a') (cxX D aT PX1 (va_A Wc H.size)) (va_A Wc H.size)) (hW : CxB D Wd A s.heap H locs) (hA : ∀ q, s.heap.size ≤ q → A q) (is isR : List Nat) (his : is.map (fun i => Wd[i]?) = Wc.map some) (hR : isR.map (fun i => Wd[i]?) = Wr.map some) (hn : va_nd isR = true) (hdis : ∀ i ∈ isR, i ∉ is)
    (kx : ∀ (E : String) (ce : Cell) (q9 : Addr) (W1 : va_W) (H1 : Heap) (locs1 : List Loc), PX1 E W1 → CxB D (Wr ++ W1) A s.heap H1 locs1 → H1[q9]? = some ce → ce.vm = .none → s.vm.findClass E = some ce.cls → vx_W p l e R s m args below meth c H1 locs1 (cells + mc1) (slots + ms1) Q (F0 m pc ls rest) q9)
    (kk : ∀ (r : UInt64) (W1 : va_W) (H1 : Heap) (locs1 : List Loc), post r W1 → CxB D (Wr ++ W1) A s.heap H1 locs1 → W p l e R s m args below meth c H1 locs1 (cells + mc1) (slots + ms1) Q (F0 m (pc + 3) ls (.double r :: rest))) : W p l e R s m args below meth c H locs cells slots Q (F0 m pc ls st) := by
  have hF := va_free hW.2.1 hW.2.2 hA is his
  exact vx_calld hr hW.2.2 (fun q _ h => hF q h) hF (fun q _ h => hF q h) (fun E ce q9 u t H1 locs1 ht _ _ hPX _ hk hS1 h1 h2 h3 => kx E ce q9 u H1 locs1 hPX.1 (cx_back hW hA is isR his hR hn hdis ht hPX.2 hk hS1) h1 h2 h3) (fun r u t H1 locs1 ht _ hp hB _ hk hS1 => kk r u H1 locs1 hp (cx_back hW hA is isR his hR hn hdis ht hB hk hS1))
theorem cx_callf {a' : Array Value} {post : UInt32 → va_W → Prop} (hr : vx_Run p l e R s m args below meth c H locs cells slots mc1 ms1 (F0 m pc ls st) rest (qF D aT post (va_A Wc H.size) a') (cxX D aT PX1 (va_A Wc H.size)) (va_A Wc H.size)) (hW : CxB D Wd A s.heap H locs) (hA : ∀ q, s.heap.size ≤ q → A q) (is isR : List Nat) (his : is.map (fun i => Wd[i]?) = Wc.map some) (hR : isR.map (fun i => Wd[i]?) = Wr.map some) (hn : va_nd isR = true) (hdis : ∀ i ∈ isR, i ∉ is)
    (kx : ∀ (E : String) (ce : Cell) (q9 : Addr) (W1 : va_W) (H1 : Heap) (locs1 : List Loc), PX1 E W1 → CxB D (Wr ++ W1) A s.heap H1 locs1 → H1[q9]? = some ce → ce.vm = .none → s.vm.findClass E = some ce.cls → vx_W p l e R s m args below meth c H1 locs1 (cells + mc1) (slots + ms1) Q (F0 m pc ls rest) q9)
    (kk : ∀ (r : UInt32) (W1 : va_W) (H1 : Heap) (locs1 : List Loc), post r W1 → CxB D (Wr ++ W1) A s.heap H1 locs1 → W p l e R s m args below meth c H1 locs1 (cells + mc1) (slots + ms1) Q (F0 m (pc + 3) ls (.float r :: rest))) : W p l e R s m args below meth c H locs cells slots Q (F0 m pc ls st) := by
  have hF := va_free hW.2.1 hW.2.2 hA is his
  exact vx_callf hr hW.2.2 (fun q _ h => hF q h) hF (fun q _ h => hF q h) (fun E ce q9 u t H1 locs1 ht _ _ hPX _ hk hS1 h1 h2 h3 => kx E ce q9 u H1 locs1 hPX.1 (cx_back hW hA is isR his hR hn hdis ht hPX.2 hk hS1) h1 h2 h3) (fun r u t H1 locs1 ht _ hp hB _ hk hS1 => kk r u H1 locs1 hp (cx_back hW hA is isR his hR hn hdis ht hB hk hS1))
theorem cx_callv {a' : Array Value} {post : va_W → Prop} (hr : vx_Run p l e R s m args below meth c H locs cells slots mc1 ms1 (F0 m pc ls st) rest (qV D aT post (va_A Wc H.size) a') (cxX D aT PX1 (va_A Wc H.size)) (va_A Wc H.size)) (hW : CxB D Wd A s.heap H locs) (hA : ∀ q, s.heap.size ≤ q → A q) (is isR : List Nat) (his : is.map (fun i => Wd[i]?) = Wc.map some) (hR : isR.map (fun i => Wd[i]?) = Wr.map some) (hn : va_nd isR = true) (hdis : ∀ i ∈ isR, i ∉ is)
    (kx : ∀ (E : String) (ce : Cell) (q9 : Addr) (W1 : va_W) (H1 : Heap) (locs1 : List Loc), PX1 E W1 → CxB D (Wr ++ W1) A s.heap H1 locs1 → H1[q9]? = some ce → ce.vm = .none → s.vm.findClass E = some ce.cls → vx_W p l e R s m args below meth c H1 locs1 (cells + mc1) (slots + ms1) Q (F0 m pc ls rest) q9)
    (kk : ∀ (W1 : va_W) (H1 : Heap) (locs1 : List Loc), post W1 → CxB D (Wr ++ W1) A s.heap H1 locs1 → W p l e R s m args below meth c H1 locs1 (cells + mc1) (slots + ms1) Q (F0 m (pc + 3) ls rest)) : W p l e R s m args below meth c H locs cells slots Q (F0 m pc ls st) := by
  have hF := va_free hW.2.1 hW.2.2 hA is his
  exact vx_callv hr hW.2.2 (fun q _ h => hF q h) hF (fun q _ h => hF q h) (fun E ce q9 u t H1 locs1 ht _ _ hPX _ hk hS1 h1 h2 h3 => kx E ce q9 u H1 locs1 hPX.1 (cx_back hW hA is isR his hR hn hdis ht hPX.2 hk hS1) h1 h2 h3) (fun u t H1 locs1 ht _ hp hB _ hk hS1 => kk u H1 locs1 hp (cx_back hW hA is isR his hR hn hdis ht hB hk hS1))
theorem cx_callr {a' : Array Value} {post : Option Nat → va_W → Prop} (hr : vx_Run p l e R s m args below meth c H locs cells slots mc1 ms1 (F0 m pc ls st) rest (qR D aT post (va_A Wc H.size) a') (cxX D aT PX1 (va_A Wc H.size)) (va_A Wc H.size)) (hW : CxB D Wd A s.heap H locs) (hA : ∀ q, s.heap.size ≤ q → A q) (is isR : List Nat) (his : is.map (fun i => Wd[i]?) = Wc.map some) (hR : isR.map (fun i => Wd[i]?) = Wr.map some) (hn : va_nd isR = true) (hdis : ∀ i ∈ isR, i ∉ is)
    (kx : ∀ (E : String) (ce : Cell) (q9 : Addr) (W1 : va_W) (H1 : Heap) (locs1 : List Loc), PX1 E W1 → CxB D (Wr ++ W1) A s.heap H1 locs1 → H1[q9]? = some ce → ce.vm = .none → s.vm.findClass E = some ce.cls → vx_W p l e R s m args below meth c H1 locs1 (cells + mc1) (slots + ms1) Q (F0 m pc ls rest) q9)
    (kk : ∀ (r : Option Nat) (W1 : va_W) (H1 : Heap) (locs1 : List Loc), post r W1 → CxB D (Wr ++ W1) A s.heap H1 locs1 → W p l e R s m args below meth c H1 locs1 (cells + mc1) (slots + ms1) Q (F0 m (pc + 3) ls (va_rf r :: rest))) : W p l e R s m args below meth c H locs cells slots Q (F0 m pc ls st) := by
  have hF := va_free hW.2.1 hW.2.2 hA is his
  exact vx_callq hr hW.2.2 (fun q _ h => hF q h) hF (fun q _ h => hF q h) (fun E ce q9 u t H1 locs1 ht _ _ hPX _ hk hS1 h1 h2 h3 => kx E ce q9 u H1 locs1 hPX.1 (cx_back hW hA is isR his hR hn hdis ht hPX.2 hk hS1) h1 h2 h3) (fun r u t H1 locs1 ht _ hp hB _ hk hS1 => kk r u H1 locs1 hp (cx_back hW hA is isR his hR hn hdis ht hB hk hS1))
end CALLS
theorem cx_iret (C : CxX p c cc s args m D aT own) {ty : FieldType} (hr : meth.sig.returnType = some ty) (hlocks : meth.locks = false) {post : Int32 → va_W → Prop} {v : Int32} (hn : narrow ty (.int v) = .int v) (hW : CxB D Wd A s.heap H locs) (hc : cells ≤ mc ∧ slots ≤ ms) (hq : post v Wd) (hdg : decode cc pc = .ok (.ireturn, 1)) : W p l e R s m args below meth c H locs cells slots (vx_MQ below (qI D aT post A) (cxX D aT PX A) args s mc ms A) (F0 m pc ls [.int v]) := by
  obtain ⟨hx, hb, hg, hown, hK⟩ := C
  refine W.widen (k := mc) (n := ms) hc.1 hc.2 (vx_ret ?_)
  exact W.zret (v := v) hx hb hr hn (fun t ht hW' => ⟨⟨v, Wd, rfl, hq, by rw [ht]; exact hW.1, va_K.moved hW'.alike hK, hW.2.1⟩, hW.2.2.F ht⟩) hW.2.2.2.2 hdg hlocks
theorem cx_vret (C : CxX p c cc s args m D aT own) (hr : meth.sig.returnType = none) (hlocks : meth.locks = false) {post : va_W → Prop} (hW : CxB D Wd A s.heap H locs) (hc : cells ≤ mc ∧ slots ≤ ms) (hq : post Wd) (hdg : decode cc pc = .ok (.return_, 1)) : W p l e R s m args below meth c H locs cells slots (vx_MQ below (qV D aT post A) (cxX D aT PX A) args s mc ms A) (F0 m pc ls []) := by
  obtain ⟨hx, hb, hg, hown, hK⟩ := C
  refine W.widen (k := mc) (n := ms) hc.1 hc.2 (vx_ret ?_)
  exact W.vret hx hb hr (fun t ht hW' => ⟨⟨Wd, rfl, hq, by rw [ht]; exact hW.1, va_K.moved hW'.alike hK, hW.2.1⟩, hW.2.2.F ht⟩) hW.2.2.2.2 hdg hlocks
theorem cx_lret (C : CxX p c cc s args m D aT own) (hr : meth.sig.returnType = some .long) (hlocks : meth.locks = false) {post : Int64 → va_W → Prop} {v : Int64} (hW : CxB D Wd A s.heap H locs) (hc : cells ≤ mc ∧ slots ≤ ms) (hq : post v Wd) (hdg : decode cc pc = .ok (.lreturn, 1)) : W p l e R s m args below meth c H locs cells slots (vx_MQ below (qL D aT post A) (cxX D aT PX A) args s mc ms A) (F0 m pc ls [.long v]) := by
  obtain ⟨hx, hb, hg, hown, hK⟩ := C
  refine W.widen (k := mc) (n := ms) hc.1 hc.2 (vx_ret ?_)
  exact W.lret (v := v) hx hb hr (fun t ht hW' => ⟨⟨v, Wd, rfl, hq, by rw [ht]; exact hW.1, va_K.moved hW'.alike hK, hW.2.1⟩, hW.2.2.F ht⟩) hW.2.2.2.2 hdg hlocks
theorem cx_aret (C : CxX p c cc s args m D aT own) {rt : FieldType} (hr : meth.sig.returnType = some rt) (hrt : (∃ n, rt = .object n) ∨ ∃ t, rt = .array t) (hlocks : meth.locks = false) {post : Option Nat → va_W → Prop} (r : Option Nat) (hW : CxB D Wd A s.heap H locs) (hc : cells ≤ mc ∧ slots ≤ ms) (hq : post r Wd) (hdg : decode cc pc = .ok (.areturn, 1)) : W p l e R s m args below meth c H locs cells slots (vx_MQ below (qR D aT post A) (cxX D aT PX A) args s mc ms A) (F0 m pc ls [va_rf r]) := by
  obtain ⟨hx, hb, hg, hown, hK⟩ := C
  refine W.widen (k := mc) (n := ms) hc.1 hc.2 (vx_ret ?_)
  exact W.aret (v := va_rf r) hx hb hr hrt (va_rf_or r) (fun t ht hW' => ⟨⟨r, Wd, rfl, hq, by rw [ht]; exact hW.1, va_K.moved hW'.alike hK, hW.2.1⟩, hW.2.2.F ht⟩) hW.2.2.2.2 hdg hlocks
end CXT

theorem at_T : ∀ w ∈ Bundle.throwableAtoms, w ∈ gw ∨ w ∈ nw ∨ vx_no w = false := List.forall_mem_cons.mpr ⟨Or.inl gw_83, List.forall_mem_cons.mpr ⟨Or.inl gw_581, List.forall_mem_cons.mpr ⟨Or.inl gw_590, List.forall_mem_cons.mpr ⟨Or.inl (by rw [show LibCode.Throwable.Fill.code = prog_37_method_18_code by decide +kernel]; exact gw_599), List.forall_mem_cons.mpr ⟨Or.inl gw_602, List.forall_mem_cons.mpr ⟨Or.inl gw_604, List.forall_mem_cons.mpr ⟨Or.inl gw_582, List.forall_mem_cons.mpr ⟨Or.inl (by rw [show LibCode.Throwable.Init0.code = prog_37_method_1_code by decide +kernel]; exact gw_583), List.forall_mem_cons.mpr ⟨Or.inl gw_110, List.forall_mem_cons.mpr ⟨Or.inl gw_111, List.forall_mem_cons.mpr ⟨Or.inl gw_584, List.forall_mem_cons.mpr ⟨Or.inl gw_589, List.forall_mem_cons.mpr ⟨Or.inl gw_600, List.forall_mem_cons.mpr ⟨Or.inl gw_620, List.forall_mem_cons.mpr ⟨Or.inl gw_571, List.forall_mem_cons.mpr ⟨Or.inl gw_621, List.forall_mem_cons.mpr ⟨Or.inl gw_573, List.forall_mem_cons.mpr ⟨Or.inl gw_622, List.forall_mem_cons.mpr ⟨Or.inl gw_575, List.forall_mem_cons.mpr ⟨Or.inl gw_585, List.forall_mem_cons.mpr ⟨Or.inr (Or.inr (by decide +kernel)), List.forall_mem_cons.mpr ⟨Or.inl gw_587, List.forall_mem_cons.mpr ⟨Or.inr (Or.inr (by decide +kernel)), List.forall_mem_cons.mpr ⟨Or.inl gw_577, fun _ h => absurd h List.not_mem_nil⟩⟩⟩⟩⟩⟩⟩⟩⟩⟩⟩⟩⟩⟩⟩⟩⟩⟩⟩⟩⟩⟩⟩⟩
theorem at_TS : ∀ w ∈ Bundle.throwableSAtoms, w ∈ gw ∨ w ∈ nw ∨ vx_no w = false := List.forall_mem_cons.mpr ⟨Or.inl gw_616, List.forall_mem_cons.mpr ⟨Or.inl (by rw [show LibCode.Throwable.InitS.code = prog_37_method_2_code by decide +kernel]; exact gw_617), List.forall_mem_cons.mpr ⟨Or.inl gw_619, List.forall_mem_cons.mpr ⟨Or.inl gw_577, fun _ h => absurd h List.not_mem_nil⟩⟩⟩⟩
theorem at_RE : ∀ w ∈ Bundle.chainSAtoms "java/lang/RuntimeException" ["java/lang/Exception"], w ∈ gw ∨ w ∈ nw ∨ vx_no w = false := List.forall_mem_append.mpr ⟨List.forall_mem_cons.mpr ⟨Or.inl gw_610, List.forall_mem_cons.mpr ⟨Or.inl (by rw [show Bundle.six = prog_30_method_2_code by decide +kernel]; exact gw_611), List.forall_mem_cons.mpr ⟨Or.inl gw_612, List.forall_mem_cons.mpr ⟨Or.inl gw_613, List.forall_mem_cons.mpr ⟨Or.inr (Or.inl nw_565), fun _ h => absurd h List.not_mem_nil⟩⟩⟩⟩⟩, List.forall_mem_cons.mpr ⟨Or.inl gw_613, List.forall_mem_cons.mpr ⟨Or.inl (by rw [show Bundle.six = prog_22_method_2_code by decide +kernel]; exact gw_614), List.forall_mem_cons.mpr ⟨Or.inl gw_615, List.forall_mem_cons.mpr ⟨Or.inl gw_616, List.forall_mem_cons.mpr ⟨Or.inr (Or.inl nw_567), fun _ h => absurd h List.not_mem_nil⟩⟩⟩⟩⟩⟩
theorem atx_IllegalArgumentException : ∀ w ∈ Bundle.chainSAtoms "java/lang/IllegalArgumentException" exN, w ∈ gw ∨ w ∈ nw ∨ vx_no w = false := List.forall_mem_append.mpr ⟨List.forall_mem_cons.mpr ⟨Or.inl gw_607, List.forall_mem_cons.mpr ⟨Or.inl (by rw [show Bundle.six = prog_23_method_2_code by decide +kernel]; exact gw_608), List.forall_mem_cons.mpr ⟨Or.inl gw_609, List.forall_mem_cons.mpr ⟨Or.inl gw_610, List.forall_mem_cons.mpr ⟨Or.inr (Or.inl nw_563), fun _ h => absurd h List.not_mem_nil⟩⟩⟩⟩⟩, at_RE⟩
theorem aty_IllegalArgumentException {own : String} {ic : Nat} (h : Cond.methodLink own ic (Bundle.initS "java/lang/IllegalArgumentException") ∈ gw) : atOk own ic "java/lang/IllegalArgumentException" := List.forall_mem_append.mpr ⟨List.forall_mem_append.mpr ⟨List.forall_mem_append.mpr ⟨at_T, at_TS⟩, atx_IllegalArgumentException⟩, List.forall_mem_cons.mpr ⟨Or.inl h, List.forall_mem_cons.mpr ⟨Or.inl gw_560, List.forall_mem_cons.mpr ⟨Or.inr (Or.inl nw_561), List.forall_mem_cons.mpr ⟨Or.inl gw_568, List.forall_mem_cons.mpr ⟨Or.inl gw_569, List.forall_mem_cons.mpr ⟨Or.inl gw_570, List.forall_mem_cons.mpr ⟨Or.inl gw_572, List.forall_mem_cons.mpr ⟨Or.inl gw_574, List.forall_mem_cons.mpr ⟨Or.inl gw_576, List.forall_mem_cons.mpr ⟨Or.inr (Or.inr (by decide +kernel)), List.forall_mem_cons.mpr ⟨Or.inr (Or.inr (by decide +kernel)), List.forall_mem_cons.mpr ⟨Or.inl gw_580, List.forall_mem_cons.mpr ⟨Or.inl gw_579, List.forall_mem_cons.mpr ⟨Or.inl gw_578, fun _ h => absurd h List.not_mem_nil⟩⟩⟩⟩⟩⟩⟩⟩⟩⟩⟩⟩⟩⟩⟩
theorem at_X7_IllegalArgumentException : atOk "HedgeCommittee$State" 75 "java/lang/IllegalArgumentException" := aty_IllegalArgumentException gw_606
theorem atx_IllegalStateException : ∀ w ∈ Bundle.chainSAtoms "java/lang/IllegalStateException" exN, w ∈ gw ∨ w ∈ nw ∨ vx_no w = false := List.forall_mem_append.mpr ⟨List.forall_mem_cons.mpr ⟨Or.inl gw_646, List.forall_mem_cons.mpr ⟨Or.inl (by rw [show Bundle.six = prog_24_method_2_code by decide +kernel]; exact gw_647), List.forall_mem_cons.mpr ⟨Or.inl gw_648, List.forall_mem_cons.mpr ⟨Or.inl gw_610, List.forall_mem_cons.mpr ⟨Or.inr (Or.inl nw_563), fun _ h => absurd h List.not_mem_nil⟩⟩⟩⟩⟩, at_RE⟩
theorem aty_IllegalStateException {own : String} {ic : Nat} (h : Cond.methodLink own ic (Bundle.initS "java/lang/IllegalStateException") ∈ gw) : atOk own ic "java/lang/IllegalStateException" := List.forall_mem_append.mpr ⟨List.forall_mem_append.mpr ⟨List.forall_mem_append.mpr ⟨at_T, at_TS⟩, atx_IllegalStateException⟩, List.forall_mem_cons.mpr ⟨Or.inl h, List.forall_mem_cons.mpr ⟨Or.inl gw_636, List.forall_mem_cons.mpr ⟨Or.inr (Or.inl nw_637), List.forall_mem_cons.mpr ⟨Or.inl gw_638, List.forall_mem_cons.mpr ⟨Or.inl gw_594, List.forall_mem_cons.mpr ⟨Or.inl gw_639, List.forall_mem_cons.mpr ⟨Or.inl gw_640, List.forall_mem_cons.mpr ⟨Or.inl gw_641, List.forall_mem_cons.mpr ⟨Or.inl gw_642, List.forall_mem_cons.mpr ⟨Or.inr (Or.inr (by decide +kernel)), List.forall_mem_cons.mpr ⟨Or.inr (Or.inr (by decide +kernel)), List.forall_mem_cons.mpr ⟨Or.inl gw_580, List.forall_mem_cons.mpr ⟨Or.inl gw_579, List.forall_mem_cons.mpr ⟨Or.inl gw_643, fun _ h => absurd h List.not_mem_nil⟩⟩⟩⟩⟩⟩⟩⟩⟩⟩⟩⟩⟩⟩⟩
theorem at_X7_IllegalStateException : atOk "HedgeCommittee$State" 86 "java/lang/IllegalStateException" := aty_IllegalStateException gw_645
theorem atx_NoSuchElementException : ∀ w ∈ cx_chA "java/util/NoSuchElementException" 13 prog_47_method_4_code exN, w ∈ gw ∨ w ∈ nw ∨ vx_no w = false := List.forall_mem_append.mpr ⟨List.forall_mem_cons.mpr ⟨Or.inl gw_714, List.forall_mem_cons.mpr ⟨Or.inl gw_715, List.forall_mem_cons.mpr ⟨Or.inl gw_716, List.forall_mem_cons.mpr ⟨Or.inl gw_610, List.forall_mem_cons.mpr ⟨Or.inr (Or.inl nw_563), fun _ h => absurd h List.not_mem_nil⟩⟩⟩⟩⟩, at_RE⟩
theorem dx_NoSuchElementException_0 : decode prog_47_method_4_code 0 = .ok (.aload_n 0, 1) := by decide +kernel
theorem dx_NoSuchElementException_1 : decode prog_47_method_4_code 1 = .ok (.aload_n 1, 1) := by decide +kernel
theorem dx_NoSuchElementException_2 : decode prog_47_method_4_code 2 = .ok (.invokespecial 13, 3) := by decide +kernel
theorem dx_NoSuchElementException_5 : decode prog_47_method_4_code 5 = .ok (.return_, 1) := by decide +kernel
theorem aty_NoSuchElementException {own : String} {ic : Nat} (h : Cond.methodLink own ic (Bundle.initS "java/util/NoSuchElementException") ∈ gw) : atOkX own ic "java/util/NoSuchElementException" 13 prog_47_method_4_code := List.forall_mem_append.mpr ⟨List.forall_mem_append.mpr ⟨List.forall_mem_append.mpr ⟨at_T, at_TS⟩, atx_NoSuchElementException⟩, List.forall_mem_cons.mpr ⟨Or.inl h, List.forall_mem_cons.mpr ⟨Or.inl gw_704, List.forall_mem_cons.mpr ⟨Or.inr (Or.inl nw_705), List.forall_mem_cons.mpr ⟨Or.inl gw_706, List.forall_mem_cons.mpr ⟨Or.inl gw_598, List.forall_mem_cons.mpr ⟨Or.inl gw_707, List.forall_mem_cons.mpr ⟨Or.inl gw_708, List.forall_mem_cons.mpr ⟨Or.inl gw_709, List.forall_mem_cons.mpr ⟨Or.inl gw_710, List.forall_mem_cons.mpr ⟨Or.inr (Or.inr (by decide +kernel)), List.forall_mem_cons.mpr ⟨Or.inr (Or.inr (by decide +kernel)), List.forall_mem_cons.mpr ⟨Or.inl gw_580, List.forall_mem_cons.mpr ⟨Or.inl gw_579, List.forall_mem_cons.mpr ⟨Or.inl gw_711, fun _ h => absurd h List.not_mem_nil⟩⟩⟩⟩⟩⟩⟩⟩⟩⟩⟩⟩⟩⟩⟩
theorem at_X5_NoSuchElementException : atOkX "HedgeCommittee$Motions" 41 "java/util/NoSuchElementException" 13 prog_47_method_4_code := aty_NoSuchElementException gw_713
theorem atx_IndexOutOfBoundsException : ∀ w ∈ Bundle.chainSAtoms "java/lang/IndexOutOfBoundsException" exN, w ∈ gw ∨ w ∈ nw ∨ vx_no w = false := List.forall_mem_append.mpr ⟨List.forall_mem_cons.mpr ⟨Or.inl gw_804, List.forall_mem_cons.mpr ⟨Or.inl (by rw [show Bundle.six = prog_25_method_2_code by decide +kernel]; exact gw_805), List.forall_mem_cons.mpr ⟨Or.inl gw_806, List.forall_mem_cons.mpr ⟨Or.inl gw_610, List.forall_mem_cons.mpr ⟨Or.inr (Or.inl nw_563), fun _ h => absurd h List.not_mem_nil⟩⟩⟩⟩⟩, at_RE⟩
theorem aty_IndexOutOfBoundsException {own : String} {ic : Nat} (h : Cond.methodLink own ic (Bundle.initS "java/lang/IndexOutOfBoundsException") ∈ gw) : atOk own ic "java/lang/IndexOutOfBoundsException" := List.forall_mem_append.mpr ⟨List.forall_mem_append.mpr ⟨List.forall_mem_append.mpr ⟨at_T, at_TS⟩, atx_IndexOutOfBoundsException⟩, List.forall_mem_cons.mpr ⟨Or.inl h, List.forall_mem_cons.mpr ⟨Or.inl gw_836, List.forall_mem_cons.mpr ⟨Or.inr (Or.inl nw_837), List.forall_mem_cons.mpr ⟨Or.inl gw_838, List.forall_mem_cons.mpr ⟨Or.inl gw_595, List.forall_mem_cons.mpr ⟨Or.inl gw_839, List.forall_mem_cons.mpr ⟨Or.inl gw_840, List.forall_mem_cons.mpr ⟨Or.inl gw_841, List.forall_mem_cons.mpr ⟨Or.inl gw_842, List.forall_mem_cons.mpr ⟨Or.inr (Or.inr (by decide +kernel)), List.forall_mem_cons.mpr ⟨Or.inr (Or.inr (by decide +kernel)), List.forall_mem_cons.mpr ⟨Or.inl gw_580, List.forall_mem_cons.mpr ⟨Or.inl gw_579, List.forall_mem_cons.mpr ⟨Or.inl gw_843, fun _ h => absurd h List.not_mem_nil⟩⟩⟩⟩⟩⟩⟩⟩⟩⟩⟩⟩⟩⟩⟩
theorem at_X9_IndexOutOfBoundsException : atOk "HedgeCommittee" 304 "java/lang/IndexOutOfBoundsException" := aty_IndexOutOfBoundsException gw_845
theorem at_X9_NoSuchElementException : atOkX "HedgeCommittee" 121 "java/util/NoSuchElementException" 13 prog_47_method_4_code := aty_NoSuchElementException gw_864
theorem atx_UnsupportedOperationException : ∀ w ∈ Bundle.chainSAtoms "java/lang/UnsupportedOperationException" exN, w ∈ gw ∨ w ∈ nw ∨ vx_no w = false := List.forall_mem_append.mpr ⟨List.forall_mem_cons.mpr ⟨Or.inl gw_1007, List.forall_mem_cons.mpr ⟨Or.inl (by rw [show Bundle.six = prog_38_method_2_code by decide +kernel]; exact gw_1008), List.forall_mem_cons.mpr ⟨Or.inl gw_1009, List.forall_mem_cons.mpr ⟨Or.inl gw_610, List.forall_mem_cons.mpr ⟨Or.inr (Or.inl nw_563), fun _ h => absurd h List.not_mem_nil⟩⟩⟩⟩⟩, at_RE⟩
theorem aty_UnsupportedOperationException {own : String} {ic : Nat} (h : Cond.methodLink own ic (Bundle.initS "java/lang/UnsupportedOperationException") ∈ gw) : atOk own ic "java/lang/UnsupportedOperationException" := List.forall_mem_append.mpr ⟨List.forall_mem_append.mpr ⟨List.forall_mem_append.mpr ⟨at_T, at_TS⟩, atx_UnsupportedOperationException⟩, List.forall_mem_cons.mpr ⟨Or.inl h, List.forall_mem_cons.mpr ⟨Or.inl gw_997, List.forall_mem_cons.mpr ⟨Or.inr (Or.inl nw_998), List.forall_mem_cons.mpr ⟨Or.inl gw_999, List.forall_mem_cons.mpr ⟨Or.inl gw_597, List.forall_mem_cons.mpr ⟨Or.inl gw_1000, List.forall_mem_cons.mpr ⟨Or.inl gw_1001, List.forall_mem_cons.mpr ⟨Or.inl gw_1002, List.forall_mem_cons.mpr ⟨Or.inl gw_1003, List.forall_mem_cons.mpr ⟨Or.inr (Or.inr (by decide +kernel)), List.forall_mem_cons.mpr ⟨Or.inr (Or.inr (by decide +kernel)), List.forall_mem_cons.mpr ⟨Or.inl gw_580, List.forall_mem_cons.mpr ⟨Or.inl gw_579, List.forall_mem_cons.mpr ⟨Or.inl gw_1004, fun _ h => absurd h List.not_mem_nil⟩⟩⟩⟩⟩⟩⟩⟩⟩⟩⟩⟩⟩⟩⟩
theorem at_X9_UnsupportedOperationException : atOk "HedgeCommittee" 188 "java/lang/UnsupportedOperationException" := aty_UnsupportedOperationException gw_1006
theorem at_X9_IllegalArgumentException : atOk "HedgeCommittee" 211 "java/lang/IllegalArgumentException" := aty_IllegalArgumentException gw_1053
theorem atx_ArithmeticException : ∀ w ∈ Bundle.chainSAtoms "java/lang/ArithmeticException" exN, w ∈ gw ∨ w ∈ nw ∨ vx_no w = false := List.forall_mem_append.mpr ⟨List.forall_mem_cons.mpr ⟨Or.inl gw_1059, List.forall_mem_cons.mpr ⟨Or.inl (by rw [show Bundle.six = prog_16_method_2_code by decide +kernel]; exact gw_1060), List.forall_mem_cons.mpr ⟨Or.inl gw_1061, List.forall_mem_cons.mpr ⟨Or.inl gw_610, List.forall_mem_cons.mpr ⟨Or.inr (Or.inl nw_563), fun _ h => absurd h List.not_mem_nil⟩⟩⟩⟩⟩, at_RE⟩
theorem aty_ArithmeticException {own : String} {ic : Nat} (h : Cond.methodLink own ic (Bundle.initS "java/lang/ArithmeticException") ∈ gw) : atOk own ic "java/lang/ArithmeticException" := List.forall_mem_append.mpr ⟨List.forall_mem_append.mpr ⟨List.forall_mem_append.mpr ⟨at_T, at_TS⟩, atx_ArithmeticException⟩, List.forall_mem_cons.mpr ⟨Or.inl h, List.forall_mem_cons.mpr ⟨Or.inl gw_1058, List.forall_mem_cons.mpr ⟨Or.inr (Or.inl nw_1069), List.forall_mem_cons.mpr ⟨Or.inl gw_1070, List.forall_mem_cons.mpr ⟨Or.inl gw_592, List.forall_mem_cons.mpr ⟨Or.inl gw_1064, List.forall_mem_cons.mpr ⟨Or.inl gw_1065, List.forall_mem_cons.mpr ⟨Or.inl gw_1067, List.forall_mem_cons.mpr ⟨Or.inl gw_1063, List.forall_mem_cons.mpr ⟨Or.inr (Or.inr (by decide +kernel)), List.forall_mem_cons.mpr ⟨Or.inr (Or.inr (by decide +kernel)), List.forall_mem_cons.mpr ⟨Or.inl gw_580, List.forall_mem_cons.mpr ⟨Or.inl gw_579, List.forall_mem_cons.mpr ⟨Or.inl gw_1062, fun _ h => absurd h List.not_mem_nil⟩⟩⟩⟩⟩⟩⟩⟩⟩⟩⟩⟩⟩⟩⟩
theorem at_X9_ArithmeticException : atOk "HedgeCommittee" 229 "java/lang/ArithmeticException" := aty_ArithmeticException gw_1077
theorem at_X9_IllegalStateException : atOk "HedgeCommittee" 256 "java/lang/IllegalStateException" := aty_IllegalStateException gw_1100
