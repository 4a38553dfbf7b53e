/-- the streams that the claim lets the run draw from -/
abbrev lw_cs : List Choice := [Jvm.Choice.named "NaN.bits"]
theorem lw_bits : nanBits ∈ lw_cs := by first | decide | exact List.mem_cons_self | simp [lw_cs, nanBits]
/-! THE CLAIM OUT OF ONE WALK OF THE LAW'S BODY. Your part is whole_start (and what it stands on); all else here is the same for every law, but numbers. -/
def R_law : String := "HedgeCommitteeLaw"
def lw_P (b : Addr) (xs : List Int32) (args : Array Value) (s : State) : Prop := args = #[.ref b] ∧ s.IntsAt b xs ∧ xs.length ≤ 2048 ∧ (Jvm.Cond.and given_1 narrow_1).before args s = true
/-- what a walk over the start with the record d0 says of its end, said of the start itself -/
theorem lw_closed {s t : State} {o : Outcome} {d0 : Drawn} {L : List Loc} {k n : Nat} (hd0 : s.drawn.sameBut d0 lw_cs) (hv : ∃ v, o = .returned v) (hW : (s.setDrawn d0).WarmedH t.vm) (hs : (s.setDrawn d0).sameButNew ({ t with vm := s.vm } : State) L k n) : State.butDraws s t lw_cs (fun t1 => Framed s o t1 L k n) := by
  have h2 : t.drawn = d0 := congrArg State.drawn hs.1
  refine ⟨⟨hv, hW, State.sameButNew.setDrawn hs s.drawn⟩, ?_, by decide⟩
  rw [h2]
  exact hd0
def lw_Q (_ : Array Value) (s : State) (o : Outcome) (t : State) : Prop := o = .returned (some (.int 1)) ∧ State.butDraws s t lw_cs (fun t1 => Framed s o t1 [] 603072 7198826)
def lw_Z (below : List Frame) (a : Array Value) (s : State) : State → Prop := fun t => ∃ o, t.status = .running ∧ Ended t below o ∧ lw_Q a s o t
/-- the law's own end, with 1 on the stack, nothing written that was there before, its room as the claim has it; d0: the record of draws at this point (at the entry s.drawn: begin with 'refine W.base ?_' and 'have hd0 := Drawn.sameBut.refl s.drawn lw_cs') -/
theorem lw_ret {p : Program} {l : Launch} {e : Env} {s : State} {m : MethodId} {below : List Frame} {meth : Method} {c : Code} {b : Nat} {d0 : Drawn} (hd0 : s.drawn.sameBut d0 lw_cs) (hx : p.tables.exec = Jvm.exec) (hb : c.code = code) (hr : meth.sig.returnType = ret) (hlocks : meth.locks = false) {pc : Nat} {H : Heap} {ls : Array Slot} (hdg : decode code pc = .ok (.ireturn, 1)) : W p l e room_1 (s.setDrawn d0) m #[Value.ref b] below meth c H [] 603072 7198826 (lw_Z below #[Value.ref b] s) (F0 m pc ls [.int 1]) := by
  intro T hT X
  obtain ⟨fs, hret, hrun, hended, hW, hframe⟩ := X.leave (v := some (.int 1)) (hlocks := hlocks) (fun h => by rw [hr] at h; cases h)
  have hmeth' : T.vm.method? m = some meth := X.method'
  refine ⟨T.setFrames fs, ?_, .returned (some (.int 1)), hrun, hended, rfl, lw_closed hd0 ⟨_, rfl⟩ hW hframe⟩
  jvm_step X.here [X.here.top, hx, hb, hdg, hmeth', hr, ret, narrow_b1]
  (try refine ⟨rfl, ?_⟩); (try refine ⟨rfl, ?_⟩)
  first | (intro acts; rw [hret _ acts rfl rfl rfl]) | rw [hret _ _ rfl rfl rfl]
  exact Steps.refl _
/-- what holds at the law's entry: the machine, the code, the tables' words (any of lw_tbl by 'hts w (by decide +kernel)'), the script of L ints xs at the cell b, what the Statement gives of the start (any of its parts by flat_of_before) -/
def lw_At (p : Program) (s : State) (m : MethodId) (meth : Method) (c : Code) (b L : Nat) (xs : Nat → Int32) : Prop :=
  p.tables.exec = Jvm.exec ∧ c.code = code ∧ meth.sig.returnType = ret ∧ c.maxLocals = 9 ∧ s.vm.findClass R_law = some m.cls ∧ (∀ w ∈ lw_tbl, w.before #[Value.ref b] s = true) ∧ va_X b L xs s s.heap ∧ b < s.heap.size ∧ meth.locks = false ∧ (Jvm.Cond.and given_1 narrow_1).before #[Value.ref b] s = true
/-! decoding a long method by its bytes: what is read of an instruction, not the whole array, is walked -/
/-- byte i of cc is x -/
def bY (cc : ByteArray) (i x : Nat) : Prop := ∃ h : i < cc.size, (cc[i]'h).toNat = x
theorem bY_of {l : List Nat} {i x : Nat} (h : l[i]? = some x) (hx : x % 256 = x) : bY (ByteArray.mk (l.map UInt8.ofNat).toArray) i x := by
  obtain ⟨hi, e⟩ := List.getElem?_eq_some_iff.mp h
  have hs : i < (l.map UInt8.ofNat).length := by rw [List.length_map]; exact hi
  refine ⟨hs, ?_⟩
  show ((l.map UInt8.ofNat)[i]'hs).toNat = x
  rw [List.getElem_map, e, UInt8.toNat_ofNat']
  exact hx
theorem tY_r {A B : List Nat} {n j x : Nat} (hA : A.length = n) (h : B[j]? = some x) : (A ++ B)[n + j]? = some x := by
  rw [List.getElem?_append_right (by omega), hA, Nat.add_sub_cancel_left]
  exact h
theorem tY_l {A B : List Nat} {j x : Nat} (h : A[j]? = some x) : (A ++ B)[j]? = some x := by
  obtain ⟨hi, -⟩ := List.getElem?_eq_some_iff.mp h
  rw [List.getElem?_append_left hi]
  exact h
theorem dz_bind {α β : Type} {r : Decoder α} {f : α → Decoder β} {cc : ByteArray} {i j : Nat} {a : α} (h : Reader.runAt r cc i = .ok (a, j)) : Reader.runAt (r >>= f) cc i = Reader.runAt (f a) cc j :=
  congrArg (fun z : Except DecodeError (α × Nat) => Except.bind z (fun p => f p.1 cc p.2)) h
theorem dz_map {α β : Type} {r : Decoder α} {f : α → β} {cc : ByteArray} {i j : Nat} {a : α} (h : Reader.runAt r cc i = .ok (a, j)) : Reader.runAt (f <$> r) cc i = .ok (f a, j) :=
  congrArg (fun z : Except DecodeError (α × Nat) => Except.bind z (fun p => .ok (f p.1, p.2))) h
theorem dz_u1 {cc : ByteArray} {i x : Nat} (h : bY cc i x) : Reader.runAt (Reader.u1 : Decoder Nat) cc i = .ok (x, i + 1) := by
  obtain ⟨h1, h2⟩ := h
  show (if h : i < cc.size then (do set (i + 1); pure (cc[i]'h).toNat : Decoder Nat) else throw (HasTruncated.truncated i : DecodeError)) cc i = _
  rw [dif_pos h1]
  show Except.ok ((cc[i]'h1).toNat, i + 1) = _
  rw [h2]
theorem dz_u2 {cc : ByteArray} {i a b : Nat} (h0 : bY cc i a) (h1 : bY cc (i + 1) b) : Reader.runAt (Reader.u2 : Decoder Nat) cc i = .ok (a * 256 + b, i + 2) :=
  (dz_bind (r := Reader.u1) (dz_u1 h0)).trans ((dz_bind (r := Reader.u1) (dz_u1 h1)).trans rfl)
theorem dz_s1 {cc : ByteArray} {i a : Nat} {v : Int} (h0 : bY cc i a) (hv : Reader.signed 8 a = v) : Reader.runAt (Reader.s1 : Decoder Int) cc i = .ok (v, i + 1) := by
  rw [← hv]
  exact dz_map (dz_u1 h0)
theorem dz_s2 {cc : ByteArray} {i a b : Nat} {v : Int} (h0 : bY cc i a) (h1 : bY cc (i + 1) b) (hv : Reader.signed 16 (a * 256 + b) = v) : Reader.runAt (Reader.s2 : Decoder Int) cc i = .ok (v, i + 2) := by
  rw [← hv]
  exact dz_map (dz_u2 h0 h1)
theorem dz_dec {cc : ByteArray} {pc n : Nat} {i : Instr} (h : Reader.runAt (Decoder.instr pc) cc pc = .ok (i, pc + n)) : decode cc pc = .ok (i, n) :=
  (congrArg (fun z : Except DecodeError (Instr × Nat) => Except.bind z (fun p => .ok (p.1, p.2 - pc))) h).trans (by
    show Except.ok (i, pc + n - pc) = _
    rw [Nat.add_sub_cancel_left])
def zs_0 : List Nat := [187, 0, 8, 89, 183, 0, 139, 76, 187, 0, 140, 89, 183, 0, 142, 77, 4, 188, 11, 78, 4, 188, 7, 58, 4, 3, 54, 5, 21, 5, 42, 190]
def zs_1 : List Nat := [7, 100, 163, 5, 154, 42, 21, 5, 46, 16, 63, 126, 170, 0, 0, 0, 0, 0, 5, 138, 0, 0, 0, 0, 0, 0, 0, 47, 0, 0, 0, 208]
def zs_2 : List Nat := [0, 0, 1, 4, 0, 0, 1, 44, 0, 0, 1, 96, 0, 0, 1, 136, 0, 0, 1, 164, 0, 0, 1, 192, 0, 0, 1, 205, 0, 0, 1, 218]
def zs_3 : List Nat := [0, 0, 1, 246, 0, 0, 2, 18, 0, 0, 2, 46, 0, 0, 2, 74, 0, 0, 2, 114, 0, 0, 2, 127, 0, 0, 2, 155, 0, 0, 2, 183]
def zs_4 : List Nat := [0, 0, 2, 211, 0, 0, 2, 239, 0, 0, 3, 11, 0, 0, 3, 39, 0, 0, 3, 67, 0, 0, 3, 95, 0, 0, 3, 123, 0, 0, 3, 163]
def zs_5 : List Nat := [0, 0, 3, 203, 0, 0, 3, 243, 0, 0, 4, 15, 0, 0, 4, 43, 0, 0, 4, 56, 0, 0, 4, 69, 0, 0, 4, 82, 0, 0, 4, 95]
def zs_6 : List Nat := [0, 0, 4, 123, 0, 0, 4, 136, 0, 0, 4, 149, 0, 0, 4, 162, 0, 0, 4, 179, 0, 0, 4, 196, 0, 0, 4, 209, 0, 0, 4, 239]
def zs_7 : List Nat := [0, 0, 4, 255, 0, 0, 5, 15, 0, 0, 5, 31, 0, 0, 5, 59, 0, 0, 5, 87, 0, 0, 5, 103, 0, 0, 5, 114, 43, 42, 21, 5]
def zs_8 : List Nat := [4, 96, 46, 42, 21, 5, 5, 96, 46, 42, 21, 5, 6, 96, 46, 45, 184, 0, 143, 54, 6, 44, 42, 21, 5, 4, 96, 46, 42, 21, 5, 5]
def zs_9 : List Nat := [96, 46, 42, 21, 5, 6, 96, 46, 182, 0, 148, 54, 7, 167, 4, 137, 43, 42, 21, 5, 4, 96, 46, 42, 21, 5, 5, 96, 46, 45, 184, 0]
def zs_10 : List Nat := [149, 54, 6, 44, 42, 21, 5, 4, 96, 46, 42, 21, 5, 5, 96, 46, 182, 0, 152, 54, 7, 167, 4, 97, 43, 42, 21, 5, 4, 96, 46, 42]
def zs_11 : List Nat := [21, 5, 5, 96, 46, 42, 21, 5, 6, 96, 46, 45, 184, 0, 153, 54, 6, 44, 42, 21, 5, 4, 96, 46, 42, 21, 5, 5, 96, 46, 42, 21]
def zs_12 : List Nat := [5, 6, 96, 46, 182, 0, 155, 54, 7, 167, 4, 45, 43, 42, 21, 5, 4, 96, 46, 42, 21, 5, 5, 96, 46, 45, 184, 0, 156, 54, 6, 44]
def zs_13 : List Nat := [42, 21, 5, 4, 96, 46, 42, 21, 5, 5, 96, 46, 182, 0, 158, 54, 7, 167, 4, 5, 43, 42, 21, 5, 4, 96, 46, 45, 184, 0, 159, 54]
def zs_14 : List Nat := [6, 44, 42, 21, 5, 4, 96, 46, 182, 0, 162, 54, 7, 167, 3, 233, 43, 42, 21, 5, 4, 96, 46, 45, 184, 0, 163, 54, 6, 44, 42, 21]
def zs_15 : List Nat := [5, 4, 96, 46, 182, 0, 165, 54, 7, 167, 3, 205, 43, 182, 0, 166, 87, 44, 182, 0, 169, 87, 167, 3, 192, 43, 182, 0, 170, 87, 44, 182]
def zs_16 : List Nat := [0, 173, 87, 167, 3, 179, 43, 42, 21, 5, 4, 96, 46, 45, 184, 0, 174, 54, 6, 44, 42, 21, 5, 4, 96, 46, 182, 0, 176, 54, 7, 167]
def zs_17 : List Nat := [3, 151, 43, 42, 21, 5, 4, 96, 46, 45, 184, 0, 177, 54, 6, 44, 42, 21, 5, 4, 96, 46, 182, 0, 179, 54, 7, 167, 3, 123, 43, 42]
def zs_18 : List Nat := [21, 5, 4, 96, 46, 45, 184, 0, 180, 54, 6, 44, 42, 21, 5, 4, 96, 46, 182, 0, 182, 54, 7, 167, 3, 95, 43, 42, 21, 5, 4, 96]
def zs_19 : List Nat := [46, 45, 184, 0, 183, 54, 6, 44, 42, 21, 5, 4, 96, 46, 182, 0, 185, 54, 7, 167, 3, 67, 43, 42, 21, 5, 4, 96, 46, 42, 21, 5]
def zs_20 : List Nat := [5, 96, 46, 45, 184, 0, 186, 54, 6, 44, 42, 21, 5, 4, 96, 46, 42, 21, 5, 5, 96, 46, 182, 0, 188, 54, 7, 167, 3, 27, 43, 182]
def zs_21 : List Nat := [0, 189, 87, 44, 182, 0, 192, 87, 167, 3, 14, 43, 42, 21, 5, 4, 96, 46, 45, 184, 0, 193, 54, 6, 44, 42, 21, 5, 4, 96, 46, 182]
def zs_22 : List Nat := [0, 195, 54, 7, 167, 2, 242, 43, 42, 21, 5, 4, 96, 46, 45, 184, 0, 196, 54, 6, 44, 42, 21, 5, 4, 96, 46, 182, 0, 198, 54, 7]
def zs_23 : List Nat := [167, 2, 214, 43, 42, 21, 5, 4, 96, 46, 45, 184, 0, 199, 54, 6, 44, 42, 21, 5, 4, 96, 46, 182, 0, 201, 54, 7, 167, 2, 186, 43]
def zs_24 : List Nat := [42, 21, 5, 4, 96, 46, 45, 184, 0, 202, 54, 6, 44, 42, 21, 5, 4, 96, 46, 182, 0, 204, 54, 7, 167, 2, 158, 43, 42, 21, 5, 4]
def zs_25 : List Nat := [96, 46, 45, 184, 0, 205, 54, 6, 44, 42, 21, 5, 4, 96, 46, 182, 0, 207, 54, 7, 167, 2, 130, 43, 42, 21, 5, 4, 96, 46, 45, 184]
def zs_26 : List Nat := [0, 208, 54, 6, 44, 42, 21, 5, 4, 96, 46, 182, 0, 210, 54, 7, 167, 2, 102, 43, 42, 21, 5, 4, 96, 46, 45, 184, 0, 211, 54, 6]
def zs_27 : List Nat := [44, 42, 21, 5, 4, 96, 46, 182, 0, 213, 54, 7, 167, 2, 74, 43, 42, 21, 5, 4, 96, 46, 45, 184, 0, 214, 54, 6, 44, 42, 21, 5]
def zs_28 : List Nat := [4, 96, 46, 182, 0, 216, 54, 7, 167, 2, 46, 43, 42, 21, 5, 4, 96, 46, 45, 184, 0, 217, 54, 6, 44, 42, 21, 5, 4, 96, 46, 182]
def zs_29 : List Nat := [0, 219, 54, 7, 167, 2, 18, 43, 42, 21, 5, 4, 96, 46, 42, 21, 5, 5, 96, 46, 45, 184, 0, 220, 54, 6, 44, 42, 21, 5, 4, 96]
def zs_30 : List Nat := [46, 42, 21, 5, 5, 96, 46, 182, 0, 222, 54, 7, 167, 1, 234, 43, 42, 21, 5, 4, 96, 46, 42, 21, 5, 5, 96, 46, 45, 184, 0, 223]
def zs_31 : List Nat := [54, 6, 44, 42, 21, 5, 4, 96, 46, 42, 21, 5, 5, 96, 46, 182, 0, 225, 54, 7, 167, 1, 194, 43, 42, 21, 5, 4, 96, 46, 42, 21]
def zs_32 : List Nat := [5, 5, 96, 46, 45, 184, 0, 226, 54, 6, 44, 42, 21, 5, 4, 96, 46, 42, 21, 5, 5, 96, 46, 182, 0, 228, 54, 7, 167, 1, 154, 43]
def zs_33 : List Nat := [42, 21, 5, 4, 96, 46, 45, 184, 0, 229, 54, 6, 44, 42, 21, 5, 4, 96, 46, 182, 0, 231, 54, 7, 167, 1, 126, 43, 42, 21, 5, 4]
def zs_34 : List Nat := [96, 46, 45, 184, 0, 232, 54, 6, 44, 42, 21, 5, 4, 96, 46, 182, 0, 234, 54, 7, 167, 1, 98, 43, 182, 0, 235, 87, 44, 182, 0, 238]
def zs_35 : List Nat := [87, 167, 1, 85, 43, 182, 0, 239, 87, 44, 182, 0, 242, 87, 167, 1, 72, 43, 182, 0, 243, 87, 44, 182, 0, 246, 87, 167, 1, 59, 43, 182]
def zs_36 : List Nat := [0, 247, 87, 44, 182, 0, 250, 87, 167, 1, 46, 43, 42, 21, 5, 4, 96, 46, 45, 184, 0, 251, 54, 6, 44, 42, 21, 5, 4, 96, 46, 182]
def zs_37 : List Nat := [0, 253, 54, 7, 167, 1, 18, 43, 182, 0, 254, 87, 44, 182, 1, 1, 87, 167, 1, 5, 43, 182, 1, 2, 87, 44, 182, 1, 5, 87, 167, 0]
def zs_38 : List Nat := [248, 43, 182, 1, 6, 87, 44, 182, 1, 9, 87, 167, 0, 235, 43, 25, 4, 184, 1, 10, 54, 6, 44, 182, 1, 13, 57, 7, 167, 0, 218, 43]
def zs_39 : List Nat := [25, 4, 184, 1, 14, 54, 6, 44, 182, 1, 16, 56, 7, 167, 0, 201, 43, 182, 1, 17, 87, 44, 182, 1, 21, 87, 167, 0, 188, 43, 42, 21]
def zs_40 : List Nat := [5, 4, 96, 46, 146, 45, 184, 1, 22, 54, 6, 44, 42, 21, 5, 4, 96, 46, 146, 182, 1, 25, 54, 7, 167, 0, 158, 43, 45, 184, 1, 26]
def zs_41 : List Nat := [54, 6, 44, 182, 1, 29, 54, 7, 167, 0, 142, 43, 45, 184, 1, 30, 54, 6, 44, 182, 1, 32, 54, 7, 167, 0, 126, 43, 45, 184, 1, 33]
def zs_42 : List Nat := [54, 6, 44, 182, 1, 35, 54, 7, 167, 0, 110, 43, 42, 21, 5, 4, 96, 46, 45, 184, 1, 36, 54, 6, 44, 42, 21, 5, 4, 96, 46, 182]
def zs_43 : List Nat := [1, 38, 54, 7, 167, 0, 82, 43, 42, 21, 5, 4, 96, 46, 45, 184, 1, 39, 54, 6, 44, 42, 21, 5, 4, 96, 46, 182, 1, 41, 54, 7]
def zs_44 : List Nat := [167, 0, 54, 43, 45, 184, 1, 42, 54, 6, 44, 182, 1, 44, 54, 7, 167, 0, 38, 43, 182, 1, 45, 44, 182, 1, 48, 167, 0, 27, 43, 184]
def zs_45 : List Nat := [1, 49, 54, 6, 44, 182, 1, 52, 44, 182, 1, 53, 21, 6, 159, 0, 5, 3, 172, 167, 0, 3, 132, 5, 4, 167, 250, 99, 4, 172]
def zt_45 : List Nat := zs_45
def zt_44 : List Nat := zs_44 ++ zt_45
def zt_43 : List Nat := zs_43 ++ zt_44
def zt_42 : List Nat := zs_42 ++ zt_43
def zt_41 : List Nat := zs_41 ++ zt_42
def zt_40 : List Nat := zs_40 ++ zt_41
def zt_39 : List Nat := zs_39 ++ zt_40
def zt_38 : List Nat := zs_38 ++ zt_39
def zt_37 : List Nat := zs_37 ++ zt_38
def zt_36 : List Nat := zs_36 ++ zt_37
def zt_35 : List Nat := zs_35 ++ zt_36
def zt_34 : List Nat := zs_34 ++ zt_35
def zt_33 : List Nat := zs_33 ++ zt_34
def zt_32 : List Nat := zs_32 ++ zt_33
def zt_31 : List Nat := zs_31 ++ zt_32
def zt_30 : List Nat := zs_30 ++ zt_31
def zt_29 : List Nat := zs_29 ++ zt_30
def zt_28 : List Nat := zs_28 ++ zt_29
def zt_27 : List Nat := zs_27 ++ zt_28
def zt_26 : List Nat := zs_26 ++ zt_27
def zt_25 : List Nat := zs_25 ++ zt_26
def zt_24 : List Nat := zs_24 ++ zt_25
def zt_23 : List Nat := zs_23 ++ zt_24
def zt_22 : List Nat := zs_22 ++ zt_23
def zt_21 : List Nat := zs_21 ++ zt_22
def zt_20 : List Nat := zs_20 ++ zt_21
def zt_19 : List Nat := zs_19 ++ zt_20
def zt_18 : List Nat := zs_18 ++ zt_19
def zt_17 : List Nat := zs_17 ++ zt_18
def zt_16 : List Nat := zs_16 ++ zt_17
def zt_15 : List Nat := zs_15 ++ zt_16
def zt_14 : List Nat := zs_14 ++ zt_15
def zt_13 : List Nat := zs_13 ++ zt_14
def zt_12 : List Nat := zs_12 ++ zt_13
def zt_11 : List Nat := zs_11 ++ zt_12
def zt_10 : List Nat := zs_10 ++ zt_11
def zt_9 : List Nat := zs_9 ++ zt_10
def zt_8 : List Nat := zs_8 ++ zt_9
def zt_7 : List Nat := zs_7 ++ zt_8
def zt_6 : List Nat := zs_6 ++ zt_7
def zt_5 : List Nat := zs_5 ++ zt_6
def zt_4 : List Nat := zs_4 ++ zt_5
def zt_3 : List Nat := zs_3 ++ zt_4
def zt_2 : List Nat := zs_2 ++ zt_3
def zt_1 : List Nat := zs_1 ++ zt_2
def zt_0 : List Nat := zs_0 ++ zt_1
set_option maxRecDepth 100000 in
theorem zt_code : code = ByteArray.mk (zt_0.map UInt8.ofNat).toArray := congrArg (fun l : List UInt8 => ByteArray.mk l.toArray) (show code.data.toList = zt_0.map UInt8.ofNat by decide +kernel)
theorem up_0 {j x : Nat} (h : zt_0[j]? = some x) : zt_0[32 * 0 + j]? = some x := by
  rw [Nat.mul_zero, Nat.zero_add]
  exact h
theorem up_1 {j x : Nat} (h : zt_1[j]? = some x) : zt_0[32 * 1 + j]? = some x := by
  rw [show 32 * 1 + j = 32 * 0 + (32 + j) by omega]
  exact up_0 (tY_r (A := zs_0) (B := zt_1) rfl h)
theorem up_2 {j x : Nat} (h : zt_2[j]? = some x) : zt_0[32 * 2 + j]? = some x := by
  rw [show 32 * 2 + j = 32 * 1 + (32 + j) by omega]
  exact up_1 (tY_r (A := zs_1) (B := zt_2) rfl h)
theorem up_3 {j x : Nat} (h : zt_3[j]? = some x) : zt_0[32 * 3 + j]? = some x := by
  rw [show 32 * 3 + j = 32 * 2 + (32 + j) by omega]
  exact up_2 (tY_r (A := zs_2) (B := zt_3) rfl h)
theorem up_4 {j x : Nat} (h : zt_4[j]? = some x) : zt_0[32 * 4 + j]? = some x := by
  rw [show 32 * 4 + j = 32 * 3 + (32 + j) by omega]
  exact up_3 (tY_r (A := zs_3) (B := zt_4) rfl h)
theorem up_5 {j x : Nat} (h : zt_5[j]? = some x) : zt_0[32 * 5 + j]? = some x := by
  rw [show 32 * 5 + j = 32 * 4 + (32 + j) by omega]
  exact up_4 (tY_r (A := zs_4) (B := zt_5) rfl h)
theorem up_6 {j x : Nat} (h : zt_6[j]? = some x) : zt_0[32 * 6 + j]? = some x := by
  rw [show 32 * 6 + j = 32 * 5 + (32 + j) by omega]
  exact up_5 (tY_r (A := zs_5) (B := zt_6) rfl h)
theorem up_7 {j x : Nat} (h : zt_7[j]? = some x) : zt_0[32 * 7 + j]? = some x := by
  rw [show 32 * 7 + j = 32 * 6 + (32 + j) by omega]
  exact up_6 (tY_r (A := zs_6) (B := zt_7) rfl h)
theorem up_8 {j x : Nat} (h : zt_8[j]? = some x) : zt_0[32 * 8 + j]? = some x := by
  rw [show 32 * 8 + j = 32 * 7 + (32 + j) by omega]
  exact up_7 (tY_r (A := zs_7) (B := zt_8) rfl h)
theorem up_9 {j x : Nat} (h : zt_9[j]? = some x) : zt_0[32 * 9 + j]? = some x := by
  rw [show 32 * 9 + j = 32 * 8 + (32 + j) by omega]
  exact up_8 (tY_r (A := zs_8) (B := zt_9) rfl h)
theorem up_10 {j x : Nat} (h : zt_10[j]? = some x) : zt_0[32 * 10 + j]? = some x := by
  rw [show 32 * 10 + j = 32 * 9 + (32 + j) by omega]
  exact up_9 (tY_r (A := zs_9) (B := zt_10) rfl h)
theorem up_11 {j x : Nat} (h : zt_11[j]? = some x) : zt_0[32 * 11 + j]? = some x := by
  rw [show 32 * 11 + j = 32 * 10 + (32 + j) by omega]
  exact up_10 (tY_r (A := zs_10) (B := zt_11) rfl h)
theorem up_12 {j x : Nat} (h : zt_12[j]? = some x) : zt_0[32 * 12 + j]? = some x := by
  rw [show 32 * 12 + j = 32 * 11 + (32 + j) by omega]
  exact up_11 (tY_r (A := zs_11) (B := zt_12) rfl h)
theorem up_13 {j x : Nat} (h : zt_13[j]? = some x) : zt_0[32 * 13 + j]? = some x := by
  rw [show 32 * 13 + j = 32 * 12 + (32 + j) by omega]
  exact up_12 (tY_r (A := zs_12) (B := zt_13) rfl h)
theorem up_14 {j x : Nat} (h : zt_14[j]? = some x) : zt_0[32 * 14 + j]? = some x := by
  rw [show 32 * 14 + j = 32 * 13 + (32 + j) by omega]
  exact up_13 (tY_r (A := zs_13) (B := zt_14) rfl h)
theorem up_15 {j x : Nat} (h : zt_15[j]? = some x) : zt_0[32 * 15 + j]? = some x := by
  rw [show 32 * 15 + j = 32 * 14 + (32 + j) by omega]
  exact up_14 (tY_r (A := zs_14) (B := zt_15) rfl h)
theorem up_16 {j x : Nat} (h : zt_16[j]? = some x) : zt_0[32 * 16 + j]? = some x := by
  rw [show 32 * 16 + j = 32 * 15 + (32 + j) by omega]
  exact up_15 (tY_r (A := zs_15) (B := zt_16) rfl h)
theorem up_17 {j x : Nat} (h : zt_17[j]? = some x) : zt_0[32 * 17 + j]? = some x := by
  rw [show 32 * 17 + j = 32 * 16 + (32 + j) by omega]
  exact up_16 (tY_r (A := zs_16) (B := zt_17) rfl h)
theorem up_18 {j x : Nat} (h : zt_18[j]? = some x) : zt_0[32 * 18 + j]? = some x := by
  rw [show 32 * 18 + j = 32 * 17 + (32 + j) by omega]
  exact up_17 (tY_r (A := zs_17) (B := zt_18) rfl h)
theorem up_19 {j x : Nat} (h : zt_19[j]? = some x) : zt_0[32 * 19 + j]? = some x := by
  rw [show 32 * 19 + j = 32 * 18 + (32 + j) by omega]
  exact up_18 (tY_r (A := zs_18) (B := zt_19) rfl h)
theorem up_20 {j x : Nat} (h : zt_20[j]? = some x) : zt_0[32 * 20 + j]? = some x := by
  rw [show 32 * 20 + j = 32 * 19 + (32 + j) by omega]
  exact up_19 (tY_r (A := zs_19) (B := zt_20) rfl h)
theorem up_21 {j x : Nat} (h : zt_21[j]? = some x) : zt_0[32 * 21 + j]? = some x := by
  rw [show 32 * 21 + j = 32 * 20 + (32 + j) by omega]
  exact up_20 (tY_r (A := zs_20) (B := zt_21) rfl h)
theorem up_22 {j x : Nat} (h : zt_22[j]? = some x) : zt_0[32 * 22 + j]? = some x := by
  rw [show 32 * 22 + j = 32 * 21 + (32 + j) by omega]
  exact up_21 (tY_r (A := zs_21) (B := zt_22) rfl h)
theorem up_23 {j x : Nat} (h : zt_23[j]? = some x) : zt_0[32 * 23 + j]? = some x := by
  rw [show 32 * 23 + j = 32 * 22 + (32 + j) by omega]
  exact up_22 (tY_r (A := zs_22) (B := zt_23) rfl h)
theorem up_24 {j x : Nat} (h : zt_24[j]? = some x) : zt_0[32 * 24 + j]? = some x := by
  rw [show 32 * 24 + j = 32 * 23 + (32 + j) by omega]
  exact up_23 (tY_r (A := zs_23) (B := zt_24) rfl h)
theorem up_25 {j x : Nat} (h : zt_25[j]? = some x) : zt_0[32 * 25 + j]? = some x := by
  rw [show 32 * 25 + j = 32 * 24 + (32 + j) by omega]
  exact up_24 (tY_r (A := zs_24) (B := zt_25) rfl h)
theorem up_26 {j x : Nat} (h : zt_26[j]? = some x) : zt_0[32 * 26 + j]? = some x := by
  rw [show 32 * 26 + j = 32 * 25 + (32 + j) by omega]
  exact up_25 (tY_r (A := zs_25) (B := zt_26) rfl h)
theorem up_27 {j x : Nat} (h : zt_27[j]? = some x) : zt_0[32 * 27 + j]? = some x := by
  rw [show 32 * 27 + j = 32 * 26 + (32 + j) by omega]
  exact up_26 (tY_r (A := zs_26) (B := zt_27) rfl h)
theorem up_28 {j x : Nat} (h : zt_28[j]? = some x) : zt_0[32 * 28 + j]? = some x := by
  rw [show 32 * 28 + j = 32 * 27 + (32 + j) by omega]
  exact up_27 (tY_r (A := zs_27) (B := zt_28) rfl h)
theorem up_29 {j x : Nat} (h : zt_29[j]? = some x) : zt_0[32 * 29 + j]? = some x := by
  rw [show 32 * 29 + j = 32 * 28 + (32 + j) by omega]
  exact up_28 (tY_r (A := zs_28) (B := zt_29) rfl h)
theorem up_30 {j x : Nat} (h : zt_30[j]? = some x) : zt_0[32 * 30 + j]? = some x := by
  rw [show 32 * 30 + j = 32 * 29 + (32 + j) by omega]
  exact up_29 (tY_r (A := zs_29) (B := zt_30) rfl h)
theorem up_31 {j x : Nat} (h : zt_31[j]? = some x) : zt_0[32 * 31 + j]? = some x := by
  rw [show 32 * 31 + j = 32 * 30 + (32 + j) by omega]
  exact up_30 (tY_r (A := zs_30) (B := zt_31) rfl h)
theorem up_32 {j x : Nat} (h : zt_32[j]? = some x) : zt_0[32 * 32 + j]? = some x := by
  rw [show 32 * 32 + j = 32 * 31 + (32 + j) by omega]
  exact up_31 (tY_r (A := zs_31) (B := zt_32) rfl h)
theorem up_33 {j x : Nat} (h : zt_33[j]? = some x) : zt_0[32 * 33 + j]? = some x := by
  rw [show 32 * 33 + j = 32 * 32 + (32 + j) by omega]
  exact up_32 (tY_r (A := zs_32) (B := zt_33) rfl h)
theorem up_34 {j x : Nat} (h : zt_34[j]? = some x) : zt_0[32 * 34 + j]? = some x := by
  rw [show 32 * 34 + j = 32 * 33 + (32 + j) by omega]
  exact up_33 (tY_r (A := zs_33) (B := zt_34) rfl h)
theorem up_35 {j x : Nat} (h : zt_35[j]? = some x) : zt_0[32 * 35 + j]? = some x := by
  rw [show 32 * 35 + j = 32 * 34 + (32 + j) by omega]
  exact up_34 (tY_r (A := zs_34) (B := zt_35) rfl h)
theorem up_36 {j x : Nat} (h : zt_36[j]? = some x) : zt_0[32 * 36 + j]? = some x := by
  rw [show 32 * 36 + j = 32 * 35 + (32 + j) by omega]
  exact up_35 (tY_r (A := zs_35) (B := zt_36) rfl h)
theorem up_37 {j x : Nat} (h : zt_37[j]? = some x) : zt_0[32 * 37 + j]? = some x := by
  rw [show 32 * 37 + j = 32 * 36 + (32 + j) by omega]
  exact up_36 (tY_r (A := zs_36) (B := zt_37) rfl h)
theorem up_38 {j x : Nat} (h : zt_38[j]? = some x) : zt_0[32 * 38 + j]? = some x := by
  rw [show 32 * 38 + j = 32 * 37 + (32 + j) by omega]
  exact up_37 (tY_r (A := zs_37) (B := zt_38) rfl h)
theorem up_39 {j x : Nat} (h : zt_39[j]? = some x) : zt_0[32 * 39 + j]? = some x := by
  rw [show 32 * 39 + j = 32 * 38 + (32 + j) by omega]
  exact up_38 (tY_r (A := zs_38) (B := zt_39) rfl h)
theorem up_40 {j x : Nat} (h : zt_40[j]? = some x) : zt_0[32 * 40 + j]? = some x := by
  rw [show 32 * 40 + j = 32 * 39 + (32 + j) by omega]
  exact up_39 (tY_r (A := zs_39) (B := zt_40) rfl h)
theorem up_41 {j x : Nat} (h : zt_41[j]? = some x) : zt_0[32 * 41 + j]? = some x := by
  rw [show 32 * 41 + j = 32 * 40 + (32 + j) by omega]
  exact up_40 (tY_r (A := zs_40) (B := zt_41) rfl h)
theorem up_42 {j x : Nat} (h : zt_42[j]? = some x) : zt_0[32 * 42 + j]? = some x := by
  rw [show 32 * 42 + j = 32 * 41 + (32 + j) by omega]
  exact up_41 (tY_r (A := zs_41) (B := zt_42) rfl h)
theorem up_43 {j x : Nat} (h : zt_43[j]? = some x) : zt_0[32 * 43 + j]? = some x := by
  rw [show 32 * 43 + j = 32 * 42 + (32 + j) by omega]
  exact up_42 (tY_r (A := zs_42) (B := zt_43) rfl h)
theorem up_44 {j x : Nat} (h : zt_44[j]? = some x) : zt_0[32 * 44 + j]? = some x := by
  rw [show 32 * 44 + j = 32 * 43 + (32 + j) by omega]
  exact up_43 (tY_r (A := zs_43) (B := zt_44) rfl h)
theorem up_45 {j x : Nat} (h : zt_45[j]? = some x) : zt_0[32 * 45 + j]? = some x := by
  rw [show 32 * 45 + j = 32 * 44 + (32 + j) by omega]
  exact up_44 (tY_r (A := zs_44) (B := zt_45) rfl h)
theorem bz_0 (j x : Nat) (h : zs_0[j]? = some x) (hx : x % 256 = x) : bY code (32 * 0 + j) x := by
  rw [zt_code]
  exact bY_of (up_0 (tY_l (A := zs_0) (B := zt_1) h)) hx
theorem bz_1 (j x : Nat) (h : zs_1[j]? = some x) (hx : x % 256 = x) : bY code (32 * 1 + j) x := by
  rw [zt_code]
  exact bY_of (up_1 (tY_l (A := zs_1) (B := zt_2) h)) hx
theorem bz_2 (j x : Nat) (h : zs_2[j]? = some x) (hx : x % 256 = x) : bY code (32 * 2 + j) x := by
  rw [zt_code]
  exact bY_of (up_2 (tY_l (A := zs_2) (B := zt_3) h)) hx
theorem bz_3 (j x : Nat) (h : zs_3[j]? = some x) (hx : x % 256 = x) : bY code (32 * 3 + j) x := by
  rw [zt_code]
  exact bY_of (up_3 (tY_l (A := zs_3) (B := zt_4) h)) hx
theorem bz_4 (j x : Nat) (h : zs_4[j]? = some x) (hx : x % 256 = x) : bY code (32 * 4 + j) x := by
  rw [zt_code]
  exact bY_of (up_4 (tY_l (A := zs_4) (B := zt_5) h)) hx
theorem bz_5 (j x : Nat) (h : zs_5[j]? = some x) (hx : x % 256 = x) : bY code (32 * 5 + j) x := by
  rw [zt_code]
  exact bY_of (up_5 (tY_l (A := zs_5) (B := zt_6) h)) hx
theorem bz_6 (j x : Nat) (h : zs_6[j]? = some x) (hx : x % 256 = x) : bY code (32 * 6 + j) x := by
  rw [zt_code]
  exact bY_of (up_6 (tY_l (A := zs_6) (B := zt_7) h)) hx
theorem bz_7 (j x : Nat) (h : zs_7[j]? = some x) (hx : x % 256 = x) : bY code (32 * 7 + j) x := by
  rw [zt_code]
  exact bY_of (up_7 (tY_l (A := zs_7) (B := zt_8) h)) hx
theorem bz_8 (j x : Nat) (h : zs_8[j]? = some x) (hx : x % 256 = x) : bY code (32 * 8 + j) x := by
  rw [zt_code]
  exact bY_of (up_8 (tY_l (A := zs_8) (B := zt_9) h)) hx
theorem bz_9 (j x : Nat) (h : zs_9[j]? = some x) (hx : x % 256 = x) : bY code (32 * 9 + j) x := by
  rw [zt_code]
  exact bY_of (up_9 (tY_l (A := zs_9) (B := zt_10) h)) hx
theorem bz_10 (j x : Nat) (h : zs_10[j]? = some x) (hx : x % 256 = x) : bY code (32 * 10 + j) x := by
  rw [zt_code]
  exact bY_of (up_10 (tY_l (A := zs_10) (B := zt_11) h)) hx
theorem bz_11 (j x : Nat) (h : zs_11[j]? = some x) (hx : x % 256 = x) : bY code (32 * 11 + j) x := by
  rw [zt_code]
  exact bY_of (up_11 (tY_l (A := zs_11) (B := zt_12) h)) hx
theorem bz_12 (j x : Nat) (h : zs_12[j]? = some x) (hx : x % 256 = x) : bY code (32 * 12 + j) x := by
  rw [zt_code]
  exact bY_of (up_12 (tY_l (A := zs_12) (B := zt_13) h)) hx
theorem bz_13 (j x : Nat) (h : zs_13[j]? = some x) (hx : x % 256 = x) : bY code (32 * 13 + j) x := by
  rw [zt_code]
  exact bY_of (up_13 (tY_l (A := zs_13) (B := zt_14) h)) hx
theorem bz_14 (j x : Nat) (h : zs_14[j]? = some x) (hx : x % 256 = x) : bY code (32 * 14 + j) x := by
  rw [zt_code]
  exact bY_of (up_14 (tY_l (A := zs_14) (B := zt_15) h)) hx
theorem bz_15 (j x : Nat) (h : zs_15[j]? = some x) (hx : x % 256 = x) : bY code (32 * 15 + j) x := by
  rw [zt_code]
  exact bY_of (up_15 (tY_l (A := zs_15) (B := zt_16) h)) hx
theorem bz_16 (j x : Nat) (h : zs_16[j]? = some x) (hx : x % 256 = x) : bY code (32 * 16 + j) x := by
  rw [zt_code]
  exact bY_of (up_16 (tY_l (A := zs_16) (B := zt_17) h)) hx
theorem bz_17 (j x : Nat) (h : zs_17[j]? = some x) (hx : x % 256 = x) : bY code (32 * 17 + j) x := by
  rw [zt_code]
  exact bY_of (up_17 (tY_l (A := zs_17) (B := zt_18) h)) hx
theorem bz_18 (j x : Nat) (h : zs_18[j]? = some x) (hx : x % 256 = x) : bY code (32 * 18 + j) x := by
  rw [zt_code]
  exact bY_of (up_18 (tY_l (A := zs_18) (B := zt_19) h)) hx
theorem bz_19 (j x : Nat) (h : zs_19[j]? = some x) (hx : x % 256 = x) : bY code (32 * 19 + j) x := by
  rw [zt_code]
  exact bY_of (up_19 (tY_l (A := zs_19) (B := zt_20) h)) hx
theorem bz_20 (j x : Nat) (h : zs_20[j]? = some x) (hx : x % 256 = x) : bY code (32 * 20 + j) x := by
  rw [zt_code]
  exact bY_of (up_20 (tY_l (A := zs_20) (B := zt_21) h)) hx
theorem bz_21 (j x : Nat) (h : zs_21[j]? = some x) (hx : x % 256 = x) : bY code (32 * 21 + j) x := by
  rw [zt_code]
  exact bY_of (up_21 (tY_l (A := zs_21) (B := zt_22) h)) hx
theorem bz_22 (j x : Nat) (h : zs_22[j]? = some x) (hx : x % 256 = x) : bY code (32 * 22 + j) x := by
  rw [zt_code]
  exact bY_of (up_22 (tY_l (A := zs_22) (B := zt_23) h)) hx
theorem bz_23 (j x : Nat) (h : zs_23[j]? = some x) (hx : x % 256 = x) : bY code (32 * 23 + j) x := by
  rw [zt_code]
  exact bY_of (up_23 (tY_l (A := zs_23) (B := zt_24) h)) hx
theorem bz_24 (j x : Nat) (h : zs_24[j]? = some x) (hx : x % 256 = x) : bY code (32 * 24 + j) x := by
  rw [zt_code]
  exact bY_of (up_24 (tY_l (A := zs_24) (B := zt_25) h)) hx
theorem bz_25 (j x : Nat) (h : zs_25[j]? = some x) (hx : x % 256 = x) : bY code (32 * 25 + j) x := by
  rw [zt_code]
  exact bY_of (up_25 (tY_l (A := zs_25) (B := zt_26) h)) hx
theorem bz_26 (j x : Nat) (h : zs_26[j]? = some x) (hx : x % 256 = x) : bY code (32 * 26 + j) x := by
  rw [zt_code]
  exact bY_of (up_26 (tY_l (A := zs_26) (B := zt_27) h)) hx
theorem bz_27 (j x : Nat) (h : zs_27[j]? = some x) (hx : x % 256 = x) : bY code (32 * 27 + j) x := by
  rw [zt_code]
  exact bY_of (up_27 (tY_l (A := zs_27) (B := zt_28) h)) hx
theorem bz_28 (j x : Nat) (h : zs_28[j]? = some x) (hx : x % 256 = x) : bY code (32 * 28 + j) x := by
  rw [zt_code]
  exact bY_of (up_28 (tY_l (A := zs_28) (B := zt_29) h)) hx
theorem bz_29 (j x : Nat) (h : zs_29[j]? = some x) (hx : x % 256 = x) : bY code (32 * 29 + j) x := by
  rw [zt_code]
  exact bY_of (up_29 (tY_l (A := zs_29) (B := zt_30) h)) hx
theorem bz_30 (j x : Nat) (h : zs_30[j]? = some x) (hx : x % 256 = x) : bY code (32 * 30 + j) x := by
  rw [zt_code]
  exact bY_of (up_30 (tY_l (A := zs_30) (B := zt_31) h)) hx
theorem bz_31 (j x : Nat) (h : zs_31[j]? = some x) (hx : x % 256 = x) : bY code (32 * 31 + j) x := by
  rw [zt_code]
  exact bY_of (up_31 (tY_l (A := zs_31) (B := zt_32) h)) hx
theorem bz_32 (j x : Nat) (h : zs_32[j]? = some x) (hx : x % 256 = x) : bY code (32 * 32 + j) x := by
  rw [zt_code]
  exact bY_of (up_32 (tY_l (A := zs_32) (B := zt_33) h)) hx
theorem bz_33 (j x : Nat) (h : zs_33[j]? = some x) (hx : x % 256 = x) : bY code (32 * 33 + j) x := by
  rw [zt_code]
  exact bY_of (up_33 (tY_l (A := zs_33) (B := zt_34) h)) hx
theorem bz_34 (j x : Nat) (h : zs_34[j]? = some x) (hx : x % 256 = x) : bY code (32 * 34 + j) x := by
  rw [zt_code]
  exact bY_of (up_34 (tY_l (A := zs_34) (B := zt_35) h)) hx
theorem bz_35 (j x : Nat) (h : zs_35[j]? = some x) (hx : x % 256 = x) : bY code (32 * 35 + j) x := by
  rw [zt_code]
  exact bY_of (up_35 (tY_l (A := zs_35) (B := zt_36) h)) hx
theorem bz_36 (j x : Nat) (h : zs_36[j]? = some x) (hx : x % 256 = x) : bY code (32 * 36 + j) x := by
  rw [zt_code]
  exact bY_of (up_36 (tY_l (A := zs_36) (B := zt_37) h)) hx
theorem bz_37 (j x : Nat) (h : zs_37[j]? = some x) (hx : x % 256 = x) : bY code (32 * 37 + j) x := by
  rw [zt_code]
  exact bY_of (up_37 (tY_l (A := zs_37) (B := zt_38) h)) hx
theorem bz_38 (j x : Nat) (h : zs_38[j]? = some x) (hx : x % 256 = x) : bY code (32 * 38 + j) x := by
  rw [zt_code]
  exact bY_of (up_38 (tY_l (A := zs_38) (B := zt_39) h)) hx
theorem bz_39 (j x : Nat) (h : zs_39[j]? = some x) (hx : x % 256 = x) : bY code (32 * 39 + j) x := by
  rw [zt_code]
  exact bY_of (up_39 (tY_l (A := zs_39) (B := zt_40) h)) hx
theorem bz_40 (j x : Nat) (h : zs_40[j]? = some x) (hx : x % 256 = x) : bY code (32 * 40 + j) x := by
  rw [zt_code]
  exact bY_of (up_40 (tY_l (A := zs_40) (B := zt_41) h)) hx
theorem bz_41 (j x : Nat) (h : zs_41[j]? = some x) (hx : x % 256 = x) : bY code (32 * 41 + j) x := by
  rw [zt_code]
  exact bY_of (up_41 (tY_l (A := zs_41) (B := zt_42) h)) hx
theorem bz_42 (j x : Nat) (h : zs_42[j]? = some x) (hx : x % 256 = x) : bY code (32 * 42 + j) x := by
  rw [zt_code]
  exact bY_of (up_42 (tY_l (A := zs_42) (B := zt_43) h)) hx
theorem bz_43 (j x : Nat) (h : zs_43[j]? = some x) (hx : x % 256 = x) : bY code (32 * 43 + j) x := by
  rw [zt_code]
  exact bY_of (up_43 (tY_l (A := zs_43) (B := zt_44) h)) hx
theorem bz_44 (j x : Nat) (h : zs_44[j]? = some x) (hx : x % 256 = x) : bY code (32 * 44 + j) x := by
  rw [zt_code]
  exact bY_of (up_44 (tY_l (A := zs_44) (B := zt_45) h)) hx
theorem bz_45 (j x : Nat) (h : zs_45[j]? = some x) (hx : x % 256 = x) : bY code (32 * 45 + j) x := by
  rw [zt_code]
  exact bY_of (up_45 h) hx
theorem dz_187 {a b : Nat} {cc : ByteArray} {pc : Nat} (h0 : bY cc pc 187) (h1 : bY cc (pc + 1) a) (h2 : bY cc (pc + 1 + 1) b) : decode cc pc = .ok (.new (a * 256 + b), 3) := dz_dec ((dz_bind (r := Reader.u1) (dz_u1 h0)).trans ((dz_bind (r := Reader.u2) (dz_u2 h1 h2)).trans rfl))
theorem dz_89 {cc : ByteArray} {pc : Nat} (h0 : bY cc pc 89) : decode cc pc = .ok (.dup, 1) := dz_dec ((dz_bind (r := Reader.u1) (dz_u1 h0)).trans rfl)
theorem dz_183 {a b : Nat} {cc : ByteArray} {pc : Nat} (h0 : bY cc pc 183) (h1 : bY cc (pc + 1) a) (h2 : bY cc (pc + 1 + 1) b) : decode cc pc = .ok (.invokespecial (a * 256 + b), 3) := dz_dec ((dz_bind (r := Reader.u1) (dz_u1 h0)).trans ((dz_bind (r := Reader.u2) (dz_u2 h1 h2)).trans rfl))
theorem dz_76 {cc : ByteArray} {pc : Nat} (h0 : bY cc pc 76) : decode cc pc = .ok (.astore_n 1, 1) := dz_dec ((dz_bind (r := Reader.u1) (dz_u1 h0)).trans rfl)
theorem dz_77 {cc : ByteArray} {pc : Nat} (h0 : bY cc pc 77) : decode cc pc = .ok (.astore_n 2, 1) := dz_dec ((dz_bind (r := Reader.u1) (dz_u1 h0)).trans rfl)
theorem dz_4 {cc : ByteArray} {pc : Nat} (h0 : bY cc pc 4) : decode cc pc = .ok (.iconst 1, 1) := dz_dec ((dz_bind (r := Reader.u1) (dz_u1 h0)).trans rfl)
theorem dz_78 {cc : ByteArray} {pc : Nat} (h0 : bY cc pc 78) : decode cc pc = .ok (.astore_n 3, 1) := dz_dec ((dz_bind (r := Reader.u1) (dz_u1 h0)).trans rfl)
theorem dz_58 {a : Nat} {cc : ByteArray} {pc : Nat} (h0 : bY cc pc 58) (h1 : bY cc (pc + 1) a) : decode cc pc = .ok (.astore a, 2) := dz_dec ((dz_bind (r := Reader.u1) (dz_u1 h0)).trans ((dz_bind (r := Reader.u1) (dz_u1 h1)).trans rfl))
theorem dz_3 {cc : ByteArray} {pc : Nat} (h0 : bY cc pc 3) : decode cc pc = .ok (.iconst 0, 1) := dz_dec ((dz_bind (r := Reader.u1) (dz_u1 h0)).trans rfl)
theorem dz_54 {a : Nat} {cc : ByteArray} {pc : Nat} (h0 : bY cc pc 54) (h1 : bY cc (pc + 1) a) : decode cc pc = .ok (.istore a, 2) := dz_dec ((dz_bind (r := Reader.u1) (dz_u1 h0)).trans ((dz_bind (r := Reader.u1) (dz_u1 h1)).trans rfl))
theorem dz_21 {a : Nat} {cc : ByteArray} {pc : Nat} (h0 : bY cc pc 21) (h1 : bY cc (pc + 1) a) : decode cc pc = .ok (.iload a, 2) := dz_dec ((dz_bind (r := Reader.u1) (dz_u1 h0)).trans ((dz_bind (r := Reader.u1) (dz_u1 h1)).trans rfl))
theorem dz_42 {cc : ByteArray} {pc : Nat} (h0 : bY cc pc 42) : decode cc pc = .ok (.aload_n 0, 1) := dz_dec ((dz_bind (r := Reader.u1) (dz_u1 h0)).trans rfl)
theorem dz_190 {cc : ByteArray} {pc : Nat} (h0 : bY cc pc 190) : decode cc pc = .ok (.arraylength, 1) := dz_dec ((dz_bind (r := Reader.u1) (dz_u1 h0)).trans rfl)
theorem dz_7 {cc : ByteArray} {pc : Nat} (h0 : bY cc pc 7) : decode cc pc = .ok (.iconst 4, 1) := dz_dec ((dz_bind (r := Reader.u1) (dz_u1 h0)).trans rfl)
theorem dz_100 {cc : ByteArray} {pc : Nat} (h0 : bY cc pc 100) : decode cc pc = .ok (.isub, 1) := dz_dec ((dz_bind (r := Reader.u1) (dz_u1 h0)).trans rfl)
theorem dz_163 {a b : Nat} {v : Int} {cc : ByteArray} {pc : Nat} (h0 : bY cc pc 163) (h1 : bY cc (pc + 1) a) (h2 : bY cc (pc + 1 + 1) b) (hv : Reader.signed 16 (a * 256 + b) = v) : decode cc pc = .ok (.if_icmp .gt v, 3) := dz_dec ((dz_bind (r := Reader.u1) (dz_u1 h0)).trans ((dz_bind (r := Reader.s2) (dz_s2 h1 h2 hv)).trans rfl))
theorem dz_46 {cc : ByteArray} {pc : Nat} (h0 : bY cc pc 46) : decode cc pc = .ok (.iaload, 1) := dz_dec ((dz_bind (r := Reader.u1) (dz_u1 h0)).trans rfl)
theorem dz_16 {a : Nat} {v : Int} {cc : ByteArray} {pc : Nat} (h0 : bY cc pc 16) (h1 : bY cc (pc + 1) a) (hv : Reader.signed 8 a = v) : decode cc pc = .ok (.bipush v, 2) := dz_dec ((dz_bind (r := Reader.u1) (dz_u1 h0)).trans ((dz_bind (r := Reader.s1) (dz_s1 h1 hv)).trans rfl))
theorem dz_126 {cc : ByteArray} {pc : Nat} (h0 : bY cc pc 126) : decode cc pc = .ok (.iand, 1) := dz_dec ((dz_bind (r := Reader.u1) (dz_u1 h0)).trans rfl)
theorem dz_43 {cc : ByteArray} {pc : Nat} (h0 : bY cc pc 43) : decode cc pc = .ok (.aload_n 1, 1) := dz_dec ((dz_bind (r := Reader.u1) (dz_u1 h0)).trans rfl)
theorem dz_96 {cc : ByteArray} {pc : Nat} (h0 : bY cc pc 96) : decode cc pc = .ok (.iadd, 1) := dz_dec ((dz_bind (r := Reader.u1) (dz_u1 h0)).trans rfl)
theorem dz_5 {cc : ByteArray} {pc : Nat} (h0 : bY cc pc 5) : decode cc pc = .ok (.iconst 2, 1) := dz_dec ((dz_bind (r := Reader.u1) (dz_u1 h0)).trans rfl)
theorem dz_6 {cc : ByteArray} {pc : Nat} (h0 : bY cc pc 6) : decode cc pc = .ok (.iconst 3, 1) := dz_dec ((dz_bind (r := Reader.u1) (dz_u1 h0)).trans rfl)
theorem dz_45 {cc : ByteArray} {pc : Nat} (h0 : bY cc pc 45) : decode cc pc = .ok (.aload_n 3, 1) := dz_dec ((dz_bind (r := Reader.u1) (dz_u1 h0)).trans rfl)
theorem dz_184 {a b : Nat} {cc : ByteArray} {pc : Nat} (h0 : bY cc pc 184) (h1 : bY cc (pc + 1) a) (h2 : bY cc (pc + 1 + 1) b) : decode cc pc = .ok (.invokestatic (a * 256 + b), 3) := dz_dec ((dz_bind (r := Reader.u1) (dz_u1 h0)).trans ((dz_bind (r := Reader.u2) (dz_u2 h1 h2)).trans rfl))
theorem dz_44 {cc : ByteArray} {pc : Nat} (h0 : bY cc pc 44) : decode cc pc = .ok (.aload_n 2, 1) := dz_dec ((dz_bind (r := Reader.u1) (dz_u1 h0)).trans rfl)
theorem dz_182 {a b : Nat} {cc : ByteArray} {pc : Nat} (h0 : bY cc pc 182) (h1 : bY cc (pc + 1) a) (h2 : bY cc (pc + 1 + 1) b) : decode cc pc = .ok (.invokevirtual (a * 256 + b), 3) := dz_dec ((dz_bind (r := Reader.u1) (dz_u1 h0)).trans ((dz_bind (r := Reader.u2) (dz_u2 h1 h2)).trans rfl))
theorem dz_167 {a b : Nat} {v : Int} {cc : ByteArray} {pc : Nat} (h0 : bY cc pc 167) (h1 : bY cc (pc + 1) a) (h2 : bY cc (pc + 1 + 1) b) (hv : Reader.signed 16 (a * 256 + b) = v) : decode cc pc = .ok (.goto v, 3) := dz_dec ((dz_bind (r := Reader.u1) (dz_u1 h0)).trans ((dz_bind (r := Reader.s2) (dz_s2 h1 h2 hv)).trans rfl))
theorem dz_87 {cc : ByteArray} {pc : Nat} (h0 : bY cc pc 87) : decode cc pc = .ok (.pop, 1) := dz_dec ((dz_bind (r := Reader.u1) (dz_u1 h0)).trans rfl)
theorem dz_25 {a : Nat} {cc : ByteArray} {pc : Nat} (h0 : bY cc pc 25) (h1 : bY cc (pc + 1) a) : decode cc pc = .ok (.aload a, 2) := dz_dec ((dz_bind (r := Reader.u1) (dz_u1 h0)).trans ((dz_bind (r := Reader.u1) (dz_u1 h1)).trans rfl))
theorem dz_57 {a : Nat} {cc : ByteArray} {pc : Nat} (h0 : bY cc pc 57) (h1 : bY cc (pc + 1) a) : decode cc pc = .ok (.dstore a, 2) := dz_dec ((dz_bind (r := Reader.u1) (dz_u1 h0)).trans ((dz_bind (r := Reader.u1) (dz_u1 h1)).trans rfl))
theorem dz_56 {a : Nat} {cc : ByteArray} {pc : Nat} (h0 : bY cc pc 56) (h1 : bY cc (pc + 1) a) : decode cc pc = .ok (.fstore a, 2) := dz_dec ((dz_bind (r := Reader.u1) (dz_u1 h0)).trans ((dz_bind (r := Reader.u1) (dz_u1 h1)).trans rfl))
theorem dz_146 {cc : ByteArray} {pc : Nat} (h0 : bY cc pc 146) : decode cc pc = .ok (.i2c, 1) := dz_dec ((dz_bind (r := Reader.u1) (dz_u1 h0)).trans rfl)
theorem dz_159 {a b : Nat} {v : Int} {cc : ByteArray} {pc : Nat} (h0 : bY cc pc 159) (h1 : bY cc (pc + 1) a) (h2 : bY cc (pc + 1 + 1) b) (hv : Reader.signed 16 (a * 256 + b) = v) : decode cc pc = .ok (.if_icmp .eq v, 3) := dz_dec ((dz_bind (r := Reader.u1) (dz_u1 h0)).trans ((dz_bind (r := Reader.s2) (dz_s2 h1 h2 hv)).trans rfl))
theorem dz_172 {cc : ByteArray} {pc : Nat} (h0 : bY cc pc 172) : decode cc pc = .ok (.ireturn, 1) := dz_dec ((dz_bind (r := Reader.u1) (dz_u1 h0)).trans rfl)
theorem dL_law_0 : decode code 0 = .ok (.new 8, 3) := dz_187 (bz_0 0 187 rfl rfl) (bz_0 1 0 rfl rfl) (bz_0 2 8 rfl rfl)
theorem dL_law_3 : decode code 3 = .ok (.dup, 1) := dz_89 (bz_0 3 89 rfl rfl)
theorem dL_law_4 : decode code 4 = .ok (.invokespecial 139, 3) := dz_183 (bz_0 4 183 rfl rfl) (bz_0 5 0 rfl rfl) (bz_0 6 139 rfl rfl)
theorem dL_law_7 : decode code 7 = .ok (.astore_n 1, 1) := dz_76 (bz_0 7 76 rfl rfl)
theorem dL_law_8 : decode code 8 = .ok (.new 140, 3) := dz_187 (bz_0 8 187 rfl rfl) (bz_0 9 0 rfl rfl) (bz_0 10 140 rfl rfl)
theorem dL_law_11 : decode code 11 = .ok (.dup, 1) := dz_89 (bz_0 11 89 rfl rfl)
theorem dL_law_12 : decode code 12 = .ok (.invokespecial 142, 3) := dz_183 (bz_0 12 183 rfl rfl) (bz_0 13 0 rfl rfl) (bz_0 14 142 rfl rfl)
theorem dL_law_15 : decode code 15 = .ok (.astore_n 2, 1) := dz_77 (bz_0 15 77 rfl rfl)
theorem dL_law_16 : decode code 16 = .ok (.iconst 1, 1) := dz_4 (bz_0 16 4 rfl rfl)
theorem dL_law_17 : decode code 17 = .ok (.newarray .long, 2) := by decide +kernel
theorem dL_law_19 : decode code 19 = .ok (.astore_n 3, 1) := dz_78 (bz_0 19 78 rfl rfl)
theorem dL_law_20 : decode code 20 = .ok (.iconst 1, 1) := dz_4 (bz_0 20 4 rfl rfl)
theorem dL_law_21 : decode code 21 = .ok (.newarray .double, 2) := by decide +kernel
theorem dL_law_23 : decode code 23 = .ok (.astore 4, 2) := dz_58 (bz_0 23 58 rfl rfl) (bz_0 24 4 rfl rfl)
theorem dL_law_25 : decode code 25 = .ok (.iconst 0, 1) := dz_3 (bz_0 25 3 rfl rfl)
theorem dL_law_26 : decode code 26 = .ok (.istore 5, 2) := dz_54 (bz_0 26 54 rfl rfl) (bz_0 27 5 rfl rfl)
theorem dL_law_28 : decode code 28 = .ok (.iload 5, 2) := dz_21 (bz_0 28 21 rfl rfl) (bz_0 29 5 rfl rfl)
theorem dL_law_30 : decode code 30 = .ok (.aload_n 0, 1) := dz_42 (bz_0 30 42 rfl rfl)
theorem dL_law_31 : decode code 31 = .ok (.arraylength, 1) := dz_190 (bz_0 31 190 rfl rfl)
theorem dL_law_32 : decode code 32 = .ok (.iconst 4, 1) := dz_7 (bz_1 0 7 rfl rfl)
theorem dL_law_33 : decode code 33 = .ok (.isub, 1) := dz_100 (bz_1 1 100 rfl rfl)
theorem dL_law_34 : decode code 34 = .ok (.if_icmp .gt 1434, 3) := dz_163 (bz_1 2 163 rfl rfl) (bz_1 3 5 rfl rfl) (bz_1 4 154 rfl rfl) (by decide +kernel)
theorem dL_law_37 : decode code 37 = .ok (.aload_n 0, 1) := dz_42 (bz_1 5 42 rfl rfl)
theorem dL_law_38 : decode code 38 = .ok (.iload 5, 2) := dz_21 (bz_1 6 21 rfl rfl) (bz_1 7 5 rfl rfl)
theorem dL_law_40 : decode code 40 = .ok (.iaload, 1) := dz_46 (bz_1 8 46 rfl rfl)
theorem dL_law_41 : decode code 41 = .ok (.bipush 63, 2) := dz_16 (bz_1 9 16 rfl rfl) (bz_1 10 63 rfl rfl) (by decide +kernel)
theorem dL_law_43 : decode code 43 = .ok (.iand, 1) := dz_126 (bz_1 11 126 rfl rfl)
theorem dL_law_44 : decode code 44 = .ok (.tableswitch 1418 0 47 #[208, 260, 300, 352, 392, 420, 448, 461, 474, 502, 530, 558, 586, 626, 639, 667, 695, 723, 751, 779, 807, 835, 863, 891, 931, 971, 1011, 1039, 1067, 1080, 1093, 1106, 1119, 1147, 1160, 1173, 1186, 1203, 1220, 1233, 1263, 1279, 1295, 1311, 1339, 1367, 1383, 1394], 208) := by decide +kernel
theorem dL_law_252 : decode code 252 = .ok (.aload_n 1, 1) := dz_43 (bz_7 28 43 rfl rfl)
theorem dL_law_253 : decode code 253 = .ok (.aload_n 0, 1) := dz_42 (bz_7 29 42 rfl rfl)
theorem dL_law_254 : decode code 254 = .ok (.iload 5, 2) := dz_21 (bz_7 30 21 rfl rfl) (bz_7 31 5 rfl rfl)
theorem dL_law_256 : decode code 256 = .ok (.iconst 1, 1) := dz_4 (bz_8 0 4 rfl rfl)
theorem dL_law_257 : decode code 257 = .ok (.iadd, 1) := dz_96 (bz_8 1 96 rfl rfl)
theorem dL_law_258 : decode code 258 = .ok (.iaload, 1) := dz_46 (bz_8 2 46 rfl rfl)
theorem dL_law_259 : decode code 259 = .ok (.aload_n 0, 1) := dz_42 (bz_8 3 42 rfl rfl)
theorem dL_law_260 : decode code 260 = .ok (.iload 5, 2) := dz_21 (bz_8 4 21 rfl rfl) (bz_8 5 5 rfl rfl)
theorem dL_law_262 : decode code 262 = .ok (.iconst 2, 1) := dz_5 (bz_8 6 5 rfl rfl)
theorem dL_law_263 : decode code 263 = .ok (.iadd, 1) := dz_96 (bz_8 7 96 rfl rfl)
theorem dL_law_264 : decode code 264 = .ok (.iaload, 1) := dz_46 (bz_8 8 46 rfl rfl)
theorem dL_law_265 : decode code 265 = .ok (.aload_n 0, 1) := dz_42 (bz_8 9 42 rfl rfl)
theorem dL_law_266 : decode code 266 = .ok (.iload 5, 2) := dz_21 (bz_8 10 21 rfl rfl) (bz_8 11 5 rfl rfl)
theorem dL_law_268 : decode code 268 = .ok (.iconst 3, 1) := dz_6 (bz_8 12 6 rfl rfl)
theorem dL_law_269 : decode code 269 = .ok (.iadd, 1) := dz_96 (bz_8 13 96 rfl rfl)
theorem dL_law_270 : decode code 270 = .ok (.iaload, 1) := dz_46 (bz_8 14 46 rfl rfl)
theorem dL_law_271 : decode code 271 = .ok (.aload_n 3, 1) := dz_45 (bz_8 15 45 rfl rfl)
theorem dL_law_272 : decode code 272 = .ok (.invokestatic 143, 3) := dz_184 (bz_8 16 184 rfl rfl) (bz_8 17 0 rfl rfl) (bz_8 18 143 rfl rfl)
theorem dL_law_275 : decode code 275 = .ok (.istore 6, 2) := dz_54 (bz_8 19 54 rfl rfl) (bz_8 20 6 rfl rfl)
theorem dL_law_277 : decode code 277 = .ok (.aload_n 2, 1) := dz_44 (bz_8 21 44 rfl rfl)
theorem dL_law_278 : decode code 278 = .ok (.aload_n 0, 1) := dz_42 (bz_8 22 42 rfl rfl)
theorem dL_law_279 : decode code 279 = .ok (.iload 5, 2) := dz_21 (bz_8 23 21 rfl rfl) (bz_8 24 5 rfl rfl)
theorem dL_law_281 : decode code 281 = .ok (.iconst 1, 1) := dz_4 (bz_8 25 4 rfl rfl)
theorem dL_law_282 : decode code 282 = .ok (.iadd, 1) := dz_96 (bz_8 26 96 rfl rfl)
theorem dL_law_283 : decode code 283 = .ok (.iaload, 1) := dz_46 (bz_8 27 46 rfl rfl)
theorem dL_law_284 : decode code 284 = .ok (.aload_n 0, 1) := dz_42 (bz_8 28 42 rfl rfl)
theorem dL_law_285 : decode code 285 = .ok (.iload 5, 2) := dz_21 (bz_8 29 21 rfl rfl) (bz_8 30 5 rfl rfl)
theorem dL_law_287 : decode code 287 = .ok (.iconst 2, 1) := dz_5 (bz_8 31 5 rfl rfl)
theorem dL_law_288 : decode code 288 = .ok (.iadd, 1) := dz_96 (bz_9 0 96 rfl rfl)
theorem dL_law_289 : decode code 289 = .ok (.iaload, 1) := dz_46 (bz_9 1 46 rfl rfl)
theorem dL_law_290 : decode code 290 = .ok (.aload_n 0, 1) := dz_42 (bz_9 2 42 rfl rfl)
theorem dL_law_291 : decode code 291 = .ok (.iload 5, 2) := dz_21 (bz_9 3 21 rfl rfl) (bz_9 4 5 rfl rfl)
theorem dL_law_293 : decode code 293 = .ok (.iconst 3, 1) := dz_6 (bz_9 5 6 rfl rfl)
theorem dL_law_294 : decode code 294 = .ok (.iadd, 1) := dz_96 (bz_9 6 96 rfl rfl)
theorem dL_law_295 : decode code 295 = .ok (.iaload, 1) := dz_46 (bz_9 7 46 rfl rfl)
theorem dL_law_296 : decode code 296 = .ok (.invokevirtual 148, 3) := dz_182 (bz_9 8 182 rfl rfl) (bz_9 9 0 rfl rfl) (bz_9 10 148 rfl rfl)
theorem dL_law_299 : decode code 299 = .ok (.istore 7, 2) := dz_54 (bz_9 11 54 rfl rfl) (bz_9 12 7 rfl rfl)
theorem dL_law_301 : decode code 301 = .ok (.goto 1161, 3) := dz_167 (bz_9 13 167 rfl rfl) (bz_9 14 4 rfl rfl) (bz_9 15 137 rfl rfl) (by decide +kernel)
theorem dL_law_304 : decode code 304 = .ok (.aload_n 1, 1) := dz_43 (bz_9 16 43 rfl rfl)
theorem dL_law_305 : decode code 305 = .ok (.aload_n 0, 1) := dz_42 (bz_9 17 42 rfl rfl)
theorem dL_law_306 : decode code 306 = .ok (.iload 5, 2) := dz_21 (bz_9 18 21 rfl rfl) (bz_9 19 5 rfl rfl)
theorem dL_law_308 : decode code 308 = .ok (.iconst 1, 1) := dz_4 (bz_9 20 4 rfl rfl)
theorem dL_law_309 : decode code 309 = .ok (.iadd, 1) := dz_96 (bz_9 21 96 rfl rfl)
theorem dL_law_310 : decode code 310 = .ok (.iaload, 1) := dz_46 (bz_9 22 46 rfl rfl)
theorem dL_law_311 : decode code 311 = .ok (.aload_n 0, 1) := dz_42 (bz_9 23 42 rfl rfl)
theorem dL_law_312 : decode code 312 = .ok (.iload 5, 2) := dz_21 (bz_9 24 21 rfl rfl) (bz_9 25 5 rfl rfl)
theorem dL_law_314 : decode code 314 = .ok (.iconst 2, 1) := dz_5 (bz_9 26 5 rfl rfl)
theorem dL_law_315 : decode code 315 = .ok (.iadd, 1) := dz_96 (bz_9 27 96 rfl rfl)
theorem dL_law_316 : decode code 316 = .ok (.iaload, 1) := dz_46 (bz_9 28 46 rfl rfl)
theorem dL_law_317 : decode code 317 = .ok (.aload_n 3, 1) := dz_45 (bz_9 29 45 rfl rfl)
theorem dL_law_318 : decode code 318 = .ok (.invokestatic 149, 3) := dz_184 (bz_9 30 184 rfl rfl) (bz_9 31 0 rfl rfl) (bz_10 0 149 rfl rfl)
theorem dL_law_321 : decode code 321 = .ok (.istore 6, 2) := dz_54 (bz_10 1 54 rfl rfl) (bz_10 2 6 rfl rfl)
theorem dL_law_323 : decode code 323 = .ok (.aload_n 2, 1) := dz_44 (bz_10 3 44 rfl rfl)
theorem dL_law_324 : decode code 324 = .ok (.aload_n 0, 1) := dz_42 (bz_10 4 42 rfl rfl)
theorem dL_law_325 : decode code 325 = .ok (.iload 5, 2) := dz_21 (bz_10 5 21 rfl rfl) (bz_10 6 5 rfl rfl)
theorem dL_law_327 : decode code 327 = .ok (.iconst 1, 1) := dz_4 (bz_10 7 4 rfl rfl)
theorem dL_law_328 : decode code 328 = .ok (.iadd, 1) := dz_96 (bz_10 8 96 rfl rfl)
theorem dL_law_329 : decode code 329 = .ok (.iaload, 1) := dz_46 (bz_10 9 46 rfl rfl)
theorem dL_law_330 : decode code 330 = .ok (.aload_n 0, 1) := dz_42 (bz_10 10 42 rfl rfl)
theorem dL_law_331 : decode code 331 = .ok (.iload 5, 2) := dz_21 (bz_10 11 21 rfl rfl) (bz_10 12 5 rfl rfl)
theorem dL_law_333 : decode code 333 = .ok (.iconst 2, 1) := dz_5 (bz_10 13 5 rfl rfl)
theorem dL_law_334 : decode code 334 = .ok (.iadd, 1) := dz_96 (bz_10 14 96 rfl rfl)
theorem dL_law_335 : decode code 335 = .ok (.iaload, 1) := dz_46 (bz_10 15 46 rfl rfl)
theorem dL_law_336 : decode code 336 = .ok (.invokevirtual 152, 3) := dz_182 (bz_10 16 182 rfl rfl) (bz_10 17 0 rfl rfl) (bz_10 18 152 rfl rfl)
theorem dL_law_339 : decode code 339 = .ok (.istore 7, 2) := dz_54 (bz_10 19 54 rfl rfl) (bz_10 20 7 rfl rfl)
theorem dL_law_341 : decode code 341 = .ok (.goto 1121, 3) := dz_167 (bz_10 21 167 rfl rfl) (bz_10 22 4 rfl rfl) (bz_10 23 97 rfl rfl) (by decide +kernel)
theorem dL_law_344 : decode code 344 = .ok (.aload_n 1, 1) := dz_43 (bz_10 24 43 rfl rfl)
theorem dL_law_345 : decode code 345 = .ok (.aload_n 0, 1) := dz_42 (bz_10 25 42 rfl rfl)
theorem dL_law_346 : decode code 346 = .ok (.iload 5, 2) := dz_21 (bz_10 26 21 rfl rfl) (bz_10 27 5 rfl rfl)
theorem dL_law_348 : decode code 348 = .ok (.iconst 1, 1) := dz_4 (bz_10 28 4 rfl rfl)
theorem dL_law_349 : decode code 349 = .ok (.iadd, 1) := dz_96 (bz_10 29 96 rfl rfl)
theorem dL_law_350 : decode code 350 = .ok (.iaload, 1) := dz_46 (bz_10 30 46 rfl rfl)
theorem dL_law_351 : decode code 351 = .ok (.aload_n 0, 1) := dz_42 (bz_10 31 42 rfl rfl)
theorem dL_law_352 : decode code 352 = .ok (.iload 5, 2) := dz_21 (bz_11 0 21 rfl rfl) (bz_11 1 5 rfl rfl)
theorem dL_law_354 : decode code 354 = .ok (.iconst 2, 1) := dz_5 (bz_11 2 5 rfl rfl)
theorem dL_law_355 : decode code 355 = .ok (.iadd, 1) := dz_96 (bz_11 3 96 rfl rfl)
theorem dL_law_356 : decode code 356 = .ok (.iaload, 1) := dz_46 (bz_11 4 46 rfl rfl)
theorem dL_law_357 : decode code 357 = .ok (.aload_n 0, 1) := dz_42 (bz_11 5 42 rfl rfl)
theorem dL_law_358 : decode code 358 = .ok (.iload 5, 2) := dz_21 (bz_11 6 21 rfl rfl) (bz_11 7 5 rfl rfl)
theorem dL_law_360 : decode code 360 = .ok (.iconst 3, 1) := dz_6 (bz_11 8 6 rfl rfl)
theorem dL_law_361 : decode code 361 = .ok (.iadd, 1) := dz_96 (bz_11 9 96 rfl rfl)
theorem dL_law_362 : decode code 362 = .ok (.iaload, 1) := dz_46 (bz_11 10 46 rfl rfl)
theorem dL_law_363 : decode code 363 = .ok (.aload_n 3, 1) := dz_45 (bz_11 11 45 rfl rfl)
theorem dL_law_364 : decode code 364 = .ok (.invokestatic 153, 3) := dz_184 (bz_11 12 184 rfl rfl) (bz_11 13 0 rfl rfl) (bz_11 14 153 rfl rfl)
theorem dL_law_367 : decode code 367 = .ok (.istore 6, 2) := dz_54 (bz_11 15 54 rfl rfl) (bz_11 16 6 rfl rfl)
theorem dL_law_369 : decode code 369 = .ok (.aload_n 2, 1) := dz_44 (bz_11 17 44 rfl rfl)
theorem dL_law_370 : decode code 370 = .ok (.aload_n 0, 1) := dz_42 (bz_11 18 42 rfl rfl)
theorem dL_law_371 : decode code 371 = .ok (.iload 5, 2) := dz_21 (bz_11 19 21 rfl rfl) (bz_11 20 5 rfl rfl)
theorem dL_law_373 : decode code 373 = .ok (.iconst 1, 1) := dz_4 (bz_11 21 4 rfl rfl)
theorem dL_law_374 : decode code 374 = .ok (.iadd, 1) := dz_96 (bz_11 22 96 rfl rfl)
theorem dL_law_375 : decode code 375 = .ok (.iaload, 1) := dz_46 (bz_11 23 46 rfl rfl)
theorem dL_law_376 : decode code 376 = .ok (.aload_n 0, 1) := dz_42 (bz_11 24 42 rfl rfl)
theorem dL_law_377 : decode code 377 = .ok (.iload 5, 2) := dz_21 (bz_11 25 21 rfl rfl) (bz_11 26 5 rfl rfl)
theorem dL_law_379 : decode code 379 = .ok (.iconst 2, 1) := dz_5 (bz_11 27 5 rfl rfl)
theorem dL_law_380 : decode code 380 = .ok (.iadd, 1) := dz_96 (bz_11 28 96 rfl rfl)
theorem dL_law_381 : decode code 381 = .ok (.iaload, 1) := dz_46 (bz_11 29 46 rfl rfl)
theorem dL_law_382 : decode code 382 = .ok (.aload_n 0, 1) := dz_42 (bz_11 30 42 rfl rfl)
theorem dL_law_383 : decode code 383 = .ok (.iload 5, 2) := dz_21 (bz_11 31 21 rfl rfl) (bz_12 0 5 rfl rfl)
theorem dL_law_385 : decode code 385 = .ok (.iconst 3, 1) := dz_6 (bz_12 1 6 rfl rfl)
theorem dL_law_386 : decode code 386 = .ok (.iadd, 1) := dz_96 (bz_12 2 96 rfl rfl)
theorem dL_law_387 : decode code 387 = .ok (.iaload, 1) := dz_46 (bz_12 3 46 rfl rfl)
theorem dL_law_388 : decode code 388 = .ok (.invokevirtual 155, 3) := dz_182 (bz_12 4 182 rfl rfl) (bz_12 5 0 rfl rfl) (bz_12 6 155 rfl rfl)
theorem dL_law_391 : decode code 391 = .ok (.istore 7, 2) := dz_54 (bz_12 7 54 rfl rfl) (bz_12 8 7 rfl rfl)
theorem dL_law_393 : decode code 393 = .ok (.goto 1069, 3) := dz_167 (bz_12 9 167 rfl rfl) (bz_12 10 4 rfl rfl) (bz_12 11 45 rfl rfl) (by decide +kernel)
theorem dL_law_396 : decode code 396 = .ok (.aload_n 1, 1) := dz_43 (bz_12 12 43 rfl rfl)
theorem dL_law_397 : decode code 397 = .ok (.aload_n 0, 1) := dz_42 (bz_12 13 42 rfl rfl)
theorem dL_law_398 : decode code 398 = .ok (.iload 5, 2) := dz_21 (bz_12 14 21 rfl rfl) (bz_12 15 5 rfl rfl)
theorem dL_law_400 : decode code 400 = .ok (.iconst 1, 1) := dz_4 (bz_12 16 4 rfl rfl)
theorem dL_law_401 : decode code 401 = .ok (.iadd, 1) := dz_96 (bz_12 17 96 rfl rfl)
theorem dL_law_402 : decode code 402 = .ok (.iaload, 1) := dz_46 (bz_12 18 46 rfl rfl)
theorem dL_law_403 : decode code 403 = .ok (.aload_n 0, 1) := dz_42 (bz_12 19 42 rfl rfl)
theorem dL_law_404 : decode code 404 = .ok (.iload 5, 2) := dz_21 (bz_12 20 21 rfl rfl) (bz_12 21 5 rfl rfl)
theorem dL_law_406 : decode code 406 = .ok (.iconst 2, 1) := dz_5 (bz_12 22 5 rfl rfl)
theorem dL_law_407 : decode code 407 = .ok (.iadd, 1) := dz_96 (bz_12 23 96 rfl rfl)
theorem dL_law_408 : decode code 408 = .ok (.iaload, 1) := dz_46 (bz_12 24 46 rfl rfl)
theorem dL_law_409 : decode code 409 = .ok (.aload_n 3, 1) := dz_45 (bz_12 25 45 rfl rfl)
theorem dL_law_410 : decode code 410 = .ok (.invokestatic 156, 3) := dz_184 (bz_12 26 184 rfl rfl) (bz_12 27 0 rfl rfl) (bz_12 28 156 rfl rfl)
theorem dL_law_413 : decode code 413 = .ok (.istore 6, 2) := dz_54 (bz_12 29 54 rfl rfl) (bz_12 30 6 rfl rfl)
theorem dL_law_415 : decode code 415 = .ok (.aload_n 2, 1) := dz_44 (bz_12 31 44 rfl rfl)
theorem dL_law_416 : decode code 416 = .ok (.aload_n 0, 1) := dz_42 (bz_13 0 42 rfl rfl)
theorem dL_law_417 : decode code 417 = .ok (.iload 5, 2) := dz_21 (bz_13 1 21 rfl rfl) (bz_13 2 5 rfl rfl)
theorem dL_law_419 : decode code 419 = .ok (.iconst 1, 1) := dz_4 (bz_13 3 4 rfl rfl)
theorem dL_law_420 : decode code 420 = .ok (.iadd, 1) := dz_96 (bz_13 4 96 rfl rfl)
theorem dL_law_421 : decode code 421 = .ok (.iaload, 1) := dz_46 (bz_13 5 46 rfl rfl)
theorem dL_law_422 : decode code 422 = .ok (.aload_n 0, 1) := dz_42 (bz_13 6 42 rfl rfl)
theorem dL_law_423 : decode code 423 = .ok (.iload 5, 2) := dz_21 (bz_13 7 21 rfl rfl) (bz_13 8 5 rfl rfl)
theorem dL_law_425 : decode code 425 = .ok (.iconst 2, 1) := dz_5 (bz_13 9 5 rfl rfl)
theorem dL_law_426 : decode code 426 = .ok (.iadd, 1) := dz_96 (bz_13 10 96 rfl rfl)
theorem dL_law_427 : decode code 427 = .ok (.iaload, 1) := dz_46 (bz_13 11 46 rfl rfl)
theorem dL_law_428 : decode code 428 = .ok (.invokevirtual 158, 3) := dz_182 (bz_13 12 182 rfl rfl) (bz_13 13 0 rfl rfl) (bz_13 14 158 rfl rfl)
theorem dL_law_431 : decode code 431 = .ok (.istore 7, 2) := dz_54 (bz_13 15 54 rfl rfl) (bz_13 16 7 rfl rfl)
theorem dL_law_433 : decode code 433 = .ok (.goto 1029, 3) := dz_167 (bz_13 17 167 rfl rfl) (bz_13 18 4 rfl rfl) (bz_13 19 5 rfl rfl) (by decide +kernel)
theorem dL_law_436 : decode code 436 = .ok (.aload_n 1, 1) := dz_43 (bz_13 20 43 rfl rfl)
theorem dL_law_437 : decode code 437 = .ok (.aload_n 0, 1) := dz_42 (bz_13 21 42 rfl rfl)
theorem dL_law_438 : decode code 438 = .ok (.iload 5, 2) := dz_21 (bz_13 22 21 rfl rfl) (bz_13 23 5 rfl rfl)
theorem dL_law_440 : decode code 440 = .ok (.iconst 1, 1) := dz_4 (bz_13 24 4 rfl rfl)
theorem dL_law_441 : decode code 441 = .ok (.iadd, 1) := dz_96 (bz_13 25 96 rfl rfl)
theorem dL_law_442 : decode code 442 = .ok (.iaload, 1) := dz_46 (bz_13 26 46 rfl rfl)
theorem dL_law_443 : decode code 443 = .ok (.aload_n 3, 1) := dz_45 (bz_13 27 45 rfl rfl)
theorem dL_law_444 : decode code 444 = .ok (.invokestatic 159, 3) := dz_184 (bz_13 28 184 rfl rfl) (bz_13 29 0 rfl rfl) (bz_13 30 159 rfl rfl)
theorem dL_law_447 : decode code 447 = .ok (.istore 6, 2) := dz_54 (bz_13 31 54 rfl rfl) (bz_14 0 6 rfl rfl)
theorem dL_law_449 : decode code 449 = .ok (.aload_n 2, 1) := dz_44 (bz_14 1 44 rfl rfl)
theorem dL_law_450 : decode code 450 = .ok (.aload_n 0, 1) := dz_42 (bz_14 2 42 rfl rfl)
theorem dL_law_451 : decode code 451 = .ok (.iload 5, 2) := dz_21 (bz_14 3 21 rfl rfl) (bz_14 4 5 rfl rfl)
theorem dL_law_453 : decode code 453 = .ok (.iconst 1, 1) := dz_4 (bz_14 5 4 rfl rfl)
theorem dL_law_454 : decode code 454 = .ok (.iadd, 1) := dz_96 (bz_14 6 96 rfl rfl)
theorem dL_law_455 : decode code 455 = .ok (.iaload, 1) := dz_46 (bz_14 7 46 rfl rfl)
theorem dL_law_456 : decode code 456 = .ok (.invokevirtual 162, 3) := dz_182 (bz_14 8 182 rfl rfl) (bz_14 9 0 rfl rfl) (bz_14 10 162 rfl rfl)
theorem dL_law_459 : decode code 459 = .ok (.istore 7, 2) := dz_54 (bz_14 11 54 rfl rfl) (bz_14 12 7 rfl rfl)
theorem dL_law_461 : decode code 461 = .ok (.goto 1001, 3) := dz_167 (bz_14 13 167 rfl rfl) (bz_14 14 3 rfl rfl) (bz_14 15 233 rfl rfl) (by decide +kernel)
theorem dL_law_464 : decode code 464 = .ok (.aload_n 1, 1) := dz_43 (bz_14 16 43 rfl rfl)
theorem dL_law_465 : decode code 465 = .ok (.aload_n 0, 1) := dz_42 (bz_14 17 42 rfl rfl)
theorem dL_law_466 : decode code 466 = .ok (.iload 5, 2) := dz_21 (bz_14 18 21 rfl rfl) (bz_14 19 5 rfl rfl)
theorem dL_law_468 : decode code 468 = .ok (.iconst 1, 1) := dz_4 (bz_14 20 4 rfl rfl)
theorem dL_law_469 : decode code 469 = .ok (.iadd, 1) := dz_96 (bz_14 21 96 rfl rfl)
theorem dL_law_470 : decode code 470 = .ok (.iaload, 1) := dz_46 (bz_14 22 46 rfl rfl)
theorem dL_law_471 : decode code 471 = .ok (.aload_n 3, 1) := dz_45 (bz_14 23 45 rfl rfl)
theorem dL_law_472 : decode code 472 = .ok (.invokestatic 163, 3) := dz_184 (bz_14 24 184 rfl rfl) (bz_14 25 0 rfl rfl) (bz_14 26 163 rfl rfl)
theorem dL_law_475 : decode code 475 = .ok (.istore 6, 2) := dz_54 (bz_14 27 54 rfl rfl) (bz_14 28 6 rfl rfl)
theorem dL_law_477 : decode code 477 = .ok (.aload_n 2, 1) := dz_44 (bz_14 29 44 rfl rfl)
theorem dL_law_478 : decode code 478 = .ok (.aload_n 0, 1) := dz_42 (bz_14 30 42 rfl rfl)
theorem dL_law_479 : decode code 479 = .ok (.iload 5, 2) := dz_21 (bz_14 31 21 rfl rfl) (bz_15 0 5 rfl rfl)
theorem dL_law_481 : decode code 481 = .ok (.iconst 1, 1) := dz_4 (bz_15 1 4 rfl rfl)
theorem dL_law_482 : decode code 482 = .ok (.iadd, 1) := dz_96 (bz_15 2 96 rfl rfl)
theorem dL_law_483 : decode code 483 = .ok (.iaload, 1) := dz_46 (bz_15 3 46 rfl rfl)
theorem dL_law_484 : decode code 484 = .ok (.invokevirtual 165, 3) := dz_182 (bz_15 4 182 rfl rfl) (bz_15 5 0 rfl rfl) (bz_15 6 165 rfl rfl)
theorem dL_law_487 : decode code 487 = .ok (.istore 7, 2) := dz_54 (bz_15 7 54 rfl rfl) (bz_15 8 7 rfl rfl)
theorem dL_law_489 : decode code 489 = .ok (.goto 973, 3) := dz_167 (bz_15 9 167 rfl rfl) (bz_15 10 3 rfl rfl) (bz_15 11 205 rfl rfl) (by decide +kernel)
theorem dL_law_492 : decode code 492 = .ok (.aload_n 1, 1) := dz_43 (bz_15 12 43 rfl rfl)
theorem dL_law_493 : decode code 493 = .ok (.invokevirtual 166, 3) := dz_182 (bz_15 13 182 rfl rfl) (bz_15 14 0 rfl rfl) (bz_15 15 166 rfl rfl)
theorem dL_law_496 : decode code 496 = .ok (.pop, 1) := dz_87 (bz_15 16 87 rfl rfl)
theorem dL_law_497 : decode code 497 = .ok (.aload_n 2, 1) := dz_44 (bz_15 17 44 rfl rfl)
theorem dL_law_498 : decode code 498 = .ok (.invokevirtual 169, 3) := dz_182 (bz_15 18 182 rfl rfl) (bz_15 19 0 rfl rfl) (bz_15 20 169 rfl rfl)
theorem dL_law_501 : decode code 501 = .ok (.pop, 1) := dz_87 (bz_15 21 87 rfl rfl)
theorem dL_law_502 : decode code 502 = .ok (.goto 960, 3) := dz_167 (bz_15 22 167 rfl rfl) (bz_15 23 3 rfl rfl) (bz_15 24 192 rfl rfl) (by decide +kernel)
theorem dL_law_505 : decode code 505 = .ok (.aload_n 1, 1) := dz_43 (bz_15 25 43 rfl rfl)
theorem dL_law_506 : decode code 506 = .ok (.invokevirtual 170, 3) := dz_182 (bz_15 26 182 rfl rfl) (bz_15 27 0 rfl rfl) (bz_15 28 170 rfl rfl)
theorem dL_law_509 : decode code 509 = .ok (.pop, 1) := dz_87 (bz_15 29 87 rfl rfl)
theorem dL_law_510 : decode code 510 = .ok (.aload_n 2, 1) := dz_44 (bz_15 30 44 rfl rfl)
theorem dL_law_511 : decode code 511 = .ok (.invokevirtual 173, 3) := dz_182 (bz_15 31 182 rfl rfl) (bz_16 0 0 rfl rfl) (bz_16 1 173 rfl rfl)
theorem dL_law_514 : decode code 514 = .ok (.pop, 1) := dz_87 (bz_16 2 87 rfl rfl)
theorem dL_law_515 : decode code 515 = .ok (.goto 947, 3) := dz_167 (bz_16 3 167 rfl rfl) (bz_16 4 3 rfl rfl) (bz_16 5 179 rfl rfl) (by decide +kernel)
theorem dL_law_518 : decode code 518 = .ok (.aload_n 1, 1) := dz_43 (bz_16 6 43 rfl rfl)
theorem dL_law_519 : decode code 519 = .ok (.aload_n 0, 1) := dz_42 (bz_16 7 42 rfl rfl)
theorem dL_law_520 : decode code 520 = .ok (.iload 5, 2) := dz_21 (bz_16 8 21 rfl rfl) (bz_16 9 5 rfl rfl)
theorem dL_law_522 : decode code 522 = .ok (.iconst 1, 1) := dz_4 (bz_16 10 4 rfl rfl)
theorem dL_law_523 : decode code 523 = .ok (.iadd, 1) := dz_96 (bz_16 11 96 rfl rfl)
theorem dL_law_524 : decode code 524 = .ok (.iaload, 1) := dz_46 (bz_16 12 46 rfl rfl)
theorem dL_law_525 : decode code 525 = .ok (.aload_n 3, 1) := dz_45 (bz_16 13 45 rfl rfl)
theorem dL_law_526 : decode code 526 = .ok (.invokestatic 174, 3) := dz_184 (bz_16 14 184 rfl rfl) (bz_16 15 0 rfl rfl) (bz_16 16 174 rfl rfl)
theorem dL_law_529 : decode code 529 = .ok (.istore 6, 2) := dz_54 (bz_16 17 54 rfl rfl) (bz_16 18 6 rfl rfl)
theorem dL_law_531 : decode code 531 = .ok (.aload_n 2, 1) := dz_44 (bz_16 19 44 rfl rfl)
theorem dL_law_532 : decode code 532 = .ok (.aload_n 0, 1) := dz_42 (bz_16 20 42 rfl rfl)
theorem dL_law_533 : decode code 533 = .ok (.iload 5, 2) := dz_21 (bz_16 21 21 rfl rfl) (bz_16 22 5 rfl rfl)
theorem dL_law_535 : decode code 535 = .ok (.iconst 1, 1) := dz_4 (bz_16 23 4 rfl rfl)
theorem dL_law_536 : decode code 536 = .ok (.iadd, 1) := dz_96 (bz_16 24 96 rfl rfl)
theorem dL_law_537 : decode code 537 = .ok (.iaload, 1) := dz_46 (bz_16 25 46 rfl rfl)
theorem dL_law_538 : decode code 538 = .ok (.invokevirtual 176, 3) := dz_182 (bz_16 26 182 rfl rfl) (bz_16 27 0 rfl rfl) (bz_16 28 176 rfl rfl)
theorem dL_law_541 : decode code 541 = .ok (.istore 7, 2) := dz_54 (bz_16 29 54 rfl rfl) (bz_16 30 7 rfl rfl)
theorem dL_law_543 : decode code 543 = .ok (.goto 919, 3) := dz_167 (bz_16 31 167 rfl rfl) (bz_17 0 3 rfl rfl) (bz_17 1 151 rfl rfl) (by decide +kernel)
theorem dL_law_546 : decode code 546 = .ok (.aload_n 1, 1) := dz_43 (bz_17 2 43 rfl rfl)
theorem dL_law_547 : decode code 547 = .ok (.aload_n 0, 1) := dz_42 (bz_17 3 42 rfl rfl)
theorem dL_law_548 : decode code 548 = .ok (.iload 5, 2) := dz_21 (bz_17 4 21 rfl rfl) (bz_17 5 5 rfl rfl)
theorem dL_law_550 : decode code 550 = .ok (.iconst 1, 1) := dz_4 (bz_17 6 4 rfl rfl)
theorem dL_law_551 : decode code 551 = .ok (.iadd, 1) := dz_96 (bz_17 7 96 rfl rfl)
theorem dL_law_552 : decode code 552 = .ok (.iaload, 1) := dz_46 (bz_17 8 46 rfl rfl)
theorem dL_law_553 : decode code 553 = .ok (.aload_n 3, 1) := dz_45 (bz_17 9 45 rfl rfl)
theorem dL_law_554 : decode code 554 = .ok (.invokestatic 177, 3) := dz_184 (bz_17 10 184 rfl rfl) (bz_17 11 0 rfl rfl) (bz_17 12 177 rfl rfl)
theorem dL_law_557 : decode code 557 = .ok (.istore 6, 2) := dz_54 (bz_17 13 54 rfl rfl) (bz_17 14 6 rfl rfl)
theorem dL_law_559 : decode code 559 = .ok (.aload_n 2, 1) := dz_44 (bz_17 15 44 rfl rfl)
theorem dL_law_560 : decode code 560 = .ok (.aload_n 0, 1) := dz_42 (bz_17 16 42 rfl rfl)
theorem dL_law_561 : decode code 561 = .ok (.iload 5, 2) := dz_21 (bz_17 17 21 rfl rfl) (bz_17 18 5 rfl rfl)
theorem dL_law_563 : decode code 563 = .ok (.iconst 1, 1) := dz_4 (bz_17 19 4 rfl rfl)
theorem dL_law_564 : decode code 564 = .ok (.iadd, 1) := dz_96 (bz_17 20 96 rfl rfl)
theorem dL_law_565 : decode code 565 = .ok (.iaload, 1) := dz_46 (bz_17 21 46 rfl rfl)
theorem dL_law_566 : decode code 566 = .ok (.invokevirtual 179, 3) := dz_182 (bz_17 22 182 rfl rfl) (bz_17 23 0 rfl rfl) (bz_17 24 179 rfl rfl)
theorem dL_law_569 : decode code 569 = .ok (.istore 7, 2) := dz_54 (bz_17 25 54 rfl rfl) (bz_17 26 7 rfl rfl)
theorem dL_law_571 : decode code 571 = .ok (.goto 891, 3) := dz_167 (bz_17 27 167 rfl rfl) (bz_17 28 3 rfl rfl) (bz_17 29 123 rfl rfl) (by decide +kernel)
theorem dL_law_574 : decode code 574 = .ok (.aload_n 1, 1) := dz_43 (bz_17 30 43 rfl rfl)
theorem dL_law_575 : decode code 575 = .ok (.aload_n 0, 1) := dz_42 (bz_17 31 42 rfl rfl)
theorem dL_law_576 : decode code 576 = .ok (.iload 5, 2) := dz_21 (bz_18 0 21 rfl rfl) (bz_18 1 5 rfl rfl)
theorem dL_law_578 : decode code 578 = .ok (.iconst 1, 1) := dz_4 (bz_18 2 4 rfl rfl)
theorem dL_law_579 : decode code 579 = .ok (.iadd, 1) := dz_96 (bz_18 3 96 rfl rfl)
theorem dL_law_580 : decode code 580 = .ok (.iaload, 1) := dz_46 (bz_18 4 46 rfl rfl)
theorem dL_law_581 : decode code 581 = .ok (.aload_n 3, 1) := dz_45 (bz_18 5 45 rfl rfl)
theorem dL_law_582 : decode code 582 = .ok (.invokestatic 180, 3) := dz_184 (bz_18 6 184 rfl rfl) (bz_18 7 0 rfl rfl) (bz_18 8 180 rfl rfl)
theorem dL_law_585 : decode code 585 = .ok (.istore 6, 2) := dz_54 (bz_18 9 54 rfl rfl) (bz_18 10 6 rfl rfl)
theorem dL_law_587 : decode code 587 = .ok (.aload_n 2, 1) := dz_44 (bz_18 11 44 rfl rfl)
theorem dL_law_588 : decode code 588 = .ok (.aload_n 0, 1) := dz_42 (bz_18 12 42 rfl rfl)
theorem dL_law_589 : decode code 589 = .ok (.iload 5, 2) := dz_21 (bz_18 13 21 rfl rfl) (bz_18 14 5 rfl rfl)
theorem dL_law_591 : decode code 591 = .ok (.iconst 1, 1) := dz_4 (bz_18 15 4 rfl rfl)
theorem dL_law_592 : decode code 592 = .ok (.iadd, 1) := dz_96 (bz_18 16 96 rfl rfl)
theorem dL_law_593 : decode code 593 = .ok (.iaload, 1) := dz_46 (bz_18 17 46 rfl rfl)
theorem dL_law_594 : decode code 594 = .ok (.invokevirtual 182, 3) := dz_182 (bz_18 18 182 rfl rfl) (bz_18 19 0 rfl rfl) (bz_18 20 182 rfl rfl)
theorem dL_law_597 : decode code 597 = .ok (.istore 7, 2) := dz_54 (bz_18 21 54 rfl rfl) (bz_18 22 7 rfl rfl)
theorem dL_law_599 : decode code 599 = .ok (.goto 863, 3) := dz_167 (bz_18 23 167 rfl rfl) (bz_18 24 3 rfl rfl) (bz_18 25 95 rfl rfl) (by decide +kernel)
theorem dL_law_602 : decode code 602 = .ok (.aload_n 1, 1) := dz_43 (bz_18 26 43 rfl rfl)
theorem dL_law_603 : decode code 603 = .ok (.aload_n 0, 1) := dz_42 (bz_18 27 42 rfl rfl)
theorem dL_law_604 : decode code 604 = .ok (.iload 5, 2) := dz_21 (bz_18 28 21 rfl rfl) (bz_18 29 5 rfl rfl)
theorem dL_law_606 : decode code 606 = .ok (.iconst 1, 1) := dz_4 (bz_18 30 4 rfl rfl)
theorem dL_law_607 : decode code 607 = .ok (.iadd, 1) := dz_96 (bz_18 31 96 rfl rfl)
theorem dL_law_608 : decode code 608 = .ok (.iaload, 1) := dz_46 (bz_19 0 46 rfl rfl)
theorem dL_law_609 : decode code 609 = .ok (.aload_n 3, 1) := dz_45 (bz_19 1 45 rfl rfl)
theorem dL_law_610 : decode code 610 = .ok (.invokestatic 183, 3) := dz_184 (bz_19 2 184 rfl rfl) (bz_19 3 0 rfl rfl) (bz_19 4 183 rfl rfl)
theorem dL_law_613 : decode code 613 = .ok (.istore 6, 2) := dz_54 (bz_19 5 54 rfl rfl) (bz_19 6 6 rfl rfl)
theorem dL_law_615 : decode code 615 = .ok (.aload_n 2, 1) := dz_44 (bz_19 7 44 rfl rfl)
theorem dL_law_616 : decode code 616 = .ok (.aload_n 0, 1) := dz_42 (bz_19 8 42 rfl rfl)
theorem dL_law_617 : decode code 617 = .ok (.iload 5, 2) := dz_21 (bz_19 9 21 rfl rfl) (bz_19 10 5 rfl rfl)
theorem dL_law_619 : decode code 619 = .ok (.iconst 1, 1) := dz_4 (bz_19 11 4 rfl rfl)
theorem dL_law_620 : decode code 620 = .ok (.iadd, 1) := dz_96 (bz_19 12 96 rfl rfl)
theorem dL_law_621 : decode code 621 = .ok (.iaload, 1) := dz_46 (bz_19 13 46 rfl rfl)
theorem dL_law_622 : decode code 622 = .ok (.invokevirtual 185, 3) := dz_182 (bz_19 14 182 rfl rfl) (bz_19 15 0 rfl rfl) (bz_19 16 185 rfl rfl)
theorem dL_law_625 : decode code 625 = .ok (.istore 7, 2) := dz_54 (bz_19 17 54 rfl rfl) (bz_19 18 7 rfl rfl)
theorem dL_law_627 : decode code 627 = .ok (.goto 835, 3) := dz_167 (bz_19 19 167 rfl rfl) (bz_19 20 3 rfl rfl) (bz_19 21 67 rfl rfl) (by decide +kernel)
theorem dL_law_630 : decode code 630 = .ok (.aload_n 1, 1) := dz_43 (bz_19 22 43 rfl rfl)
theorem dL_law_631 : decode code 631 = .ok (.aload_n 0, 1) := dz_42 (bz_19 23 42 rfl rfl)
theorem dL_law_632 : decode code 632 = .ok (.iload 5, 2) := dz_21 (bz_19 24 21 rfl rfl) (bz_19 25 5 rfl rfl)
theorem dL_law_634 : decode code 634 = .ok (.iconst 1, 1) := dz_4 (bz_19 26 4 rfl rfl)
theorem dL_law_635 : decode code 635 = .ok (.iadd, 1) := dz_96 (bz_19 27 96 rfl rfl)
theorem dL_law_636 : decode code 636 = .ok (.iaload, 1) := dz_46 (bz_19 28 46 rfl rfl)
theorem dL_law_637 : decode code 637 = .ok (.aload_n 0, 1) := dz_42 (bz_19 29 42 rfl rfl)
theorem dL_law_638 : decode code 638 = .ok (.iload 5, 2) := dz_21 (bz_19 30 21 rfl rfl) (bz_19 31 5 rfl rfl)
theorem dL_law_640 : decode code 640 = .ok (.iconst 2, 1) := dz_5 (bz_20 0 5 rfl rfl)
theorem dL_law_641 : decode code 641 = .ok (.iadd, 1) := dz_96 (bz_20 1 96 rfl rfl)
theorem dL_law_642 : decode code 642 = .ok (.iaload, 1) := dz_46 (bz_20 2 46 rfl rfl)
theorem dL_law_643 : decode code 643 = .ok (.aload_n 3, 1) := dz_45 (bz_20 3 45 rfl rfl)
theorem dL_law_644 : decode code 644 = .ok (.invokestatic 186, 3) := dz_184 (bz_20 4 184 rfl rfl) (bz_20 5 0 rfl rfl) (bz_20 6 186 rfl rfl)
theorem dL_law_647 : decode code 647 = .ok (.istore 6, 2) := dz_54 (bz_20 7 54 rfl rfl) (bz_20 8 6 rfl rfl)
theorem dL_law_649 : decode code 649 = .ok (.aload_n 2, 1) := dz_44 (bz_20 9 44 rfl rfl)
theorem dL_law_650 : decode code 650 = .ok (.aload_n 0, 1) := dz_42 (bz_20 10 42 rfl rfl)
theorem dL_law_651 : decode code 651 = .ok (.iload 5, 2) := dz_21 (bz_20 11 21 rfl rfl) (bz_20 12 5 rfl rfl)
theorem dL_law_653 : decode code 653 = .ok (.iconst 1, 1) := dz_4 (bz_20 13 4 rfl rfl)
theorem dL_law_654 : decode code 654 = .ok (.iadd, 1) := dz_96 (bz_20 14 96 rfl rfl)
theorem dL_law_655 : decode code 655 = .ok (.iaload, 1) := dz_46 (bz_20 15 46 rfl rfl)
theorem dL_law_656 : decode code 656 = .ok (.aload_n 0, 1) := dz_42 (bz_20 16 42 rfl rfl)
theorem dL_law_657 : decode code 657 = .ok (.iload 5, 2) := dz_21 (bz_20 17 21 rfl rfl) (bz_20 18 5 rfl rfl)
theorem dL_law_659 : decode code 659 = .ok (.iconst 2, 1) := dz_5 (bz_20 19 5 rfl rfl)
theorem dL_law_660 : decode code 660 = .ok (.iadd, 1) := dz_96 (bz_20 20 96 rfl rfl)
theorem dL_law_661 : decode code 661 = .ok (.iaload, 1) := dz_46 (bz_20 21 46 rfl rfl)
theorem dL_law_662 : decode code 662 = .ok (.invokevirtual 188, 3) := dz_182 (bz_20 22 182 rfl rfl) (bz_20 23 0 rfl rfl) (bz_20 24 188 rfl rfl)
theorem dL_law_665 : decode code 665 = .ok (.istore 7, 2) := dz_54 (bz_20 25 54 rfl rfl) (bz_20 26 7 rfl rfl)
theorem dL_law_667 : decode code 667 = .ok (.goto 795, 3) := dz_167 (bz_20 27 167 rfl rfl) (bz_20 28 3 rfl rfl) (bz_20 29 27 rfl rfl) (by decide +kernel)
theorem dL_law_670 : decode code 670 = .ok (.aload_n 1, 1) := dz_43 (bz_20 30 43 rfl rfl)
theorem dL_law_671 : decode code 671 = .ok (.invokevirtual 189, 3) := dz_182 (bz_20 31 182 rfl rfl) (bz_21 0 0 rfl rfl) (bz_21 1 189 rfl rfl)
theorem dL_law_674 : decode code 674 = .ok (.pop, 1) := dz_87 (bz_21 2 87 rfl rfl)
theorem dL_law_675 : decode code 675 = .ok (.aload_n 2, 1) := dz_44 (bz_21 3 44 rfl rfl)
theorem dL_law_676 : decode code 676 = .ok (.invokevirtual 192, 3) := dz_182 (bz_21 4 182 rfl rfl) (bz_21 5 0 rfl rfl) (bz_21 6 192 rfl rfl)
theorem dL_law_679 : decode code 679 = .ok (.pop, 1) := dz_87 (bz_21 7 87 rfl rfl)
theorem dL_law_680 : decode code 680 = .ok (.goto 782, 3) := dz_167 (bz_21 8 167 rfl rfl) (bz_21 9 3 rfl rfl) (bz_21 10 14 rfl rfl) (by decide +kernel)
theorem dL_law_683 : decode code 683 = .ok (.aload_n 1, 1) := dz_43 (bz_21 11 43 rfl rfl)
theorem dL_law_684 : decode code 684 = .ok (.aload_n 0, 1) := dz_42 (bz_21 12 42 rfl rfl)
theorem dL_law_685 : decode code 685 = .ok (.iload 5, 2) := dz_21 (bz_21 13 21 rfl rfl) (bz_21 14 5 rfl rfl)
theorem dL_law_687 : decode code 687 = .ok (.iconst 1, 1) := dz_4 (bz_21 15 4 rfl rfl)
theorem dL_law_688 : decode code 688 = .ok (.iadd, 1) := dz_96 (bz_21 16 96 rfl rfl)
theorem dL_law_689 : decode code 689 = .ok (.iaload, 1) := dz_46 (bz_21 17 46 rfl rfl)
theorem dL_law_690 : decode code 690 = .ok (.aload_n 3, 1) := dz_45 (bz_21 18 45 rfl rfl)
theorem dL_law_691 : decode code 691 = .ok (.invokestatic 193, 3) := dz_184 (bz_21 19 184 rfl rfl) (bz_21 20 0 rfl rfl) (bz_21 21 193 rfl rfl)
theorem dL_law_694 : decode code 694 = .ok (.istore 6, 2) := dz_54 (bz_21 22 54 rfl rfl) (bz_21 23 6 rfl rfl)
theorem dL_law_696 : decode code 696 = .ok (.aload_n 2, 1) := dz_44 (bz_21 24 44 rfl rfl)
theorem dL_law_697 : decode code 697 = .ok (.aload_n 0, 1) := dz_42 (bz_21 25 42 rfl rfl)
theorem dL_law_698 : decode code 698 = .ok (.iload 5, 2) := dz_21 (bz_21 26 21 rfl rfl) (bz_21 27 5 rfl rfl)
theorem dL_law_700 : decode code 700 = .ok (.iconst 1, 1) := dz_4 (bz_21 28 4 rfl rfl)
theorem dL_law_701 : decode code 701 = .ok (.iadd, 1) := dz_96 (bz_21 29 96 rfl rfl)
theorem dL_law_702 : decode code 702 = .ok (.iaload, 1) := dz_46 (bz_21 30 46 rfl rfl)
theorem dL_law_703 : decode code 703 = .ok (.invokevirtual 195, 3) := dz_182 (bz_21 31 182 rfl rfl) (bz_22 0 0 rfl rfl) (bz_22 1 195 rfl rfl)
theorem dL_law_706 : decode code 706 = .ok (.istore 7, 2) := dz_54 (bz_22 2 54 rfl rfl) (bz_22 3 7 rfl rfl)
theorem dL_law_708 : decode code 708 = .ok (.goto 754, 3) := dz_167 (bz_22 4 167 rfl rfl) (bz_22 5 2 rfl rfl) (bz_22 6 242 rfl rfl) (by decide +kernel)
theorem dL_law_711 : decode code 711 = .ok (.aload_n 1, 1) := dz_43 (bz_22 7 43 rfl rfl)
theorem dL_law_712 : decode code 712 = .ok (.aload_n 0, 1) := dz_42 (bz_22 8 42 rfl rfl)
theorem dL_law_713 : decode code 713 = .ok (.iload 5, 2) := dz_21 (bz_22 9 21 rfl rfl) (bz_22 10 5 rfl rfl)
theorem dL_law_715 : decode code 715 = .ok (.iconst 1, 1) := dz_4 (bz_22 11 4 rfl rfl)
theorem dL_law_716 : decode code 716 = .ok (.iadd, 1) := dz_96 (bz_22 12 96 rfl rfl)
theorem dL_law_717 : decode code 717 = .ok (.iaload, 1) := dz_46 (bz_22 13 46 rfl rfl)
theorem dL_law_718 : decode code 718 = .ok (.aload_n 3, 1) := dz_45 (bz_22 14 45 rfl rfl)
theorem dL_law_719 : decode code 719 = .ok (.invokestatic 196, 3) := dz_184 (bz_22 15 184 rfl rfl) (bz_22 16 0 rfl rfl) (bz_22 17 196 rfl rfl)
theorem dL_law_722 : decode code 722 = .ok (.istore 6, 2) := dz_54 (bz_22 18 54 rfl rfl) (bz_22 19 6 rfl rfl)
theorem dL_law_724 : decode code 724 = .ok (.aload_n 2, 1) := dz_44 (bz_22 20 44 rfl rfl)
theorem dL_law_725 : decode code 725 = .ok (.aload_n 0, 1) := dz_42 (bz_22 21 42 rfl rfl)
theorem dL_law_726 : decode code 726 = .ok (.iload 5, 2) := dz_21 (bz_22 22 21 rfl rfl) (bz_22 23 5 rfl rfl)
theorem dL_law_728 : decode code 728 = .ok (.iconst 1, 1) := dz_4 (bz_22 24 4 rfl rfl)
theorem dL_law_729 : decode code 729 = .ok (.iadd, 1) := dz_96 (bz_22 25 96 rfl rfl)
theorem dL_law_730 : decode code 730 = .ok (.iaload, 1) := dz_46 (bz_22 26 46 rfl rfl)
theorem dL_law_731 : decode code 731 = .ok (.invokevirtual 198, 3) := dz_182 (bz_22 27 182 rfl rfl) (bz_22 28 0 rfl rfl) (bz_22 29 198 rfl rfl)
theorem dL_law_734 : decode code 734 = .ok (.istore 7, 2) := dz_54 (bz_22 30 54 rfl rfl) (bz_22 31 7 rfl rfl)
theorem dL_law_736 : decode code 736 = .ok (.goto 726, 3) := dz_167 (bz_23 0 167 rfl rfl) (bz_23 1 2 rfl rfl) (bz_23 2 214 rfl rfl) (by decide +kernel)
theorem dL_law_739 : decode code 739 = .ok (.aload_n 1, 1) := dz_43 (bz_23 3 43 rfl rfl)
theorem dL_law_740 : decode code 740 = .ok (.aload_n 0, 1) := dz_42 (bz_23 4 42 rfl rfl)
theorem dL_law_741 : decode code 741 = .ok (.iload 5, 2) := dz_21 (bz_23 5 21 rfl rfl) (bz_23 6 5 rfl rfl)
theorem dL_law_743 : decode code 743 = .ok (.iconst 1, 1) := dz_4 (bz_23 7 4 rfl rfl)
theorem dL_law_744 : decode code 744 = .ok (.iadd, 1) := dz_96 (bz_23 8 96 rfl rfl)
theorem dL_law_745 : decode code 745 = .ok (.iaload, 1) := dz_46 (bz_23 9 46 rfl rfl)
theorem dL_law_746 : decode code 746 = .ok (.aload_n 3, 1) := dz_45 (bz_23 10 45 rfl rfl)
theorem dL_law_747 : decode code 747 = .ok (.invokestatic 199, 3) := dz_184 (bz_23 11 184 rfl rfl) (bz_23 12 0 rfl rfl) (bz_23 13 199 rfl rfl)
theorem dL_law_750 : decode code 750 = .ok (.istore 6, 2) := dz_54 (bz_23 14 54 rfl rfl) (bz_23 15 6 rfl rfl)
theorem dL_law_752 : decode code 752 = .ok (.aload_n 2, 1) := dz_44 (bz_23 16 44 rfl rfl)
theorem dL_law_753 : decode code 753 = .ok (.aload_n 0, 1) := dz_42 (bz_23 17 42 rfl rfl)
theorem dL_law_754 : decode code 754 = .ok (.iload 5, 2) := dz_21 (bz_23 18 21 rfl rfl) (bz_23 19 5 rfl rfl)
theorem dL_law_756 : decode code 756 = .ok (.iconst 1, 1) := dz_4 (bz_23 20 4 rfl rfl)
theorem dL_law_757 : decode code 757 = .ok (.iadd, 1) := dz_96 (bz_23 21 96 rfl rfl)
theorem dL_law_758 : decode code 758 = .ok (.iaload, 1) := dz_46 (bz_23 22 46 rfl rfl)
theorem dL_law_759 : decode code 759 = .ok (.invokevirtual 201, 3) := dz_182 (bz_23 23 182 rfl rfl) (bz_23 24 0 rfl rfl) (bz_23 25 201 rfl rfl)
theorem dL_law_762 : decode code 762 = .ok (.istore 7, 2) := dz_54 (bz_23 26 54 rfl rfl) (bz_23 27 7 rfl rfl)
theorem dL_law_764 : decode code 764 = .ok (.goto 698, 3) := dz_167 (bz_23 28 167 rfl rfl) (bz_23 29 2 rfl rfl) (bz_23 30 186 rfl rfl) (by decide +kernel)
theorem dL_law_767 : decode code 767 = .ok (.aload_n 1, 1) := dz_43 (bz_23 31 43 rfl rfl)
theorem dL_law_768 : decode code 768 = .ok (.aload_n 0, 1) := dz_42 (bz_24 0 42 rfl rfl)
theorem dL_law_769 : decode code 769 = .ok (.iload 5, 2) := dz_21 (bz_24 1 21 rfl rfl) (bz_24 2 5 rfl rfl)
theorem dL_law_771 : decode code 771 = .ok (.iconst 1, 1) := dz_4 (bz_24 3 4 rfl rfl)
theorem dL_law_772 : decode code 772 = .ok (.iadd, 1) := dz_96 (bz_24 4 96 rfl rfl)
theorem dL_law_773 : decode code 773 = .ok (.iaload, 1) := dz_46 (bz_24 5 46 rfl rfl)
theorem dL_law_774 : decode code 774 = .ok (.aload_n 3, 1) := dz_45 (bz_24 6 45 rfl rfl)
theorem dL_law_775 : decode code 775 = .ok (.invokestatic 202, 3) := dz_184 (bz_24 7 184 rfl rfl) (bz_24 8 0 rfl rfl) (bz_24 9 202 rfl rfl)
theorem dL_law_778 : decode code 778 = .ok (.istore 6, 2) := dz_54 (bz_24 10 54 rfl rfl) (bz_24 11 6 rfl rfl)
theorem dL_law_780 : decode code 780 = .ok (.aload_n 2, 1) := dz_44 (bz_24 12 44 rfl rfl)
theorem dL_law_781 : decode code 781 = .ok (.aload_n 0, 1) := dz_42 (bz_24 13 42 rfl rfl)
theorem dL_law_782 : decode code 782 = .ok (.iload 5, 2) := dz_21 (bz_24 14 21 rfl rfl) (bz_24 15 5 rfl rfl)
theorem dL_law_784 : decode code 784 = .ok (.iconst 1, 1) := dz_4 (bz_24 16 4 rfl rfl)
theorem dL_law_785 : decode code 785 = .ok (.iadd, 1) := dz_96 (bz_24 17 96 rfl rfl)
theorem dL_law_786 : decode code 786 = .ok (.iaload, 1) := dz_46 (bz_24 18 46 rfl rfl)
theorem dL_law_787 : decode code 787 = .ok (.invokevirtual 204, 3) := dz_182 (bz_24 19 182 rfl rfl) (bz_24 20 0 rfl rfl) (bz_24 21 204 rfl rfl)
theorem dL_law_790 : decode code 790 = .ok (.istore 7, 2) := dz_54 (bz_24 22 54 rfl rfl) (bz_24 23 7 rfl rfl)
theorem dL_law_792 : decode code 792 = .ok (.goto 670, 3) := dz_167 (bz_24 24 167 rfl rfl) (bz_24 25 2 rfl rfl) (bz_24 26 158 rfl rfl) (by decide +kernel)
theorem dL_law_795 : decode code 795 = .ok (.aload_n 1, 1) := dz_43 (bz_24 27 43 rfl rfl)
theorem dL_law_796 : decode code 796 = .ok (.aload_n 0, 1) := dz_42 (bz_24 28 42 rfl rfl)
theorem dL_law_797 : decode code 797 = .ok (.iload 5, 2) := dz_21 (bz_24 29 21 rfl rfl) (bz_24 30 5 rfl rfl)
theorem dL_law_799 : decode code 799 = .ok (.iconst 1, 1) := dz_4 (bz_24 31 4 rfl rfl)
theorem dL_law_800 : decode code 800 = .ok (.iadd, 1) := dz_96 (bz_25 0 96 rfl rfl)
theorem dL_law_801 : decode code 801 = .ok (.iaload, 1) := dz_46 (bz_25 1 46 rfl rfl)
theorem dL_law_802 : decode code 802 = .ok (.aload_n 3, 1) := dz_45 (bz_25 2 45 rfl rfl)
theorem dL_law_803 : decode code 803 = .ok (.invokestatic 205, 3) := dz_184 (bz_25 3 184 rfl rfl) (bz_25 4 0 rfl rfl) (bz_25 5 205 rfl rfl)
theorem dL_law_806 : decode code 806 = .ok (.istore 6, 2) := dz_54 (bz_25 6 54 rfl rfl) (bz_25 7 6 rfl rfl)
theorem dL_law_808 : decode code 808 = .ok (.aload_n 2, 1) := dz_44 (bz_25 8 44 rfl rfl)
theorem dL_law_809 : decode code 809 = .ok (.aload_n 0, 1) := dz_42 (bz_25 9 42 rfl rfl)
theorem dL_law_810 : decode code 810 = .ok (.iload 5, 2) := dz_21 (bz_25 10 21 rfl rfl) (bz_25 11 5 rfl rfl)
theorem dL_law_812 : decode code 812 = .ok (.iconst 1, 1) := dz_4 (bz_25 12 4 rfl rfl)
theorem dL_law_813 : decode code 813 = .ok (.iadd, 1) := dz_96 (bz_25 13 96 rfl rfl)
theorem dL_law_814 : decode code 814 = .ok (.iaload, 1) := dz_46 (bz_25 14 46 rfl rfl)
theorem dL_law_815 : decode code 815 = .ok (.invokevirtual 207, 3) := dz_182 (bz_25 15 182 rfl rfl) (bz_25 16 0 rfl rfl) (bz_25 17 207 rfl rfl)
theorem dL_law_818 : decode code 818 = .ok (.istore 7, 2) := dz_54 (bz_25 18 54 rfl rfl) (bz_25 19 7 rfl rfl)
theorem dL_law_820 : decode code 820 = .ok (.goto 642, 3) := dz_167 (bz_25 20 167 rfl rfl) (bz_25 21 2 rfl rfl) (bz_25 22 130 rfl rfl) (by decide +kernel)
theorem dL_law_823 : decode code 823 = .ok (.aload_n 1, 1) := dz_43 (bz_25 23 43 rfl rfl)
theorem dL_law_824 : decode code 824 = .ok (.aload_n 0, 1) := dz_42 (bz_25 24 42 rfl rfl)
theorem dL_law_825 : decode code 825 = .ok (.iload 5, 2) := dz_21 (bz_25 25 21 rfl rfl) (bz_25 26 5 rfl rfl)
theorem dL_law_827 : decode code 827 = .ok (.iconst 1, 1) := dz_4 (bz_25 27 4 rfl rfl)
theorem dL_law_828 : decode code 828 = .ok (.iadd, 1) := dz_96 (bz_25 28 96 rfl rfl)
theorem dL_law_829 : decode code 829 = .ok (.iaload, 1) := dz_46 (bz_25 29 46 rfl rfl)
theorem dL_law_830 : decode code 830 = .ok (.aload_n 3, 1) := dz_45 (bz_25 30 45 rfl rfl)
theorem dL_law_831 : decode code 831 = .ok (.invokestatic 208, 3) := dz_184 (bz_25 31 184 rfl rfl) (bz_26 0 0 rfl rfl) (bz_26 1 208 rfl rfl)
theorem dL_law_834 : decode code 834 = .ok (.istore 6, 2) := dz_54 (bz_26 2 54 rfl rfl) (bz_26 3 6 rfl rfl)
theorem dL_law_836 : decode code 836 = .ok (.aload_n 2, 1) := dz_44 (bz_26 4 44 rfl rfl)
theorem dL_law_837 : decode code 837 = .ok (.aload_n 0, 1) := dz_42 (bz_26 5 42 rfl rfl)
theorem dL_law_838 : decode code 838 = .ok (.iload 5, 2) := dz_21 (bz_26 6 21 rfl rfl) (bz_26 7 5 rfl rfl)
theorem dL_law_840 : decode code 840 = .ok (.iconst 1, 1) := dz_4 (bz_26 8 4 rfl rfl)
theorem dL_law_841 : decode code 841 = .ok (.iadd, 1) := dz_96 (bz_26 9 96 rfl rfl)
theorem dL_law_842 : decode code 842 = .ok (.iaload, 1) := dz_46 (bz_26 10 46 rfl rfl)
theorem dL_law_843 : decode code 843 = .ok (.invokevirtual 210, 3) := dz_182 (bz_26 11 182 rfl rfl) (bz_26 12 0 rfl rfl) (bz_26 13 210 rfl rfl)
theorem dL_law_846 : decode code 846 = .ok (.istore 7, 2) := dz_54 (bz_26 14 54 rfl rfl) (bz_26 15 7 rfl rfl)
theorem dL_law_848 : decode code 848 = .ok (.goto 614, 3) := dz_167 (bz_26 16 167 rfl rfl) (bz_26 17 2 rfl rfl) (bz_26 18 102 rfl rfl) (by decide +kernel)
theorem dL_law_851 : decode code 851 = .ok (.aload_n 1, 1) := dz_43 (bz_26 19 43 rfl rfl)
theorem dL_law_852 : decode code 852 = .ok (.aload_n 0, 1) := dz_42 (bz_26 20 42 rfl rfl)
theorem dL_law_853 : decode code 853 = .ok (.iload 5, 2) := dz_21 (bz_26 21 21 rfl rfl) (bz_26 22 5 rfl rfl)
theorem dL_law_855 : decode code 855 = .ok (.iconst 1, 1) := dz_4 (bz_26 23 4 rfl rfl)
theorem dL_law_856 : decode code 856 = .ok (.iadd, 1) := dz_96 (bz_26 24 96 rfl rfl)
theorem dL_law_857 : decode code 857 = .ok (.iaload, 1) := dz_46 (bz_26 25 46 rfl rfl)
theorem dL_law_858 : decode code 858 = .ok (.aload_n 3, 1) := dz_45 (bz_26 26 45 rfl rfl)
theorem dL_law_859 : decode code 859 = .ok (.invokestatic 211, 3) := dz_184 (bz_26 27 184 rfl rfl) (bz_26 28 0 rfl rfl) (bz_26 29 211 rfl rfl)
theorem dL_law_862 : decode code 862 = .ok (.istore 6, 2) := dz_54 (bz_26 30 54 rfl rfl) (bz_26 31 6 rfl rfl)
theorem dL_law_864 : decode code 864 = .ok (.aload_n 2, 1) := dz_44 (bz_27 0 44 rfl rfl)
theorem dL_law_865 : decode code 865 = .ok (.aload_n 0, 1) := dz_42 (bz_27 1 42 rfl rfl)
theorem dL_law_866 : decode code 866 = .ok (.iload 5, 2) := dz_21 (bz_27 2 21 rfl rfl) (bz_27 3 5 rfl rfl)
theorem dL_law_868 : decode code 868 = .ok (.iconst 1, 1) := dz_4 (bz_27 4 4 rfl rfl)
theorem dL_law_869 : decode code 869 = .ok (.iadd, 1) := dz_96 (bz_27 5 96 rfl rfl)
theorem dL_law_870 : decode code 870 = .ok (.iaload, 1) := dz_46 (bz_27 6 46 rfl rfl)
theorem dL_law_871 : decode code 871 = .ok (.invokevirtual 213, 3) := dz_182 (bz_27 7 182 rfl rfl) (bz_27 8 0 rfl rfl) (bz_27 9 213 rfl rfl)
theorem dL_law_874 : decode code 874 = .ok (.istore 7, 2) := dz_54 (bz_27 10 54 rfl rfl) (bz_27 11 7 rfl rfl)
theorem dL_law_876 : decode code 876 = .ok (.goto 586, 3) := dz_167 (bz_27 12 167 rfl rfl) (bz_27 13 2 rfl rfl) (bz_27 14 74 rfl rfl) (by decide +kernel)
theorem dL_law_879 : decode code 879 = .ok (.aload_n 1, 1) := dz_43 (bz_27 15 43 rfl rfl)
theorem dL_law_880 : decode code 880 = .ok (.aload_n 0, 1) := dz_42 (bz_27 16 42 rfl rfl)
theorem dL_law_881 : decode code 881 = .ok (.iload 5, 2) := dz_21 (bz_27 17 21 rfl rfl) (bz_27 18 5 rfl rfl)
theorem dL_law_883 : decode code 883 = .ok (.iconst 1, 1) := dz_4 (bz_27 19 4 rfl rfl)
theorem dL_law_884 : decode code 884 = .ok (.iadd, 1) := dz_96 (bz_27 20 96 rfl rfl)
theorem dL_law_885 : decode code 885 = .ok (.iaload, 1) := dz_46 (bz_27 21 46 rfl rfl)
theorem dL_law_886 : decode code 886 = .ok (.aload_n 3, 1) := dz_45 (bz_27 22 45 rfl rfl)
theorem dL_law_887 : decode code 887 = .ok (.invokestatic 214, 3) := dz_184 (bz_27 23 184 rfl rfl) (bz_27 24 0 rfl rfl) (bz_27 25 214 rfl rfl)
theorem dL_law_890 : decode code 890 = .ok (.istore 6, 2) := dz_54 (bz_27 26 54 rfl rfl) (bz_27 27 6 rfl rfl)
theorem dL_law_892 : decode code 892 = .ok (.aload_n 2, 1) := dz_44 (bz_27 28 44 rfl rfl)
theorem dL_law_893 : decode code 893 = .ok (.aload_n 0, 1) := dz_42 (bz_27 29 42 rfl rfl)
theorem dL_law_894 : decode code 894 = .ok (.iload 5, 2) := dz_21 (bz_27 30 21 rfl rfl) (bz_27 31 5 rfl rfl)
theorem dL_law_896 : decode code 896 = .ok (.iconst 1, 1) := dz_4 (bz_28 0 4 rfl rfl)
theorem dL_law_897 : decode code 897 = .ok (.iadd, 1) := dz_96 (bz_28 1 96 rfl rfl)
theorem dL_law_898 : decode code 898 = .ok (.iaload, 1) := dz_46 (bz_28 2 46 rfl rfl)
theorem dL_law_899 : decode code 899 = .ok (.invokevirtual 216, 3) := dz_182 (bz_28 3 182 rfl rfl) (bz_28 4 0 rfl rfl) (bz_28 5 216 rfl rfl)
theorem dL_law_902 : decode code 902 = .ok (.istore 7, 2) := dz_54 (bz_28 6 54 rfl rfl) (bz_28 7 7 rfl rfl)
theorem dL_law_904 : decode code 904 = .ok (.goto 558, 3) := dz_167 (bz_28 8 167 rfl rfl) (bz_28 9 2 rfl rfl) (bz_28 10 46 rfl rfl) (by decide +kernel)
theorem dL_law_907 : decode code 907 = .ok (.aload_n 1, 1) := dz_43 (bz_28 11 43 rfl rfl)
theorem dL_law_908 : decode code 908 = .ok (.aload_n 0, 1) := dz_42 (bz_28 12 42 rfl rfl)
theorem dL_law_909 : decode code 909 = .ok (.iload 5, 2) := dz_21 (bz_28 13 21 rfl rfl) (bz_28 14 5 rfl rfl)
theorem dL_law_911 : decode code 911 = .ok (.iconst 1, 1) := dz_4 (bz_28 15 4 rfl rfl)
theorem dL_law_912 : decode code 912 = .ok (.iadd, 1) := dz_96 (bz_28 16 96 rfl rfl)
theorem dL_law_913 : decode code 913 = .ok (.iaload, 1) := dz_46 (bz_28 17 46 rfl rfl)
theorem dL_law_914 : decode code 914 = .ok (.aload_n 3, 1) := dz_45 (bz_28 18 45 rfl rfl)
theorem dL_law_915 : decode code 915 = .ok (.invokestatic 217, 3) := dz_184 (bz_28 19 184 rfl rfl) (bz_28 20 0 rfl rfl) (bz_28 21 217 rfl rfl)
theorem dL_law_918 : decode code 918 = .ok (.istore 6, 2) := dz_54 (bz_28 22 54 rfl rfl) (bz_28 23 6 rfl rfl)
theorem dL_law_920 : decode code 920 = .ok (.aload_n 2, 1) := dz_44 (bz_28 24 44 rfl rfl)
theorem dL_law_921 : decode code 921 = .ok (.aload_n 0, 1) := dz_42 (bz_28 25 42 rfl rfl)
theorem dL_law_922 : decode code 922 = .ok (.iload 5, 2) := dz_21 (bz_28 26 21 rfl rfl) (bz_28 27 5 rfl rfl)
theorem dL_law_924 : decode code 924 = .ok (.iconst 1, 1) := dz_4 (bz_28 28 4 rfl rfl)
theorem dL_law_925 : decode code 925 = .ok (.iadd, 1) := dz_96 (bz_28 29 96 rfl rfl)
theorem dL_law_926 : decode code 926 = .ok (.iaload, 1) := dz_46 (bz_28 30 46 rfl rfl)
theorem dL_law_927 : decode code 927 = .ok (.invokevirtual 219, 3) := dz_182 (bz_28 31 182 rfl rfl) (bz_29 0 0 rfl rfl) (bz_29 1 219 rfl rfl)
theorem dL_law_930 : decode code 930 = .ok (.istore 7, 2) := dz_54 (bz_29 2 54 rfl rfl) (bz_29 3 7 rfl rfl)
theorem dL_law_932 : decode code 932 = .ok (.goto 530, 3) := dz_167 (bz_29 4 167 rfl rfl) (bz_29 5 2 rfl rfl) (bz_29 6 18 rfl rfl) (by decide +kernel)
theorem dL_law_935 : decode code 935 = .ok (.aload_n 1, 1) := dz_43 (bz_29 7 43 rfl rfl)
theorem dL_law_936 : decode code 936 = .ok (.aload_n 0, 1) := dz_42 (bz_29 8 42 rfl rfl)
theorem dL_law_937 : decode code 937 = .ok (.iload 5, 2) := dz_21 (bz_29 9 21 rfl rfl) (bz_29 10 5 rfl rfl)
theorem dL_law_939 : decode code 939 = .ok (.iconst 1, 1) := dz_4 (bz_29 11 4 rfl rfl)
theorem dL_law_940 : decode code 940 = .ok (.iadd, 1) := dz_96 (bz_29 12 96 rfl rfl)
theorem dL_law_941 : decode code 941 = .ok (.iaload, 1) := dz_46 (bz_29 13 46 rfl rfl)
theorem dL_law_942 : decode code 942 = .ok (.aload_n 0, 1) := dz_42 (bz_29 14 42 rfl rfl)
theorem dL_law_943 : decode code 943 = .ok (.iload 5, 2) := dz_21 (bz_29 15 21 rfl rfl) (bz_29 16 5 rfl rfl)
theorem dL_law_945 : decode code 945 = .ok (.iconst 2, 1) := dz_5 (bz_29 17 5 rfl rfl)
theorem dL_law_946 : decode code 946 = .ok (.iadd, 1) := dz_96 (bz_29 18 96 rfl rfl)
theorem dL_law_947 : decode code 947 = .ok (.iaload, 1) := dz_46 (bz_29 19 46 rfl rfl)
theorem dL_law_948 : decode code 948 = .ok (.aload_n 3, 1) := dz_45 (bz_29 20 45 rfl rfl)
theorem dL_law_949 : decode code 949 = .ok (.invokestatic 220, 3) := dz_184 (bz_29 21 184 rfl rfl) (bz_29 22 0 rfl rfl) (bz_29 23 220 rfl rfl)
theorem dL_law_952 : decode code 952 = .ok (.istore 6, 2) := dz_54 (bz_29 24 54 rfl rfl) (bz_29 25 6 rfl rfl)
theorem dL_law_954 : decode code 954 = .ok (.aload_n 2, 1) := dz_44 (bz_29 26 44 rfl rfl)
theorem dL_law_955 : decode code 955 = .ok (.aload_n 0, 1) := dz_42 (bz_29 27 42 rfl rfl)
theorem dL_law_956 : decode code 956 = .ok (.iload 5, 2) := dz_21 (bz_29 28 21 rfl rfl) (bz_29 29 5 rfl rfl)
theorem dL_law_958 : decode code 958 = .ok (.iconst 1, 1) := dz_4 (bz_29 30 4 rfl rfl)
theorem dL_law_959 : decode code 959 = .ok (.iadd, 1) := dz_96 (bz_29 31 96 rfl rfl)
theorem dL_law_960 : decode code 960 = .ok (.iaload, 1) := dz_46 (bz_30 0 46 rfl rfl)
theorem dL_law_961 : decode code 961 = .ok (.aload_n 0, 1) := dz_42 (bz_30 1 42 rfl rfl)
theorem dL_law_962 : decode code 962 = .ok (.iload 5, 2) := dz_21 (bz_30 2 21 rfl rfl) (bz_30 3 5 rfl rfl)
theorem dL_law_964 : decode code 964 = .ok (.iconst 2, 1) := dz_5 (bz_30 4 5 rfl rfl)
theorem dL_law_965 : decode code 965 = .ok (.iadd, 1) := dz_96 (bz_30 5 96 rfl rfl)
theorem dL_law_966 : decode code 966 = .ok (.iaload, 1) := dz_46 (bz_30 6 46 rfl rfl)
theorem dL_law_967 : decode code 967 = .ok (.invokevirtual 222, 3) := dz_182 (bz_30 7 182 rfl rfl) (bz_30 8 0 rfl rfl) (bz_30 9 222 rfl rfl)
theorem dL_law_970 : decode code 970 = .ok (.istore 7, 2) := dz_54 (bz_30 10 54 rfl rfl) (bz_30 11 7 rfl rfl)
theorem dL_law_972 : decode code 972 = .ok (.goto 490, 3) := dz_167 (bz_30 12 167 rfl rfl) (bz_30 13 1 rfl rfl) (bz_30 14 234 rfl rfl) (by decide +kernel)
theorem dL_law_975 : decode code 975 = .ok (.aload_n 1, 1) := dz_43 (bz_30 15 43 rfl rfl)
theorem dL_law_976 : decode code 976 = .ok (.aload_n 0, 1) := dz_42 (bz_30 16 42 rfl rfl)
theorem dL_law_977 : decode code 977 = .ok (.iload 5, 2) := dz_21 (bz_30 17 21 rfl rfl) (bz_30 18 5 rfl rfl)
theorem dL_law_979 : decode code 979 = .ok (.iconst 1, 1) := dz_4 (bz_30 19 4 rfl rfl)
theorem dL_law_980 : decode code 980 = .ok (.iadd, 1) := dz_96 (bz_30 20 96 rfl rfl)
theorem dL_law_981 : decode code 981 = .ok (.iaload, 1) := dz_46 (bz_30 21 46 rfl rfl)
theorem dL_law_982 : decode code 982 = .ok (.aload_n 0, 1) := dz_42 (bz_30 22 42 rfl rfl)
theorem dL_law_983 : decode code 983 = .ok (.iload 5, 2) := dz_21 (bz_30 23 21 rfl rfl) (bz_30 24 5 rfl rfl)
theorem dL_law_985 : decode code 985 = .ok (.iconst 2, 1) := dz_5 (bz_30 25 5 rfl rfl)
theorem dL_law_986 : decode code 986 = .ok (.iadd, 1) := dz_96 (bz_30 26 96 rfl rfl)
theorem dL_law_987 : decode code 987 = .ok (.iaload, 1) := dz_46 (bz_30 27 46 rfl rfl)
theorem dL_law_988 : decode code 988 = .ok (.aload_n 3, 1) := dz_45 (bz_30 28 45 rfl rfl)
theorem dL_law_989 : decode code 989 = .ok (.invokestatic 223, 3) := dz_184 (bz_30 29 184 rfl rfl) (bz_30 30 0 rfl rfl) (bz_30 31 223 rfl rfl)
theorem dL_law_992 : decode code 992 = .ok (.istore 6, 2) := dz_54 (bz_31 0 54 rfl rfl) (bz_31 1 6 rfl rfl)
theorem dL_law_994 : decode code 994 = .ok (.aload_n 2, 1) := dz_44 (bz_31 2 44 rfl rfl)
theorem dL_law_995 : decode code 995 = .ok (.aload_n 0, 1) := dz_42 (bz_31 3 42 rfl rfl)
theorem dL_law_996 : decode code 996 = .ok (.iload 5, 2) := dz_21 (bz_31 4 21 rfl rfl) (bz_31 5 5 rfl rfl)
theorem dL_law_998 : decode code 998 = .ok (.iconst 1, 1) := dz_4 (bz_31 6 4 rfl rfl)
theorem dL_law_999 : decode code 999 = .ok (.iadd, 1) := dz_96 (bz_31 7 96 rfl rfl)
theorem dL_law_1000 : decode code 1000 = .ok (.iaload, 1) := dz_46 (bz_31 8 46 rfl rfl)
theorem dL_law_1001 : decode code 1001 = .ok (.aload_n 0, 1) := dz_42 (bz_31 9 42 rfl rfl)
theorem dL_law_1002 : decode code 1002 = .ok (.iload 5, 2) := dz_21 (bz_31 10 21 rfl rfl) (bz_31 11 5 rfl rfl)
theorem dL_law_1004 : decode code 1004 = .ok (.iconst 2, 1) := dz_5 (bz_31 12 5 rfl rfl)
theorem dL_law_1005 : decode code 1005 = .ok (.iadd, 1) := dz_96 (bz_31 13 96 rfl rfl)
theorem dL_law_1006 : decode code 1006 = .ok (.iaload, 1) := dz_46 (bz_31 14 46 rfl rfl)
theorem dL_law_1007 : decode code 1007 = .ok (.invokevirtual 225, 3) := dz_182 (bz_31 15 182 rfl rfl) (bz_31 16 0 rfl rfl) (bz_31 17 225 rfl rfl)
theorem dL_law_1010 : decode code 1010 = .ok (.istore 7, 2) := dz_54 (bz_31 18 54 rfl rfl) (bz_31 19 7 rfl rfl)
theorem dL_law_1012 : decode code 1012 = .ok (.goto 450, 3) := dz_167 (bz_31 20 167 rfl rfl) (bz_31 21 1 rfl rfl) (bz_31 22 194 rfl rfl) (by decide +kernel)
theorem dL_law_1015 : decode code 1015 = .ok (.aload_n 1, 1) := dz_43 (bz_31 23 43 rfl rfl)
theorem dL_law_1016 : decode code 1016 = .ok (.aload_n 0, 1) := dz_42 (bz_31 24 42 rfl rfl)
theorem dL_law_1017 : decode code 1017 = .ok (.iload 5, 2) := dz_21 (bz_31 25 21 rfl rfl) (bz_31 26 5 rfl rfl)
theorem dL_law_1019 : decode code 1019 = .ok (.iconst 1, 1) := dz_4 (bz_31 27 4 rfl rfl)
theorem dL_law_1020 : decode code 1020 = .ok (.iadd, 1) := dz_96 (bz_31 28 96 rfl rfl)
theorem dL_law_1021 : decode code 1021 = .ok (.iaload, 1) := dz_46 (bz_31 29 46 rfl rfl)
theorem dL_law_1022 : decode code 1022 = .ok (.aload_n 0, 1) := dz_42 (bz_31 30 42 rfl rfl)
theorem dL_law_1023 : decode code 1023 = .ok (.iload 5, 2) := dz_21 (bz_31 31 21 rfl rfl) (bz_32 0 5 rfl rfl)
theorem dL_law_1025 : decode code 1025 = .ok (.iconst 2, 1) := dz_5 (bz_32 1 5 rfl rfl)
theorem dL_law_1026 : decode code 1026 = .ok (.iadd, 1) := dz_96 (bz_32 2 96 rfl rfl)
theorem dL_law_1027 : decode code 1027 = .ok (.iaload, 1) := dz_46 (bz_32 3 46 rfl rfl)
theorem dL_law_1028 : decode code 1028 = .ok (.aload_n 3, 1) := dz_45 (bz_32 4 45 rfl rfl)
theorem dL_law_1029 : decode code 1029 = .ok (.invokestatic 226, 3) := dz_184 (bz_32 5 184 rfl rfl) (bz_32 6 0 rfl rfl) (bz_32 7 226 rfl rfl)
theorem dL_law_1032 : decode code 1032 = .ok (.istore 6, 2) := dz_54 (bz_32 8 54 rfl rfl) (bz_32 9 6 rfl rfl)
theorem dL_law_1034 : decode code 1034 = .ok (.aload_n 2, 1) := dz_44 (bz_32 10 44 rfl rfl)
theorem dL_law_1035 : decode code 1035 = .ok (.aload_n 0, 1) := dz_42 (bz_32 11 42 rfl rfl)
theorem dL_law_1036 : decode code 1036 = .ok (.iload 5, 2) := dz_21 (bz_32 12 21 rfl rfl) (bz_32 13 5 rfl rfl)
theorem dL_law_1038 : decode code 1038 = .ok (.iconst 1, 1) := dz_4 (bz_32 14 4 rfl rfl)
theorem dL_law_1039 : decode code 1039 = .ok (.iadd, 1) := dz_96 (bz_32 15 96 rfl rfl)
theorem dL_law_1040 : decode code 1040 = .ok (.iaload, 1) := dz_46 (bz_32 16 46 rfl rfl)
theorem dL_law_1041 : decode code 1041 = .ok (.aload_n 0, 1) := dz_42 (bz_32 17 42 rfl rfl)
theorem dL_law_1042 : decode code 1042 = .ok (.iload 5, 2) := dz_21 (bz_32 18 21 rfl rfl) (bz_32 19 5 rfl rfl)
theorem dL_law_1044 : decode code 1044 = .ok (.iconst 2, 1) := dz_5 (bz_32 20 5 rfl rfl)
theorem dL_law_1045 : decode code 1045 = .ok (.iadd, 1) := dz_96 (bz_32 21 96 rfl rfl)
theorem dL_law_1046 : decode code 1046 = .ok (.iaload, 1) := dz_46 (bz_32 22 46 rfl rfl)
theorem dL_law_1047 : decode code 1047 = .ok (.invokevirtual 228, 3) := dz_182 (bz_32 23 182 rfl rfl) (bz_32 24 0 rfl rfl) (bz_32 25 228 rfl rfl)
theorem dL_law_1050 : decode code 1050 = .ok (.istore 7, 2) := dz_54 (bz_32 26 54 rfl rfl) (bz_32 27 7 rfl rfl)
theorem dL_law_1052 : decode code 1052 = .ok (.goto 410, 3) := dz_167 (bz_32 28 167 rfl rfl) (bz_32 29 1 rfl rfl) (bz_32 30 154 rfl rfl) (by decide +kernel)
theorem dL_law_1055 : decode code 1055 = .ok (.aload_n 1, 1) := dz_43 (bz_32 31 43 rfl rfl)
theorem dL_law_1056 : decode code 1056 = .ok (.aload_n 0, 1) := dz_42 (bz_33 0 42 rfl rfl)
theorem dL_law_1057 : decode code 1057 = .ok (.iload 5, 2) := dz_21 (bz_33 1 21 rfl rfl) (bz_33 2 5 rfl rfl)
theorem dL_law_1059 : decode code 1059 = .ok (.iconst 1, 1) := dz_4 (bz_33 3 4 rfl rfl)
theorem dL_law_1060 : decode code 1060 = .ok (.iadd, 1) := dz_96 (bz_33 4 96 rfl rfl)
theorem dL_law_1061 : decode code 1061 = .ok (.iaload, 1) := dz_46 (bz_33 5 46 rfl rfl)
theorem dL_law_1062 : decode code 1062 = .ok (.aload_n 3, 1) := dz_45 (bz_33 6 45 rfl rfl)
theorem dL_law_1063 : decode code 1063 = .ok (.invokestatic 229, 3) := dz_184 (bz_33 7 184 rfl rfl) (bz_33 8 0 rfl rfl) (bz_33 9 229 rfl rfl)
theorem dL_law_1066 : decode code 1066 = .ok (.istore 6, 2) := dz_54 (bz_33 10 54 rfl rfl) (bz_33 11 6 rfl rfl)
theorem dL_law_1068 : decode code 1068 = .ok (.aload_n 2, 1) := dz_44 (bz_33 12 44 rfl rfl)
theorem dL_law_1069 : decode code 1069 = .ok (.aload_n 0, 1) := dz_42 (bz_33 13 42 rfl rfl)
theorem dL_law_1070 : decode code 1070 = .ok (.iload 5, 2) := dz_21 (bz_33 14 21 rfl rfl) (bz_33 15 5 rfl rfl)
theorem dL_law_1072 : decode code 1072 = .ok (.iconst 1, 1) := dz_4 (bz_33 16 4 rfl rfl)
theorem dL_law_1073 : decode code 1073 = .ok (.iadd, 1) := dz_96 (bz_33 17 96 rfl rfl)
theorem dL_law_1074 : decode code 1074 = .ok (.iaload, 1) := dz_46 (bz_33 18 46 rfl rfl)
theorem dL_law_1075 : decode code 1075 = .ok (.invokevirtual 231, 3) := dz_182 (bz_33 19 182 rfl rfl) (bz_33 20 0 rfl rfl) (bz_33 21 231 rfl rfl)
theorem dL_law_1078 : decode code 1078 = .ok (.istore 7, 2) := dz_54 (bz_33 22 54 rfl rfl) (bz_33 23 7 rfl rfl)
theorem dL_law_1080 : decode code 1080 = .ok (.goto 382, 3) := dz_167 (bz_33 24 167 rfl rfl) (bz_33 25 1 rfl rfl) (bz_33 26 126 rfl rfl) (by decide +kernel)
theorem dL_law_1083 : decode code 1083 = .ok (.aload_n 1, 1) := dz_43 (bz_33 27 43 rfl rfl)
theorem dL_law_1084 : decode code 1084 = .ok (.aload_n 0, 1) := dz_42 (bz_33 28 42 rfl rfl)
theorem dL_law_1085 : decode code 1085 = .ok (.iload 5, 2) := dz_21 (bz_33 29 21 rfl rfl) (bz_33 30 5 rfl rfl)
theorem dL_law_1087 : decode code 1087 = .ok (.iconst 1, 1) := dz_4 (bz_33 31 4 rfl rfl)
theorem dL_law_1088 : decode code 1088 = .ok (.iadd, 1) := dz_96 (bz_34 0 96 rfl rfl)
theorem dL_law_1089 : decode code 1089 = .ok (.iaload, 1) := dz_46 (bz_34 1 46 rfl rfl)
theorem dL_law_1090 : decode code 1090 = .ok (.aload_n 3, 1) := dz_45 (bz_34 2 45 rfl rfl)
theorem dL_law_1091 : decode code 1091 = .ok (.invokestatic 232, 3) := dz_184 (bz_34 3 184 rfl rfl) (bz_34 4 0 rfl rfl) (bz_34 5 232 rfl rfl)
theorem dL_law_1094 : decode code 1094 = .ok (.istore 6, 2) := dz_54 (bz_34 6 54 rfl rfl) (bz_34 7 6 rfl rfl)
theorem dL_law_1096 : decode code 1096 = .ok (.aload_n 2, 1) := dz_44 (bz_34 8 44 rfl rfl)
theorem dL_law_1097 : decode code 1097 = .ok (.aload_n 0, 1) := dz_42 (bz_34 9 42 rfl rfl)
theorem dL_law_1098 : decode code 1098 = .ok (.iload 5, 2) := dz_21 (bz_34 10 21 rfl rfl) (bz_34 11 5 rfl rfl)
theorem dL_law_1100 : decode code 1100 = .ok (.iconst 1, 1) := dz_4 (bz_34 12 4 rfl rfl)
theorem dL_law_1101 : decode code 1101 = .ok (.iadd, 1) := dz_96 (bz_34 13 96 rfl rfl)
theorem dL_law_1102 : decode code 1102 = .ok (.iaload, 1) := dz_46 (bz_34 14 46 rfl rfl)
theorem dL_law_1103 : decode code 1103 = .ok (.invokevirtual 234, 3) := dz_182 (bz_34 15 182 rfl rfl) (bz_34 16 0 rfl rfl) (bz_34 17 234 rfl rfl)
theorem dL_law_1106 : decode code 1106 = .ok (.istore 7, 2) := dz_54 (bz_34 18 54 rfl rfl) (bz_34 19 7 rfl rfl)
theorem dL_law_1108 : decode code 1108 = .ok (.goto 354, 3) := dz_167 (bz_34 20 167 rfl rfl) (bz_34 21 1 rfl rfl) (bz_34 22 98 rfl rfl) (by decide +kernel)
theorem dL_law_1111 : decode code 1111 = .ok (.aload_n 1, 1) := dz_43 (bz_34 23 43 rfl rfl)
theorem dL_law_1112 : decode code 1112 = .ok (.invokevirtual 235, 3) := dz_182 (bz_34 24 182 rfl rfl) (bz_34 25 0 rfl rfl) (bz_34 26 235 rfl rfl)
theorem dL_law_1115 : decode code 1115 = .ok (.pop, 1) := dz_87 (bz_34 27 87 rfl rfl)
theorem dL_law_1116 : decode code 1116 = .ok (.aload_n 2, 1) := dz_44 (bz_34 28 44 rfl rfl)
theorem dL_law_1117 : decode code 1117 = .ok (.invokevirtual 238, 3) := dz_182 (bz_34 29 182 rfl rfl) (bz_34 30 0 rfl rfl) (bz_34 31 238 rfl rfl)
theorem dL_law_1120 : decode code 1120 = .ok (.pop, 1) := dz_87 (bz_35 0 87 rfl rfl)
theorem dL_law_1121 : decode code 1121 = .ok (.goto 341, 3) := dz_167 (bz_35 1 167 rfl rfl) (bz_35 2 1 rfl rfl) (bz_35 3 85 rfl rfl) (by decide +kernel)
theorem dL_law_1124 : decode code 1124 = .ok (.aload_n 1, 1) := dz_43 (bz_35 4 43 rfl rfl)
theorem dL_law_1125 : decode code 1125 = .ok (.invokevirtual 239, 3) := dz_182 (bz_35 5 182 rfl rfl) (bz_35 6 0 rfl rfl) (bz_35 7 239 rfl rfl)
theorem dL_law_1128 : decode code 1128 = .ok (.pop, 1) := dz_87 (bz_35 8 87 rfl rfl)
theorem dL_law_1129 : decode code 1129 = .ok (.aload_n 2, 1) := dz_44 (bz_35 9 44 rfl rfl)
theorem dL_law_1130 : decode code 1130 = .ok (.invokevirtual 242, 3) := dz_182 (bz_35 10 182 rfl rfl) (bz_35 11 0 rfl rfl) (bz_35 12 242 rfl rfl)
theorem dL_law_1133 : decode code 1133 = .ok (.pop, 1) := dz_87 (bz_35 13 87 rfl rfl)
theorem dL_law_1134 : decode code 1134 = .ok (.goto 328, 3) := dz_167 (bz_35 14 167 rfl rfl) (bz_35 15 1 rfl rfl) (bz_35 16 72 rfl rfl) (by decide +kernel)
theorem dL_law_1137 : decode code 1137 = .ok (.aload_n 1, 1) := dz_43 (bz_35 17 43 rfl rfl)
theorem dL_law_1138 : decode code 1138 = .ok (.invokevirtual 243, 3) := dz_182 (bz_35 18 182 rfl rfl) (bz_35 19 0 rfl rfl) (bz_35 20 243 rfl rfl)
theorem dL_law_1141 : decode code 1141 = .ok (.pop, 1) := dz_87 (bz_35 21 87 rfl rfl)
theorem dL_law_1142 : decode code 1142 = .ok (.aload_n 2, 1) := dz_44 (bz_35 22 44 rfl rfl)
theorem dL_law_1143 : decode code 1143 = .ok (.invokevirtual 246, 3) := dz_182 (bz_35 23 182 rfl rfl) (bz_35 24 0 rfl rfl) (bz_35 25 246 rfl rfl)
theorem dL_law_1146 : decode code 1146 = .ok (.pop, 1) := dz_87 (bz_35 26 87 rfl rfl)
theorem dL_law_1147 : decode code 1147 = .ok (.goto 315, 3) := dz_167 (bz_35 27 167 rfl rfl) (bz_35 28 1 rfl rfl) (bz_35 29 59 rfl rfl) (by decide +kernel)
theorem dL_law_1150 : decode code 1150 = .ok (.aload_n 1, 1) := dz_43 (bz_35 30 43 rfl rfl)
theorem dL_law_1151 : decode code 1151 = .ok (.invokevirtual 247, 3) := dz_182 (bz_35 31 182 rfl rfl) (bz_36 0 0 rfl rfl) (bz_36 1 247 rfl rfl)
theorem dL_law_1154 : decode code 1154 = .ok (.pop, 1) := dz_87 (bz_36 2 87 rfl rfl)
theorem dL_law_1155 : decode code 1155 = .ok (.aload_n 2, 1) := dz_44 (bz_36 3 44 rfl rfl)
theorem dL_law_1156 : decode code 1156 = .ok (.invokevirtual 250, 3) := dz_182 (bz_36 4 182 rfl rfl) (bz_36 5 0 rfl rfl) (bz_36 6 250 rfl rfl)
theorem dL_law_1159 : decode code 1159 = .ok (.pop, 1) := dz_87 (bz_36 7 87 rfl rfl)
theorem dL_law_1160 : decode code 1160 = .ok (.goto 302, 3) := dz_167 (bz_36 8 167 rfl rfl) (bz_36 9 1 rfl rfl) (bz_36 10 46 rfl rfl) (by decide +kernel)
theorem dL_law_1163 : decode code 1163 = .ok (.aload_n 1, 1) := dz_43 (bz_36 11 43 rfl rfl)
theorem dL_law_1164 : decode code 1164 = .ok (.aload_n 0, 1) := dz_42 (bz_36 12 42 rfl rfl)
theorem dL_law_1165 : decode code 1165 = .ok (.iload 5, 2) := dz_21 (bz_36 13 21 rfl rfl) (bz_36 14 5 rfl rfl)
theorem dL_law_1167 : decode code 1167 = .ok (.iconst 1, 1) := dz_4 (bz_36 15 4 rfl rfl)
theorem dL_law_1168 : decode code 1168 = .ok (.iadd, 1) := dz_96 (bz_36 16 96 rfl rfl)
theorem dL_law_1169 : decode code 1169 = .ok (.iaload, 1) := dz_46 (bz_36 17 46 rfl rfl)
theorem dL_law_1170 : decode code 1170 = .ok (.aload_n 3, 1) := dz_45 (bz_36 18 45 rfl rfl)
theorem dL_law_1171 : decode code 1171 = .ok (.invokestatic 251, 3) := dz_184 (bz_36 19 184 rfl rfl) (bz_36 20 0 rfl rfl) (bz_36 21 251 rfl rfl)
theorem dL_law_1174 : decode code 1174 = .ok (.istore 6, 2) := dz_54 (bz_36 22 54 rfl rfl) (bz_36 23 6 rfl rfl)
theorem dL_law_1176 : decode code 1176 = .ok (.aload_n 2, 1) := dz_44 (bz_36 24 44 rfl rfl)
theorem dL_law_1177 : decode code 1177 = .ok (.aload_n 0, 1) := dz_42 (bz_36 25 42 rfl rfl)
theorem dL_law_1178 : decode code 1178 = .ok (.iload 5, 2) := dz_21 (bz_36 26 21 rfl rfl) (bz_36 27 5 rfl rfl)
theorem dL_law_1180 : decode code 1180 = .ok (.iconst 1, 1) := dz_4 (bz_36 28 4 rfl rfl)
theorem dL_law_1181 : decode code 1181 = .ok (.iadd, 1) := dz_96 (bz_36 29 96 rfl rfl)
theorem dL_law_1182 : decode code 1182 = .ok (.iaload, 1) := dz_46 (bz_36 30 46 rfl rfl)
theorem dL_law_1183 : decode code 1183 = .ok (.invokevirtual 253, 3) := dz_182 (bz_36 31 182 rfl rfl) (bz_37 0 0 rfl rfl) (bz_37 1 253 rfl rfl)
theorem dL_law_1186 : decode code 1186 = .ok (.istore 7, 2) := dz_54 (bz_37 2 54 rfl rfl) (bz_37 3 7 rfl rfl)
theorem dL_law_1188 : decode code 1188 = .ok (.goto 274, 3) := dz_167 (bz_37 4 167 rfl rfl) (bz_37 5 1 rfl rfl) (bz_37 6 18 rfl rfl) (by decide +kernel)
theorem dL_law_1191 : decode code 1191 = .ok (.aload_n 1, 1) := dz_43 (bz_37 7 43 rfl rfl)
theorem dL_law_1192 : decode code 1192 = .ok (.invokevirtual 254, 3) := dz_182 (bz_37 8 182 rfl rfl) (bz_37 9 0 rfl rfl) (bz_37 10 254 rfl rfl)
theorem dL_law_1195 : decode code 1195 = .ok (.pop, 1) := dz_87 (bz_37 11 87 rfl rfl)
theorem dL_law_1196 : decode code 1196 = .ok (.aload_n 2, 1) := dz_44 (bz_37 12 44 rfl rfl)
theorem dL_law_1197 : decode code 1197 = .ok (.invokevirtual 257, 3) := dz_182 (bz_37 13 182 rfl rfl) (bz_37 14 1 rfl rfl) (bz_37 15 1 rfl rfl)
theorem dL_law_1200 : decode code 1200 = .ok (.pop, 1) := dz_87 (bz_37 16 87 rfl rfl)
theorem dL_law_1201 : decode code 1201 = .ok (.goto 261, 3) := dz_167 (bz_37 17 167 rfl rfl) (bz_37 18 1 rfl rfl) (bz_37 19 5 rfl rfl) (by decide +kernel)
theorem dL_law_1204 : decode code 1204 = .ok (.aload_n 1, 1) := dz_43 (bz_37 20 43 rfl rfl)
theorem dL_law_1205 : decode code 1205 = .ok (.invokevirtual 258, 3) := dz_182 (bz_37 21 182 rfl rfl) (bz_37 22 1 rfl rfl) (bz_37 23 2 rfl rfl)
theorem dL_law_1208 : decode code 1208 = .ok (.pop, 1) := dz_87 (bz_37 24 87 rfl rfl)
theorem dL_law_1209 : decode code 1209 = .ok (.aload_n 2, 1) := dz_44 (bz_37 25 44 rfl rfl)
theorem dL_law_1210 : decode code 1210 = .ok (.invokevirtual 261, 3) := dz_182 (bz_37 26 182 rfl rfl) (bz_37 27 1 rfl rfl) (bz_37 28 5 rfl rfl)
theorem dL_law_1213 : decode code 1213 = .ok (.pop, 1) := dz_87 (bz_37 29 87 rfl rfl)
theorem dL_law_1214 : decode code 1214 = .ok (.goto 248, 3) := dz_167 (bz_37 30 167 rfl rfl) (bz_37 31 0 rfl rfl) (bz_38 0 248 rfl rfl) (by decide +kernel)
theorem dL_law_1217 : decode code 1217 = .ok (.aload_n 1, 1) := dz_43 (bz_38 1 43 rfl rfl)
theorem dL_law_1218 : decode code 1218 = .ok (.invokevirtual 262, 3) := dz_182 (bz_38 2 182 rfl rfl) (bz_38 3 1 rfl rfl) (bz_38 4 6 rfl rfl)
theorem dL_law_1221 : decode code 1221 = .ok (.pop, 1) := dz_87 (bz_38 5 87 rfl rfl)
theorem dL_law_1222 : decode code 1222 = .ok (.aload_n 2, 1) := dz_44 (bz_38 6 44 rfl rfl)
theorem dL_law_1223 : decode code 1223 = .ok (.invokevirtual 265, 3) := dz_182 (bz_38 7 182 rfl rfl) (bz_38 8 1 rfl rfl) (bz_38 9 9 rfl rfl)
theorem dL_law_1226 : decode code 1226 = .ok (.pop, 1) := dz_87 (bz_38 10 87 rfl rfl)
theorem dL_law_1227 : decode code 1227 = .ok (.goto 235, 3) := dz_167 (bz_38 11 167 rfl rfl) (bz_38 12 0 rfl rfl) (bz_38 13 235 rfl rfl) (by decide +kernel)
theorem dL_law_1230 : decode code 1230 = .ok (.aload_n 1, 1) := dz_43 (bz_38 14 43 rfl rfl)
theorem dL_law_1231 : decode code 1231 = .ok (.aload 4, 2) := dz_25 (bz_38 15 25 rfl rfl) (bz_38 16 4 rfl rfl)
theorem dL_law_1233 : decode code 1233 = .ok (.invokestatic 266, 3) := dz_184 (bz_38 17 184 rfl rfl) (bz_38 18 1 rfl rfl) (bz_38 19 10 rfl rfl)
theorem dL_law_1236 : decode code 1236 = .ok (.istore 6, 2) := dz_54 (bz_38 20 54 rfl rfl) (bz_38 21 6 rfl rfl)
theorem dL_law_1238 : decode code 1238 = .ok (.aload_n 2, 1) := dz_44 (bz_38 22 44 rfl rfl)
theorem dL_law_1239 : decode code 1239 = .ok (.invokevirtual 269, 3) := dz_182 (bz_38 23 182 rfl rfl) (bz_38 24 1 rfl rfl) (bz_38 25 13 rfl rfl)
theorem dL_law_1242 : decode code 1242 = .ok (.dstore 7, 2) := dz_57 (bz_38 26 57 rfl rfl) (bz_38 27 7 rfl rfl)
theorem dL_law_1244 : decode code 1244 = .ok (.goto 218, 3) := dz_167 (bz_38 28 167 rfl rfl) (bz_38 29 0 rfl rfl) (bz_38 30 218 rfl rfl) (by decide +kernel)
theorem dL_law_1247 : decode code 1247 = .ok (.aload_n 1, 1) := dz_43 (bz_38 31 43 rfl rfl)
theorem dL_law_1248 : decode code 1248 = .ok (.aload 4, 2) := dz_25 (bz_39 0 25 rfl rfl) (bz_39 1 4 rfl rfl)
theorem dL_law_1250 : decode code 1250 = .ok (.invokestatic 270, 3) := dz_184 (bz_39 2 184 rfl rfl) (bz_39 3 1 rfl rfl) (bz_39 4 14 rfl rfl)
theorem dL_law_1253 : decode code 1253 = .ok (.istore 6, 2) := dz_54 (bz_39 5 54 rfl rfl) (bz_39 6 6 rfl rfl)
theorem dL_law_1255 : decode code 1255 = .ok (.aload_n 2, 1) := dz_44 (bz_39 7 44 rfl rfl)
theorem dL_law_1256 : decode code 1256 = .ok (.invokevirtual 272, 3) := dz_182 (bz_39 8 182 rfl rfl) (bz_39 9 1 rfl rfl) (bz_39 10 16 rfl rfl)
theorem dL_law_1259 : decode code 1259 = .ok (.fstore 7, 2) := dz_56 (bz_39 11 56 rfl rfl) (bz_39 12 7 rfl rfl)
theorem dL_law_1261 : decode code 1261 = .ok (.goto 201, 3) := dz_167 (bz_39 13 167 rfl rfl) (bz_39 14 0 rfl rfl) (bz_39 15 201 rfl rfl) (by decide +kernel)
theorem dL_law_1264 : decode code 1264 = .ok (.aload_n 1, 1) := dz_43 (bz_39 16 43 rfl rfl)
theorem dL_law_1265 : decode code 1265 = .ok (.invokevirtual 273, 3) := dz_182 (bz_39 17 182 rfl rfl) (bz_39 18 1 rfl rfl) (bz_39 19 17 rfl rfl)
theorem dL_law_1268 : decode code 1268 = .ok (.pop, 1) := dz_87 (bz_39 20 87 rfl rfl)
theorem dL_law_1269 : decode code 1269 = .ok (.aload_n 2, 1) := dz_44 (bz_39 21 44 rfl rfl)
theorem dL_law_1270 : decode code 1270 = .ok (.invokevirtual 277, 3) := dz_182 (bz_39 22 182 rfl rfl) (bz_39 23 1 rfl rfl) (bz_39 24 21 rfl rfl)
theorem dL_law_1273 : decode code 1273 = .ok (.pop, 1) := dz_87 (bz_39 25 87 rfl rfl)
theorem dL_law_1274 : decode code 1274 = .ok (.goto 188, 3) := dz_167 (bz_39 26 167 rfl rfl) (bz_39 27 0 rfl rfl) (bz_39 28 188 rfl rfl) (by decide +kernel)
theorem dL_law_1277 : decode code 1277 = .ok (.aload_n 1, 1) := dz_43 (bz_39 29 43 rfl rfl)
theorem dL_law_1278 : decode code 1278 = .ok (.aload_n 0, 1) := dz_42 (bz_39 30 42 rfl rfl)
theorem dL_law_1279 : decode code 1279 = .ok (.iload 5, 2) := dz_21 (bz_39 31 21 rfl rfl) (bz_40 0 5 rfl rfl)
theorem dL_law_1281 : decode code 1281 = .ok (.iconst 1, 1) := dz_4 (bz_40 1 4 rfl rfl)
theorem dL_law_1282 : decode code 1282 = .ok (.iadd, 1) := dz_96 (bz_40 2 96 rfl rfl)
theorem dL_law_1283 : decode code 1283 = .ok (.iaload, 1) := dz_46 (bz_40 3 46 rfl rfl)
theorem dL_law_1284 : decode code 1284 = .ok (.i2c, 1) := dz_146 (bz_40 4 146 rfl rfl)
theorem dL_law_1285 : decode code 1285 = .ok (.aload_n 3, 1) := dz_45 (bz_40 5 45 rfl rfl)
theorem dL_law_1286 : decode code 1286 = .ok (.invokestatic 278, 3) := dz_184 (bz_40 6 184 rfl rfl) (bz_40 7 1 rfl rfl) (bz_40 8 22 rfl rfl)
theorem dL_law_1289 : decode code 1289 = .ok (.istore 6, 2) := dz_54 (bz_40 9 54 rfl rfl) (bz_40 10 6 rfl rfl)
theorem dL_law_1291 : decode code 1291 = .ok (.aload_n 2, 1) := dz_44 (bz_40 11 44 rfl rfl)
theorem dL_law_1292 : decode code 1292 = .ok (.aload_n 0, 1) := dz_42 (bz_40 12 42 rfl rfl)
theorem dL_law_1293 : decode code 1293 = .ok (.iload 5, 2) := dz_21 (bz_40 13 21 rfl rfl) (bz_40 14 5 rfl rfl)
theorem dL_law_1295 : decode code 1295 = .ok (.iconst 1, 1) := dz_4 (bz_40 15 4 rfl rfl)
theorem dL_law_1296 : decode code 1296 = .ok (.iadd, 1) := dz_96 (bz_40 16 96 rfl rfl)
theorem dL_law_1297 : decode code 1297 = .ok (.iaload, 1) := dz_46 (bz_40 17 46 rfl rfl)
theorem dL_law_1298 : decode code 1298 = .ok (.i2c, 1) := dz_146 (bz_40 18 146 rfl rfl)
theorem dL_law_1299 : decode code 1299 = .ok (.invokevirtual 281, 3) := dz_182 (bz_40 19 182 rfl rfl) (bz_40 20 1 rfl rfl) (bz_40 21 25 rfl rfl)
theorem dL_law_1302 : decode code 1302 = .ok (.istore 7, 2) := dz_54 (bz_40 22 54 rfl rfl) (bz_40 23 7 rfl rfl)
theorem dL_law_1304 : decode code 1304 = .ok (.goto 158, 3) := dz_167 (bz_40 24 167 rfl rfl) (bz_40 25 0 rfl rfl) (bz_40 26 158 rfl rfl) (by decide +kernel)
theorem dL_law_1307 : decode code 1307 = .ok (.aload_n 1, 1) := dz_43 (bz_40 27 43 rfl rfl)
theorem dL_law_1308 : decode code 1308 = .ok (.aload_n 3, 1) := dz_45 (bz_40 28 45 rfl rfl)
theorem dL_law_1309 : decode code 1309 = .ok (.invokestatic 282, 3) := dz_184 (bz_40 29 184 rfl rfl) (bz_40 30 1 rfl rfl) (bz_40 31 26 rfl rfl)
theorem dL_law_1312 : decode code 1312 = .ok (.istore 6, 2) := dz_54 (bz_41 0 54 rfl rfl) (bz_41 1 6 rfl rfl)
theorem dL_law_1314 : decode code 1314 = .ok (.aload_n 2, 1) := dz_44 (bz_41 2 44 rfl rfl)
theorem dL_law_1315 : decode code 1315 = .ok (.invokevirtual 285, 3) := dz_182 (bz_41 3 182 rfl rfl) (bz_41 4 1 rfl rfl) (bz_41 5 29 rfl rfl)
theorem dL_law_1318 : decode code 1318 = .ok (.istore 7, 2) := dz_54 (bz_41 6 54 rfl rfl) (bz_41 7 7 rfl rfl)
theorem dL_law_1320 : decode code 1320 = .ok (.goto 142, 3) := dz_167 (bz_41 8 167 rfl rfl) (bz_41 9 0 rfl rfl) (bz_41 10 142 rfl rfl) (by decide +kernel)
theorem dL_law_1323 : decode code 1323 = .ok (.aload_n 1, 1) := dz_43 (bz_41 11 43 rfl rfl)
theorem dL_law_1324 : decode code 1324 = .ok (.aload_n 3, 1) := dz_45 (bz_41 12 45 rfl rfl)
theorem dL_law_1325 : decode code 1325 = .ok (.invokestatic 286, 3) := dz_184 (bz_41 13 184 rfl rfl) (bz_41 14 1 rfl rfl) (bz_41 15 30 rfl rfl)
theorem dL_law_1328 : decode code 1328 = .ok (.istore 6, 2) := dz_54 (bz_41 16 54 rfl rfl) (bz_41 17 6 rfl rfl)
theorem dL_law_1330 : decode code 1330 = .ok (.aload_n 2, 1) := dz_44 (bz_41 18 44 rfl rfl)
theorem dL_law_1331 : decode code 1331 = .ok (.invokevirtual 288, 3) := dz_182 (bz_41 19 182 rfl rfl) (bz_41 20 1 rfl rfl) (bz_41 21 32 rfl rfl)
theorem dL_law_1334 : decode code 1334 = .ok (.istore 7, 2) := dz_54 (bz_41 22 54 rfl rfl) (bz_41 23 7 rfl rfl)
theorem dL_law_1336 : decode code 1336 = .ok (.goto 126, 3) := dz_167 (bz_41 24 167 rfl rfl) (bz_41 25 0 rfl rfl) (bz_41 26 126 rfl rfl) (by decide +kernel)
theorem dL_law_1339 : decode code 1339 = .ok (.aload_n 1, 1) := dz_43 (bz_41 27 43 rfl rfl)
theorem dL_law_1340 : decode code 1340 = .ok (.aload_n 3, 1) := dz_45 (bz_41 28 45 rfl rfl)
theorem dL_law_1341 : decode code 1341 = .ok (.invokestatic 289, 3) := dz_184 (bz_41 29 184 rfl rfl) (bz_41 30 1 rfl rfl) (bz_41 31 33 rfl rfl)
theorem dL_law_1344 : decode code 1344 = .ok (.istore 6, 2) := dz_54 (bz_42 0 54 rfl rfl) (bz_42 1 6 rfl rfl)
theorem dL_law_1346 : decode code 1346 = .ok (.aload_n 2, 1) := dz_44 (bz_42 2 44 rfl rfl)
theorem dL_law_1347 : decode code 1347 = .ok (.invokevirtual 291, 3) := dz_182 (bz_42 3 182 rfl rfl) (bz_42 4 1 rfl rfl) (bz_42 5 35 rfl rfl)
theorem dL_law_1350 : decode code 1350 = .ok (.istore 7, 2) := dz_54 (bz_42 6 54 rfl rfl) (bz_42 7 7 rfl rfl)
theorem dL_law_1352 : decode code 1352 = .ok (.goto 110, 3) := dz_167 (bz_42 8 167 rfl rfl) (bz_42 9 0 rfl rfl) (bz_42 10 110 rfl rfl) (by decide +kernel)
theorem dL_law_1355 : decode code 1355 = .ok (.aload_n 1, 1) := dz_43 (bz_42 11 43 rfl rfl)
theorem dL_law_1356 : decode code 1356 = .ok (.aload_n 0, 1) := dz_42 (bz_42 12 42 rfl rfl)
theorem dL_law_1357 : decode code 1357 = .ok (.iload 5, 2) := dz_21 (bz_42 13 21 rfl rfl) (bz_42 14 5 rfl rfl)
theorem dL_law_1359 : decode code 1359 = .ok (.iconst 1, 1) := dz_4 (bz_42 15 4 rfl rfl)
theorem dL_law_1360 : decode code 1360 = .ok (.iadd, 1) := dz_96 (bz_42 16 96 rfl rfl)
theorem dL_law_1361 : decode code 1361 = .ok (.iaload, 1) := dz_46 (bz_42 17 46 rfl rfl)
theorem dL_law_1362 : decode code 1362 = .ok (.aload_n 3, 1) := dz_45 (bz_42 18 45 rfl rfl)
theorem dL_law_1363 : decode code 1363 = .ok (.invokestatic 292, 3) := dz_184 (bz_42 19 184 rfl rfl) (bz_42 20 1 rfl rfl) (bz_42 21 36 rfl rfl)
theorem dL_law_1366 : decode code 1366 = .ok (.istore 6, 2) := dz_54 (bz_42 22 54 rfl rfl) (bz_42 23 6 rfl rfl)
theorem dL_law_1368 : decode code 1368 = .ok (.aload_n 2, 1) := dz_44 (bz_42 24 44 rfl rfl)
theorem dL_law_1369 : decode code 1369 = .ok (.aload_n 0, 1) := dz_42 (bz_42 25 42 rfl rfl)
theorem dL_law_1370 : decode code 1370 = .ok (.iload 5, 2) := dz_21 (bz_42 26 21 rfl rfl) (bz_42 27 5 rfl rfl)
theorem dL_law_1372 : decode code 1372 = .ok (.iconst 1, 1) := dz_4 (bz_42 28 4 rfl rfl)
theorem dL_law_1373 : decode code 1373 = .ok (.iadd, 1) := dz_96 (bz_42 29 96 rfl rfl)
theorem dL_law_1374 : decode code 1374 = .ok (.iaload, 1) := dz_46 (bz_42 30 46 rfl rfl)
theorem dL_law_1375 : decode code 1375 = .ok (.invokevirtual 294, 3) := dz_182 (bz_42 31 182 rfl rfl) (bz_43 0 1 rfl rfl) (bz_43 1 38 rfl rfl)
theorem dL_law_1378 : decode code 1378 = .ok (.istore 7, 2) := dz_54 (bz_43 2 54 rfl rfl) (bz_43 3 7 rfl rfl)
theorem dL_law_1380 : decode code 1380 = .ok (.goto 82, 3) := dz_167 (bz_43 4 167 rfl rfl) (bz_43 5 0 rfl rfl) (bz_43 6 82 rfl rfl) (by decide +kernel)
theorem dL_law_1383 : decode code 1383 = .ok (.aload_n 1, 1) := dz_43 (bz_43 7 43 rfl rfl)
theorem dL_law_1384 : decode code 1384 = .ok (.aload_n 0, 1) := dz_42 (bz_43 8 42 rfl rfl)
theorem dL_law_1385 : decode code 1385 = .ok (.iload 5, 2) := dz_21 (bz_43 9 21 rfl rfl) (bz_43 10 5 rfl rfl)
theorem dL_law_1387 : decode code 1387 = .ok (.iconst 1, 1) := dz_4 (bz_43 11 4 rfl rfl)
theorem dL_law_1388 : decode code 1388 = .ok (.iadd, 1) := dz_96 (bz_43 12 96 rfl rfl)
theorem dL_law_1389 : decode code 1389 = .ok (.iaload, 1) := dz_46 (bz_43 13 46 rfl rfl)
theorem dL_law_1390 : decode code 1390 = .ok (.aload_n 3, 1) := dz_45 (bz_43 14 45 rfl rfl)
theorem dL_law_1391 : decode code 1391 = .ok (.invokestatic 295, 3) := dz_184 (bz_43 15 184 rfl rfl) (bz_43 16 1 rfl rfl) (bz_43 17 39 rfl rfl)
theorem dL_law_1394 : decode code 1394 = .ok (.istore 6, 2) := dz_54 (bz_43 18 54 rfl rfl) (bz_43 19 6 rfl rfl)
theorem dL_law_1396 : decode code 1396 = .ok (.aload_n 2, 1) := dz_44 (bz_43 20 44 rfl rfl)
theorem dL_law_1397 : decode code 1397 = .ok (.aload_n 0, 1) := dz_42 (bz_43 21 42 rfl rfl)
theorem dL_law_1398 : decode code 1398 = .ok (.iload 5, 2) := dz_21 (bz_43 22 21 rfl rfl) (bz_43 23 5 rfl rfl)
theorem dL_law_1400 : decode code 1400 = .ok (.iconst 1, 1) := dz_4 (bz_43 24 4 rfl rfl)
theorem dL_law_1401 : decode code 1401 = .ok (.iadd, 1) := dz_96 (bz_43 25 96 rfl rfl)
theorem dL_law_1402 : decode code 1402 = .ok (.iaload, 1) := dz_46 (bz_43 26 46 rfl rfl)
theorem dL_law_1403 : decode code 1403 = .ok (.invokevirtual 297, 3) := dz_182 (bz_43 27 182 rfl rfl) (bz_43 28 1 rfl rfl) (bz_43 29 41 rfl rfl)
theorem dL_law_1406 : decode code 1406 = .ok (.istore 7, 2) := dz_54 (bz_43 30 54 rfl rfl) (bz_43 31 7 rfl rfl)
theorem dL_law_1408 : decode code 1408 = .ok (.goto 54, 3) := dz_167 (bz_44 0 167 rfl rfl) (bz_44 1 0 rfl rfl) (bz_44 2 54 rfl rfl) (by decide +kernel)
theorem dL_law_1411 : decode code 1411 = .ok (.aload_n 1, 1) := dz_43 (bz_44 3 43 rfl rfl)
theorem dL_law_1412 : decode code 1412 = .ok (.aload_n 3, 1) := dz_45 (bz_44 4 45 rfl rfl)
theorem dL_law_1413 : decode code 1413 = .ok (.invokestatic 298, 3) := dz_184 (bz_44 5 184 rfl rfl) (bz_44 6 1 rfl rfl) (bz_44 7 42 rfl rfl)
theorem dL_law_1416 : decode code 1416 = .ok (.istore 6, 2) := dz_54 (bz_44 8 54 rfl rfl) (bz_44 9 6 rfl rfl)
theorem dL_law_1418 : decode code 1418 = .ok (.aload_n 2, 1) := dz_44 (bz_44 10 44 rfl rfl)
theorem dL_law_1419 : decode code 1419 = .ok (.invokevirtual 300, 3) := dz_182 (bz_44 11 182 rfl rfl) (bz_44 12 1 rfl rfl) (bz_44 13 44 rfl rfl)
theorem dL_law_1422 : decode code 1422 = .ok (.istore 7, 2) := dz_54 (bz_44 14 54 rfl rfl) (bz_44 15 7 rfl rfl)
theorem dL_law_1424 : decode code 1424 = .ok (.goto 38, 3) := dz_167 (bz_44 16 167 rfl rfl) (bz_44 17 0 rfl rfl) (bz_44 18 38 rfl rfl) (by decide +kernel)
theorem dL_law_1427 : decode code 1427 = .ok (.aload_n 1, 1) := dz_43 (bz_44 19 43 rfl rfl)
theorem dL_law_1428 : decode code 1428 = .ok (.invokevirtual 301, 3) := dz_182 (bz_44 20 182 rfl rfl) (bz_44 21 1 rfl rfl) (bz_44 22 45 rfl rfl)
theorem dL_law_1431 : decode code 1431 = .ok (.aload_n 2, 1) := dz_44 (bz_44 23 44 rfl rfl)
theorem dL_law_1432 : decode code 1432 = .ok (.invokevirtual 304, 3) := dz_182 (bz_44 24 182 rfl rfl) (bz_44 25 1 rfl rfl) (bz_44 26 48 rfl rfl)
theorem dL_law_1435 : decode code 1435 = .ok (.goto 27, 3) := dz_167 (bz_44 27 167 rfl rfl) (bz_44 28 0 rfl rfl) (bz_44 29 27 rfl rfl) (by decide +kernel)
theorem dL_law_1438 : decode code 1438 = .ok (.aload_n 1, 1) := dz_43 (bz_44 30 43 rfl rfl)
theorem dL_law_1439 : decode code 1439 = .ok (.invokestatic 305, 3) := dz_184 (bz_44 31 184 rfl rfl) (bz_45 0 1 rfl rfl) (bz_45 1 49 rfl rfl)
theorem dL_law_1442 : decode code 1442 = .ok (.istore 6, 2) := dz_54 (bz_45 2 54 rfl rfl) (bz_45 3 6 rfl rfl)
theorem dL_law_1444 : decode code 1444 = .ok (.aload_n 2, 1) := dz_44 (bz_45 4 44 rfl rfl)
theorem dL_law_1445 : decode code 1445 = .ok (.invokevirtual 308, 3) := dz_182 (bz_45 5 182 rfl rfl) (bz_45 6 1 rfl rfl) (bz_45 7 52 rfl rfl)
theorem dL_law_1448 : decode code 1448 = .ok (.aload_n 2, 1) := dz_44 (bz_45 8 44 rfl rfl)
theorem dL_law_1449 : decode code 1449 = .ok (.invokevirtual 309, 3) := dz_182 (bz_45 9 182 rfl rfl) (bz_45 10 1 rfl rfl) (bz_45 11 53 rfl rfl)
theorem dL_law_1452 : decode code 1452 = .ok (.iload 6, 2) := dz_21 (bz_45 12 21 rfl rfl) (bz_45 13 6 rfl rfl)
theorem dL_law_1454 : decode code 1454 = .ok (.if_icmp .eq 5, 3) := dz_159 (bz_45 14 159 rfl rfl) (bz_45 15 0 rfl rfl) (bz_45 16 5 rfl rfl) (by decide +kernel)
theorem dL_law_1459 : decode code 1459 = .ok (.goto 3, 3) := dz_167 (bz_45 19 167 rfl rfl) (bz_45 20 0 rfl rfl) (bz_45 21 3 rfl rfl) (by decide +kernel)
theorem dL_law_1462 : decode code 1462 = .ok (.iinc 5 4, 3) := by decide +kernel
theorem dL_law_1465 : decode code 1465 = .ok (.goto (-1437), 3) := dz_167 (bz_45 25 167 rfl rfl) (bz_45 26 250 rfl rfl) (bz_45 27 99 rfl rfl) (by decide +kernel)
theorem dL_law_1468 : decode code 1468 = .ok (.iconst 1, 1) := dz_4 (bz_45 28 4 rfl rfl)
theorem dL_law_1469 : decode code 1469 = .ok (.ireturn, 1) := dz_172 (bz_45 29 172 rfl rfl)
