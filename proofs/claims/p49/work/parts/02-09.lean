section
/-- the array classes: int, char, long, double, byte, State, Object -/
def tyG (aT : Nat → ClassId) : List (ClassId × FieldType) := [(aT 0, .int), (aT 1, .char), (aT 2, .long), (aT 3, .double), (aT 4, .byte), (aT 5, .object "HedgeCommittee$State"), (aT 6, .object "java/lang/Object")]
/-- the state of the reference: rows 0 to 12 its arrays, row 13 its numbers by their fields -/
abbrev MSt : Type := Nat → Nat → Int32
def sr (S : MSt) (i : Nat) (f : Nat → Int32) : MSt := fun r => if r = i then f else S r
def ss (S : MSt) (k : Nat) (x : Int32) : MSt := sr S 13 (upd (S 13) k x)
theorem sr_s (S : MSt) (i : Nat) (f : Nat → Int32) : sr S i f i = f := by simp [sr]
theorem sr_n (S : MSt) {i j : Nat} (f : Nat → Int32) (h : j ≠ i) : sr S i f j = S j := by simp [sr, h]
/-- the reference's cells -/
def mdW (aT : Nat → ClassId) (ad : Nat → Nat) (S : MSt) : va_W := [(ad 0, .inr (13, [.ref (ad 1), .ref (ad 2), .ref (ad 3), .int (S 13 3), .ref (ad 4), .int (S 13 5), .int (S 13 6), .int (S 13 7), .int (S 13 8), .ref (ad 5), .int (S 13 10), .ref (ad 6), .ref (ad 7), .ref (ad 8), .ref (ad 9), .int (S 13 15), .int (S 13 16), .ref (ad 10), .ref (ad 11), .ref (ad 12), .int (S 13 20), .int (S 13 21), .int (S 13 22), .int (S 13 23), .ref (ad 13), .int (S 13 25)])),
  (ad 1, .inl (aT 0, (77, .inl (S 0)))),
  (ad 2, .inl (aT 0, (77, .inl (S 1)))),
  (ad 3, .inl (aT 0, (77, .inl (S 2)))),
  (ad 4, .inl (aT 0, (616, .inl (S 3)))),
  (ad 5, .inl (aT 0, (60, .inl (S 4)))),
  (ad 6, .inl (aT 0, (12, .inl (S 5)))),
  (ad 7, .inl (aT 0, (12, .inl (S 6)))),
  (ad 8, .inl (aT 0, (12, .inl (S 7)))),
  (ad 9, .inl (aT 0, (12, .inl (S 8)))),
  (ad 10, .inl (aT 1, (41, .inl (S 9)))),
  (ad 11, .inl (aT 0, (8, .inl (S 10)))),
  (ad 12, .inl (aT 0, (244, .inl (S 11)))),
  (ad 13, .inl (aT 0, (400, .inl (S 12))))]
def MdB (D : va_G) (aT : Nat → ClassId) (ad : Nat → Nat) (S : MSt) (A : Nat → Prop) (H0 H : Heap) (locs : List Loc) : Prop := va_P D vwCl (mdW aT ad S) H ∧ va_D A (mdW aT ad S) ∧ va_S A H0 H locs
def MdX (p : Program) (c : Code) (cc : ByteArray) (s : State) (args : Array Value) (m : MethodId) (D : va_G) (aT : Nat → ClassId) : Prop := p.tables.exec = Jvm.exec ∧ c.code = cc ∧ (∀ w ∈ gw, w.before args s = true) ∧ s.vm.findClass RX10 = some m.cls ∧ va_K D vwCl (tyG aT) s
def mdB1 (D : va_G) (aT : Nat → ClassId) (ad : Nat → Nat) (S : MSt) (sz : Nat) (U : State) : Prop := U.heap.size = sz ∧ va_P D vwCl (mdW aT ad S) U.heap ∧ va_K D vwCl (tyG aT) U ∧ va_D (fun _ => True) (mdW aT ad S)
def mdB2 (D : va_G) (aT : Nat → ClassId) (ad : Nat → Nat) (S0 : MSt) (sz : Nat) (S : MSt) (U : State) : Prop := va_P D vwCl (mdW aT ad S) U.heap ∧ va_K D vwCl (tyG aT) U ∧ va_D (va_A (mdW aT ad S0) sz) (mdW aT ad S)
abbrev mdR (fr lo : Nat) : Room := { frames := fr, cells := 0, slots := 0, locals := lo }
/-- a method of the reference that answers an int -/
def MdI (l : Launch) (y : MethodName) (b : ByteArray) (L : Nat) (ret : FieldType) (fr lo : Nat) (D : va_G) (aT : Nat → ClassId) (ad : Nat → Nat) (As : List Value) (S : MSt) (post : Int32 → MSt → Prop) : Prop :=
  ∀ sz, Met l y (Cond.code y b L (some ret) :: gw) (mdR fr lo) (va_Pc As (mdB1 D aT ad S sz)) (va_Qi post (mdB2 D aT ad S sz) (va_A (mdW aT ad S) sz)) 0 0 (va_A (mdW aT ad S) sz)
/-- .. that answers nothing -/
def MdV (l : Launch) (y : MethodName) (b : ByteArray) (L : Nat) (fr lo : Nat) (D : va_G) (aT : Nat → ClassId) (ad : Nat → Nat) (As : List Value) (S : MSt) (post : MSt → Prop) : Prop :=
  ∀ sz, Met l y (Cond.code y b L none :: gw) (mdR fr lo) (va_Pc As (mdB1 D aT ad S sz)) (va_Qv post (mdB2 D aT ad S sz) (va_A (mdW aT ad S) sz)) 0 0 (va_A (mdW aT ad S) sz)
theorem mdW_D {aT : Nat → ClassId} {ad : Nat → Nat} {S S' : MSt} {A : Nat → Prop} (h : va_D A (mdW aT ad S)) : va_D A (mdW aT ad S') := by
  have e : ∀ (k : Nat) (q : Nat × va_E), (mdW aT ad S')[k]? = some q → ∃ e2, (mdW aT ad S)[k]? = some (q.1, e2) := by
    intro k q hq
    have h1 : (mdW aT ad S').map Prod.fst = (mdW aT ad S).map Prod.fst := rfl
    have h2 : ((mdW aT ad S').map Prod.fst)[k]? = some q.1 := by rw [List.getElem?_map, hq]; rfl
    rw [h1, List.getElem?_map] at h2
    cases h3 : (mdW aT ad S)[k]? with
    | none => rw [h3] at h2; cases h2
    | some z =>
      rw [h3] at h2
      obtain ⟨z1, z2⟩ := z
      have : z1 = q.1 := Option.some.inj h2
      exact ⟨z2, by rw [this]⟩
  refine ⟨fun i j p q hp hq hpq => ?_, fun k q hq => ?_⟩
  · obtain ⟨e1, h1⟩ := e i p hp
    obtain ⟨e2, h2⟩ := e j q hq
    exact h.1 i j _ _ h1 h2 hpq
  · obtain ⟨e1, h1⟩ := e k q hq
    exact h.2 k (q.1, e1) h1
theorem inX10 : ∀ w ∈ u_ws RX10 TX10 26, w ∈ gw := List.forall_mem_cons.mpr ⟨gw_1649, List.forall_mem_cons.mpr ⟨gw_1651, List.forall_mem_cons.mpr ⟨gw_1653, List.forall_mem_cons.mpr ⟨gw_1655, List.forall_mem_cons.mpr ⟨gw_1657, List.forall_mem_cons.mpr ⟨gw_1659, List.forall_mem_cons.mpr ⟨gw_1661, List.forall_mem_cons.mpr ⟨gw_1663, List.forall_mem_cons.mpr ⟨gw_1665, List.forall_mem_cons.mpr ⟨gw_1667, List.forall_mem_cons.mpr ⟨gw_1669, List.forall_mem_cons.mpr ⟨gw_1671, List.forall_mem_cons.mpr ⟨gw_1673, List.forall_mem_cons.mpr ⟨gw_1675, List.forall_mem_cons.mpr ⟨gw_1677, List.forall_mem_cons.mpr ⟨gw_1679, List.forall_mem_cons.mpr ⟨gw_1681, List.forall_mem_cons.mpr ⟨gw_1683, List.forall_mem_cons.mpr ⟨gw_1685, List.forall_mem_cons.mpr ⟨gw_1687, List.forall_mem_cons.mpr ⟨gw_1689, List.forall_mem_cons.mpr ⟨gw_1691, List.forall_mem_cons.mpr ⟨gw_1693, List.forall_mem_cons.mpr ⟨gw_1695, List.forall_mem_cons.mpr ⟨gw_1697, List.forall_mem_cons.mpr ⟨gw_1699, fun _ h => absurd h List.not_mem_nil⟩⟩⟩⟩⟩⟩⟩⟩⟩⟩⟩⟩⟩⟩⟩⟩⟩⟩⟩⟩⟩⟩⟩⟩⟩⟩
section MDR
variable {p : Program} {l : Launch} {e : Env} {R : Room} {s : State} {m : MethodId} {args : Array Value} {below : List Frame} {meth : Method} {c : Code} {H : Heap} {locs : List Loc} {cells slots : Nat} {Q : State → Prop} {cc : ByteArray} {pc : Nat} {ls : Array Slot} {rest : List Value} {D : va_G} {aT : Nat → ClassId} {ad : Nat → Nat} {S : MSt} {A : Nat → Prop} {H0 : Heap}
theorem md_geta_m (C : MdX p c cc s args m D aT) (hW : MdB D aT ad S A H0 H locs) (hdg : decode cc pc = .ok (.getfield 9, 3)) (k : W p l e R s m args below meth c H locs cells slots Q (F0 m (pc + 3) ls (.ref (ad 1) :: rest))) : W p l e R s m args below meth c H locs cells slots Q (F0 m pc ls (.ref (ad 0) :: rest)) := by
  obtain ⟨hx, hb, hg, hown, hK⟩ := C
  exact va_get (D := D) (ci := 13) (v := .ref (ad 1)) (C := RX10) (T := TX10) (N := 26) hx hb hg inX10 hown hK hW.1 0 rfl rfl 0 (by decide) (hg _ gw_1623) (fun _ h9 => h9) rfl hdg k
theorem md_ald_m (C : MdX p c cc s args m D aT) (hW : MdB D aT ad S A H0 H locs) {i : Nat} (hi : i < 77) (hdg : decode cc pc = .ok (.iaload, 1)) (k : W p l e R s m args below meth c H locs cells slots Q (F0 m (pc + 1) ls (.int (S 0 i) :: rest))) : W p l e R s m args below meth c H locs cells slots Q (F0 m pc ls (.int (nI i) :: .ref (ad 1) :: rest)) := by
  obtain ⟨hx, hb, hg, hown, hK⟩ := C
  refine va_iald (D := D) hx hb hK hW.1 1 0 rfl rfl (vp_in_nI hi (by decide)) hdg ?_
  rw [nI_clamp (by omega)]
  exact k
theorem md_ast_m (C : MdX p c cc s args m D aT) (hW : MdB D aT ad S A H0 H locs) {i : Nat} {x : Int32} (hi : i < 77) (hdg : decode cc pc = .ok (.iastore, 1)) (k : ∀ (H1 : Heap) (locs1 : List Loc), MdB D aT ad (sr S 0 (upd (S 0) i x)) A H0 H1 locs1 → W p l e R s m args below meth c H1 locs1 cells slots Q (F0 m (pc + 1) ls rest)) : W p l e R s m args below meth c H locs cells slots Q (F0 m pc ls (.int x :: .int (nI i) :: .ref (ad 1) :: rest)) := by
  obtain ⟨hx, hb, hg, hown, hK⟩ := C
  refine va_iast (D := D) hx hb hK hW.1 hW.2.1 hW.2.2 1 0 rfl rfl (vp_in_nI hi (by decide)) hdg (fun H1 locs1 h1 h2 h3 => ?_)
  rw [nI_clamp (by omega)] at h1
  exact k H1 locs1 ⟨h1, mdW_D hW.2.1, h3⟩
theorem md_geta_aside (C : MdX p c cc s args m D aT) (hW : MdB D aT ad S A H0 H locs) (hdg : decode cc pc = .ok (.getfield 13, 3)) (k : W p l e R s m args below meth c H locs cells slots Q (F0 m (pc + 3) ls (.ref (ad 2) :: rest))) : W p l e R s m args below meth c H locs cells slots Q (F0 m pc ls (.ref (ad 0) :: rest)) := by
  obtain ⟨hx, hb, hg, hown, hK⟩ := C
  exact va_get (D := D) (ci := 13) (v := .ref (ad 2)) (C := RX10) (T := TX10) (N := 26) hx hb hg inX10 hown hK hW.1 0 rfl rfl 1 (by decide) (hg _ gw_1624) (fun _ h9 => h9) rfl hdg k
theorem md_ald_aside (C : MdX p c cc s args m D aT) (hW : MdB D aT ad S A H0 H locs) {i : Nat} (hi : i < 77) (hdg : decode cc pc = .ok (.iaload, 1)) (k : W p l e R s m args below meth c H locs cells slots Q (F0 m (pc + 1) ls (.int (S 1 i) :: rest))) : W p l e R s m args below meth c H locs cells slots Q (F0 m pc ls (.int (nI i) :: .ref (ad 2) :: rest)) := by
  obtain ⟨hx, hb, hg, hown, hK⟩ := C
  refine va_iald (D := D) hx hb hK hW.1 2 0 rfl rfl (vp_in_nI hi (by decide)) hdg ?_
  rw [nI_clamp (by omega)]
  exact k
theorem md_ast_aside (C : MdX p c cc s args m D aT) (hW : MdB D aT ad S A H0 H locs) {i : Nat} {x : Int32} (hi : i < 77) (hdg : decode cc pc = .ok (.iastore, 1)) (k : ∀ (H1 : Heap) (locs1 : List Loc), MdB D aT ad (sr S 1 (upd (S 1) i x)) A H0 H1 locs1 → W p l e R s m args below meth c H1 locs1 cells slots Q (F0 m (pc + 1) ls rest)) : W p l e R s m args below meth c H locs cells slots Q (F0 m pc ls (.int x :: .int (nI i) :: .ref (ad 2) :: rest)) := by
  obtain ⟨hx, hb, hg, hown, hK⟩ := C
  refine va_iast (D := D) hx hb hK hW.1 hW.2.1 hW.2.2 2 0 rfl rfl (vp_in_nI hi (by decide)) hdg (fun H1 locs1 h1 h2 h3 => ?_)
  rw [nI_clamp (by omega)] at h1
  exact k H1 locs1 ⟨h1, mdW_D hW.2.1, h3⟩
theorem md_geta_saved (C : MdX p c cc s args m D aT) (hW : MdB D aT ad S A H0 H locs) (hdg : decode cc pc = .ok (.getfield 16, 3)) (k : W p l e R s m args below meth c H locs cells slots Q (F0 m (pc + 3) ls (.ref (ad 3) :: rest))) : W p l e R s m args below meth c H locs cells slots Q (F0 m pc ls (.ref (ad 0) :: rest)) := by
  obtain ⟨hx, hb, hg, hown, hK⟩ := C
  exact va_get (D := D) (ci := 13) (v := .ref (ad 3)) (C := RX10) (T := TX10) (N := 26) hx hb hg inX10 hown hK hW.1 0 rfl rfl 2 (by decide) (hg _ gw_1625) (fun _ h9 => h9) rfl hdg k
theorem md_ald_saved (C : MdX p c cc s args m D aT) (hW : MdB D aT ad S A H0 H locs) {i : Nat} (hi : i < 77) (hdg : decode cc pc = .ok (.iaload, 1)) (k : W p l e R s m args below meth c H locs cells slots Q (F0 m (pc + 1) ls (.int (S 2 i) :: rest))) : W p l e R s m args below meth c H locs cells slots Q (F0 m pc ls (.int (nI i) :: .ref (ad 3) :: rest)) := by
  obtain ⟨hx, hb, hg, hown, hK⟩ := C
  refine va_iald (D := D) hx hb hK hW.1 3 0 rfl rfl (vp_in_nI hi (by decide)) hdg ?_
  rw [nI_clamp (by omega)]
  exact k
theorem md_ast_saved (C : MdX p c cc s args m D aT) (hW : MdB D aT ad S A H0 H locs) {i : Nat} {x : Int32} (hi : i < 77) (hdg : decode cc pc = .ok (.iastore, 1)) (k : ∀ (H1 : Heap) (locs1 : List Loc), MdB D aT ad (sr S 2 (upd (S 2) i x)) A H0 H1 locs1 → W p l e R s m args below meth c H1 locs1 cells slots Q (F0 m (pc + 1) ls rest)) : W p l e R s m args below meth c H locs cells slots Q (F0 m pc ls (.int x :: .int (nI i) :: .ref (ad 3) :: rest)) := by
  obtain ⟨hx, hb, hg, hown, hK⟩ := C
  refine va_iast (D := D) hx hb hK hW.1 hW.2.1 hW.2.2 3 0 rfl rfl (vp_in_nI hi (by decide)) hdg (fun H1 locs1 h1 h2 h3 => ?_)
  rw [nI_clamp (by omega)] at h1
  exact k H1 locs1 ⟨h1, mdW_D hW.2.1, h3⟩
theorem md_geta_past (C : MdX p c cc s args m D aT) (hW : MdB D aT ad S A H0 H locs) (hdg : decode cc pc = .ok (.getfield 19, 3)) (k : W p l e R s m args below meth c H locs cells slots Q (F0 m (pc + 3) ls (.ref (ad 4) :: rest))) : W p l e R s m args below meth c H locs cells slots Q (F0 m pc ls (.ref (ad 0) :: rest)) := by
  obtain ⟨hx, hb, hg, hown, hK⟩ := C
  exact va_get (D := D) (ci := 13) (v := .ref (ad 4)) (C := RX10) (T := TX10) (N := 26) hx hb hg inX10 hown hK hW.1 0 rfl rfl 4 (by decide) (hg _ gw_1627) (fun _ h9 => h9) rfl hdg k
theorem md_ald_past (C : MdX p c cc s args m D aT) (hW : MdB D aT ad S A H0 H locs) {i : Nat} (hi : i < 616) (hdg : decode cc pc = .ok (.iaload, 1)) (k : W p l e R s m args below meth c H locs cells slots Q (F0 m (pc + 1) ls (.int (S 3 i) :: rest))) : W p l e R s m args below meth c H locs cells slots Q (F0 m pc ls (.int (nI i) :: .ref (ad 4) :: rest)) := by
  obtain ⟨hx, hb, hg, hown, hK⟩ := C
  refine va_iald (D := D) hx hb hK hW.1 4 0 rfl rfl (vp_in_nI hi (by decide)) hdg ?_
  rw [nI_clamp (by omega)]
  exact k
theorem md_ast_past (C : MdX p c cc s args m D aT) (hW : MdB D aT ad S A H0 H locs) {i : Nat} {x : Int32} (hi : i < 616) (hdg : decode cc pc = .ok (.iastore, 1)) (k : ∀ (H1 : Heap) (locs1 : List Loc), MdB D aT ad (sr S 3 (upd (S 3) i x)) A H0 H1 locs1 → W p l e R s m args below meth c H1 locs1 cells slots Q (F0 m (pc + 1) ls rest)) : W p l e R s m args below meth c H locs cells slots Q (F0 m pc ls (.int x :: .int (nI i) :: .ref (ad 4) :: rest)) := by
  obtain ⟨hx, hb, hg, hown, hK⟩ := C
  refine va_iast (D := D) hx hb hK hW.1 hW.2.1 hW.2.2 4 0 rfl rfl (vp_in_nI hi (by decide)) hdg (fun H1 locs1 h1 h2 h3 => ?_)
  rw [nI_clamp (by omega)] at h1
  exact k H1 locs1 ⟨h1, mdW_D hW.2.1, h3⟩
theorem md_geta_input (C : MdX p c cc s args m D aT) (hW : MdB D aT ad S A H0 H locs) (hdg : decode cc pc = .ok (.getfield 29, 3)) (k : W p l e R s m args below meth c H locs cells slots Q (F0 m (pc + 3) ls (.ref (ad 5) :: rest))) : W p l e R s m args below meth c H locs cells slots Q (F0 m pc ls (.ref (ad 0) :: rest)) := by
  obtain ⟨hx, hb, hg, hown, hK⟩ := C
  exact va_get (D := D) (ci := 13) (v := .ref (ad 5)) (C := RX10) (T := TX10) (N := 26) hx hb hg inX10 hown hK hW.1 0 rfl rfl 9 (by decide) (hg _ gw_1632) (fun _ h9 => h9) rfl hdg k
theorem md_ald_input (C : MdX p c cc s args m D aT) (hW : MdB D aT ad S A H0 H locs) {i : Nat} (hi : i < 60) (hdg : decode cc pc = .ok (.iaload, 1)) (k : W p l e R s m args below meth c H locs cells slots Q (F0 m (pc + 1) ls (.int (S 4 i) :: rest))) : W p l e R s m args below meth c H locs cells slots Q (F0 m pc ls (.int (nI i) :: .ref (ad 5) :: rest)) := by
  obtain ⟨hx, hb, hg, hown, hK⟩ := C
  refine va_iald (D := D) hx hb hK hW.1 5 0 rfl rfl (vp_in_nI hi (by decide)) hdg ?_
  rw [nI_clamp (by omega)]
  exact k
theorem md_ast_input (C : MdX p c cc s args m D aT) (hW : MdB D aT ad S A H0 H locs) {i : Nat} {x : Int32} (hi : i < 60) (hdg : decode cc pc = .ok (.iastore, 1)) (k : ∀ (H1 : Heap) (locs1 : List Loc), MdB D aT ad (sr S 4 (upd (S 4) i x)) A H0 H1 locs1 → W p l e R s m args below meth c H1 locs1 cells slots Q (F0 m (pc + 1) ls rest)) : W p l e R s m args below meth c H locs cells slots Q (F0 m pc ls (.int x :: .int (nI i) :: .ref (ad 5) :: rest)) := by
  obtain ⟨hx, hb, hg, hown, hK⟩ := C
  refine va_iast (D := D) hx hb hK hW.1 hW.2.1 hW.2.2 5 0 rfl rfl (vp_in_nI hi (by decide)) hdg (fun H1 locs1 h1 h2 h3 => ?_)
  rw [nI_clamp (by omega)] at h1
  exact k H1 locs1 ⟨h1, mdW_D hW.2.1, h3⟩
theorem md_geta_with (C : MdX p c cc s args m D aT) (hW : MdB D aT ad S A H0 H locs) (hdg : decode cc pc = .ok (.getfield 32, 3)) (k : W p l e R s m args below meth c H locs cells slots Q (F0 m (pc + 3) ls (.ref (ad 6) :: rest))) : W p l e R s m args below meth c H locs cells slots Q (F0 m pc ls (.ref (ad 0) :: rest)) := by
  obtain ⟨hx, hb, hg, hown, hK⟩ := C
  exact va_get (D := D) (ci := 13) (v := .ref (ad 6)) (C := RX10) (T := TX10) (N := 26) hx hb hg inX10 hown hK hW.1 0 rfl rfl 11 (by decide) (hg _ gw_1634) (fun _ h9 => h9) rfl hdg k
theorem md_ald_with (C : MdX p c cc s args m D aT) (hW : MdB D aT ad S A H0 H locs) {i : Nat} (hi : i < 12) (hdg : decode cc pc = .ok (.iaload, 1)) (k : W p l e R s m args below meth c H locs cells slots Q (F0 m (pc + 1) ls (.int (S 5 i) :: rest))) : W p l e R s m args below meth c H locs cells slots Q (F0 m pc ls (.int (nI i) :: .ref (ad 6) :: rest)) := by
  obtain ⟨hx, hb, hg, hown, hK⟩ := C
  refine va_iald (D := D) hx hb hK hW.1 6 0 rfl rfl (vp_in_nI hi (by decide)) hdg ?_
  rw [nI_clamp (by omega)]
  exact k
theorem md_ast_with (C : MdX p c cc s args m D aT) (hW : MdB D aT ad S A H0 H locs) {i : Nat} {x : Int32} (hi : i < 12) (hdg : decode cc pc = .ok (.iastore, 1)) (k : ∀ (H1 : Heap) (locs1 : List Loc), MdB D aT ad (sr S 5 (upd (S 5) i x)) A H0 H1 locs1 → W p l e R s m args below meth c H1 locs1 cells slots Q (F0 m (pc + 1) ls rest)) : W p l e R s m args below meth c H locs cells slots Q (F0 m pc ls (.int x :: .int (nI i) :: .ref (ad 6) :: rest)) := by
  obtain ⟨hx, hb, hg, hown, hK⟩ := C
  refine va_iast (D := D) hx hb hK hW.1 hW.2.1 hW.2.2 6 0 rfl rfl (vp_in_nI hi (by decide)) hdg (fun H1 locs1 h1 h2 h3 => ?_)
  rw [nI_clamp (by omega)] at h1
  exact k H1 locs1 ⟨h1, mdW_D hW.2.1, h3⟩
theorem md_geta_without (C : MdX p c cc s args m D aT) (hW : MdB D aT ad S A H0 H locs) (hdg : decode cc pc = .ok (.getfield 35, 3)) (k : W p l e R s m args below meth c H locs cells slots Q (F0 m (pc + 3) ls (.ref (ad 7) :: rest))) : W p l e R s m args below meth c H locs cells slots Q (F0 m pc ls (.ref (ad 0) :: rest)) := by
  obtain ⟨hx, hb, hg, hown, hK⟩ := C
  exact va_get (D := D) (ci := 13) (v := .ref (ad 7)) (C := RX10) (T := TX10) (N := 26) hx hb hg inX10 hown hK hW.1 0 rfl rfl 12 (by decide) (hg _ gw_1635) (fun _ h9 => h9) rfl hdg k
theorem md_ald_without (C : MdX p c cc s args m D aT) (hW : MdB D aT ad S A H0 H locs) {i : Nat} (hi : i < 12) (hdg : decode cc pc = .ok (.iaload, 1)) (k : W p l e R s m args below meth c H locs cells slots Q (F0 m (pc + 1) ls (.int (S 6 i) :: rest))) : W p l e R s m args below meth c H locs cells slots Q (F0 m pc ls (.int (nI i) :: .ref (ad 7) :: rest)) := by
  obtain ⟨hx, hb, hg, hown, hK⟩ := C
  refine va_iald (D := D) hx hb hK hW.1 7 0 rfl rfl (vp_in_nI hi (by decide)) hdg ?_
  rw [nI_clamp (by omega)]
  exact k
theorem md_ast_without (C : MdX p c cc s args m D aT) (hW : MdB D aT ad S A H0 H locs) {i : Nat} {x : Int32} (hi : i < 12) (hdg : decode cc pc = .ok (.iastore, 1)) (k : ∀ (H1 : Heap) (locs1 : List Loc), MdB D aT ad (sr S 6 (upd (S 6) i x)) A H0 H1 locs1 → W p l e R s m args below meth c H1 locs1 cells slots Q (F0 m (pc + 1) ls rest)) : W p l e R s m args below meth c H locs cells slots Q (F0 m pc ls (.int x :: .int (nI i) :: .ref (ad 7) :: rest)) := by
  obtain ⟨hx, hb, hg, hown, hK⟩ := C
  refine va_iast (D := D) hx hb hK hW.1 hW.2.1 hW.2.2 7 0 rfl rfl (vp_in_nI hi (by decide)) hdg (fun H1 locs1 h1 h2 h3 => ?_)
  rw [nI_clamp (by omega)] at h1
  exact k H1 locs1 ⟨h1, mdW_D hW.2.1, h3⟩
theorem md_geta_setsWith (C : MdX p c cc s args m D aT) (hW : MdB D aT ad S A H0 H locs) (hdg : decode cc pc = .ok (.getfield 38, 3)) (k : W p l e R s m args below meth c H locs cells slots Q (F0 m (pc + 3) ls (.ref (ad 8) :: rest))) : W p l e R s m args below meth c H locs cells slots Q (F0 m pc ls (.ref (ad 0) :: rest)) := by
  obtain ⟨hx, hb, hg, hown, hK⟩ := C
  exact va_get (D := D) (ci := 13) (v := .ref (ad 8)) (C := RX10) (T := TX10) (N := 26) hx hb hg inX10 hown hK hW.1 0 rfl rfl 13 (by decide) (hg _ gw_1636) (fun _ h9 => h9) rfl hdg k
theorem md_ald_setsWith (C : MdX p c cc s args m D aT) (hW : MdB D aT ad S A H0 H locs) {i : Nat} (hi : i < 12) (hdg : decode cc pc = .ok (.iaload, 1)) (k : W p l e R s m args below meth c H locs cells slots Q (F0 m (pc + 1) ls (.int (S 7 i) :: rest))) : W p l e R s m args below meth c H locs cells slots Q (F0 m pc ls (.int (nI i) :: .ref (ad 8) :: rest)) := by
  obtain ⟨hx, hb, hg, hown, hK⟩ := C
  refine va_iald (D := D) hx hb hK hW.1 8 0 rfl rfl (vp_in_nI hi (by decide)) hdg ?_
  rw [nI_clamp (by omega)]
  exact k
theorem md_ast_setsWith (C : MdX p c cc s args m D aT) (hW : MdB D aT ad S A H0 H locs) {i : Nat} {x : Int32} (hi : i < 12) (hdg : decode cc pc = .ok (.iastore, 1)) (k : ∀ (H1 : Heap) (locs1 : List Loc), MdB D aT ad (sr S 7 (upd (S 7) i x)) A H0 H1 locs1 → W p l e R s m args below meth c H1 locs1 cells slots Q (F0 m (pc + 1) ls rest)) : W p l e R s m args below meth c H locs cells slots Q (F0 m pc ls (.int x :: .int (nI i) :: .ref (ad 8) :: rest)) := by
  obtain ⟨hx, hb, hg, hown, hK⟩ := C
  refine va_iast (D := D) hx hb hK hW.1 hW.2.1 hW.2.2 8 0 rfl rfl (vp_in_nI hi (by decide)) hdg (fun H1 locs1 h1 h2 h3 => ?_)
  rw [nI_clamp (by omega)] at h1
  exact k H1 locs1 ⟨h1, mdW_D hW.2.1, h3⟩
theorem md_geta_setsWithout (C : MdX p c cc s args m D aT) (hW : MdB D aT ad S A H0 H locs) (hdg : decode cc pc = .ok (.getfield 41, 3)) (k : W p l e R s m args below meth c H locs cells slots Q (F0 m (pc + 3) ls (.ref (ad 9) :: rest))) : W p l e R s m args below meth c H locs cells slots Q (F0 m pc ls (.ref (ad 0) :: rest)) := by
  obtain ⟨hx, hb, hg, hown, hK⟩ := C
  exact va_get (D := D) (ci := 13) (v := .ref (ad 9)) (C := RX10) (T := TX10) (N := 26) hx hb hg inX10 hown hK hW.1 0 rfl rfl 14 (by decide) (hg _ gw_1637) (fun _ h9 => h9) rfl hdg k
theorem md_ald_setsWithout (C : MdX p c cc s args m D aT) (hW : MdB D aT ad S A H0 H locs) {i : Nat} (hi : i < 12) (hdg : decode cc pc = .ok (.iaload, 1)) (k : W p l e R s m args below meth c H locs cells slots Q (F0 m (pc + 1) ls (.int (S 8 i) :: rest))) : W p l e R s m args below meth c H locs cells slots Q (F0 m pc ls (.int (nI i) :: .ref (ad 9) :: rest)) := by
  obtain ⟨hx, hb, hg, hown, hK⟩ := C
  refine va_iald (D := D) hx hb hK hW.1 9 0 rfl rfl (vp_in_nI hi (by decide)) hdg ?_
  rw [nI_clamp (by omega)]
  exact k
theorem md_ast_setsWithout (C : MdX p c cc s args m D aT) (hW : MdB D aT ad S A H0 H locs) {i : Nat} {x : Int32} (hi : i < 12) (hdg : decode cc pc = .ok (.iastore, 1)) (k : ∀ (H1 : Heap) (locs1 : List Loc), MdB D aT ad (sr S 8 (upd (S 8) i x)) A H0 H1 locs1 → W p l e R s m args below meth c H1 locs1 cells slots Q (F0 m (pc + 1) ls rest)) : W p l e R s m args below meth c H locs cells slots Q (F0 m pc ls (.int x :: .int (nI i) :: .ref (ad 9) :: rest)) := by
  obtain ⟨hx, hb, hg, hown, hK⟩ := C
  refine va_iast (D := D) hx hb hK hW.1 hW.2.1 hW.2.2 9 0 rfl rfl (vp_in_nI hi (by decide)) hdg (fun H1 locs1 h1 h2 h3 => ?_)
  rw [nI_clamp (by omega)] at h1
  exact k H1 locs1 ⟨h1, mdW_D hW.2.1, h3⟩
theorem md_geta_letters (C : MdX p c cc s args m D aT) (hW : MdB D aT ad S A H0 H locs) (hdg : decode cc pc = .ok (.getfield 44, 3)) (k : W p l e R s m args below meth c H locs cells slots Q (F0 m (pc + 3) ls (.ref (ad 10) :: rest))) : W p l e R s m args below meth c H locs cells slots Q (F0 m pc ls (.ref (ad 0) :: rest)) := by
  obtain ⟨hx, hb, hg, hown, hK⟩ := C
  exact va_get (D := D) (ci := 13) (v := .ref (ad 10)) (C := RX10) (T := TX10) (N := 26) hx hb hg inX10 hown hK hW.1 0 rfl rfl 17 (by decide) (hg _ gw_1640) (fun _ h9 => h9) rfl hdg k
theorem md_ald_letters (C : MdX p c cc s args m D aT) (hW : MdB D aT ad S A H0 H locs) {i : Nat} (hi : i < 41) (hdg : decode cc pc = .ok (.caload, 1)) (k : W p l e R s m args below meth c H locs cells slots Q (F0 m (pc + 1) ls (.int (S 9 i) :: rest))) : W p l e R s m args below meth c H locs cells slots Q (F0 m pc ls (.int (nI i) :: .ref (ad 10) :: rest)) := by
  obtain ⟨hx, hb, hg, hown, hK⟩ := C
  refine va_cald (D := D) hx hb hK hW.1 10 1 rfl rfl (vp_in_nI hi (by decide)) hdg ?_
  rw [nI_clamp (by omega)]
  exact k
theorem md_geta_begins0 (C : MdX p c cc s args m D aT) (hW : MdB D aT ad S A H0 H locs) (hdg : decode cc pc = .ok (.getfield 48, 3)) (k : W p l e R s m args below meth c H locs cells slots Q (F0 m (pc + 3) ls (.ref (ad 11) :: rest))) : W p l e R s m args below meth c H locs cells slots Q (F0 m pc ls (.ref (ad 0) :: rest)) := by
  obtain ⟨hx, hb, hg, hown, hK⟩ := C
  exact va_get (D := D) (ci := 13) (v := .ref (ad 11)) (C := RX10) (T := TX10) (N := 26) hx hb hg inX10 hown hK hW.1 0 rfl rfl 18 (by decide) (hg _ gw_1641) (fun _ h9 => h9) rfl hdg k
theorem md_ald_begins0 (C : MdX p c cc s args m D aT) (hW : MdB D aT ad S A H0 H locs) {i : Nat} (hi : i < 8) (hdg : decode cc pc = .ok (.iaload, 1)) (k : W p l e R s m args below meth c H locs cells slots Q (F0 m (pc + 1) ls (.int (S 10 i) :: rest))) : W p l e R s m args below meth c H locs cells slots Q (F0 m pc ls (.int (nI i) :: .ref (ad 11) :: rest)) := by
  obtain ⟨hx, hb, hg, hown, hK⟩ := C
  refine va_iald (D := D) hx hb hK hW.1 11 0 rfl rfl (vp_in_nI hi (by decide)) hdg ?_
  rw [nI_clamp (by omega)]
  exact k
theorem md_geta_commands (C : MdX p c cc s args m D aT) (hW : MdB D aT ad S A H0 H locs) (hdg : decode cc pc = .ok (.getfield 51, 3)) (k : W p l e R s m args below meth c H locs cells slots Q (F0 m (pc + 3) ls (.ref (ad 12) :: rest))) : W p l e R s m args below meth c H locs cells slots Q (F0 m pc ls (.ref (ad 0) :: rest)) := by
  obtain ⟨hx, hb, hg, hown, hK⟩ := C
  exact va_get (D := D) (ci := 13) (v := .ref (ad 12)) (C := RX10) (T := TX10) (N := 26) hx hb hg inX10 hown hK hW.1 0 rfl rfl 19 (by decide) (hg _ gw_1642) (fun _ h9 => h9) rfl hdg k
theorem md_ald_commands (C : MdX p c cc s args m D aT) (hW : MdB D aT ad S A H0 H locs) {i : Nat} (hi : i < 244) (hdg : decode cc pc = .ok (.iaload, 1)) (k : W p l e R s m args below meth c H locs cells slots Q (F0 m (pc + 1) ls (.int (S 11 i) :: rest))) : W p l e R s m args below meth c H locs cells slots Q (F0 m pc ls (.int (nI i) :: .ref (ad 12) :: rest)) := by
  obtain ⟨hx, hb, hg, hown, hK⟩ := C
  refine va_iald (D := D) hx hb hK hW.1 12 0 rfl rfl (vp_in_nI hi (by decide)) hdg ?_
  rw [nI_clamp (by omega)]
  exact k
theorem md_ast_commands (C : MdX p c cc s args m D aT) (hW : MdB D aT ad S A H0 H locs) {i : Nat} {x : Int32} (hi : i < 244) (hdg : decode cc pc = .ok (.iastore, 1)) (k : ∀ (H1 : Heap) (locs1 : List Loc), MdB D aT ad (sr S 11 (upd (S 11) i x)) A H0 H1 locs1 → W p l e R s m args below meth c H1 locs1 cells slots Q (F0 m (pc + 1) ls rest)) : W p l e R s m args below meth c H locs cells slots Q (F0 m pc ls (.int x :: .int (nI i) :: .ref (ad 12) :: rest)) := by
  obtain ⟨hx, hb, hg, hown, hK⟩ := C
  refine va_iast (D := D) hx hb hK hW.1 hW.2.1 hW.2.2 12 0 rfl rfl (vp_in_nI hi (by decide)) hdg (fun H1 locs1 h1 h2 h3 => ?_)
  rw [nI_clamp (by omega)] at h1
  exact k H1 locs1 ⟨h1, mdW_D hW.2.1, h3⟩
theorem md_geta_line (C : MdX p c cc s args m D aT) (hW : MdB D aT ad S A H0 H locs) (hdg : decode cc pc = .ok (.getfield 54, 3)) (k : W p l e R s m args below meth c H locs cells slots Q (F0 m (pc + 3) ls (.ref (ad 13) :: rest))) : W p l e R s m args below meth c H locs cells slots Q (F0 m pc ls (.ref (ad 0) :: rest)) := by
  obtain ⟨hx, hb, hg, hown, hK⟩ := C
  exact va_get (D := D) (ci := 13) (v := .ref (ad 13)) (C := RX10) (T := TX10) (N := 26) hx hb hg inX10 hown hK hW.1 0 rfl rfl 24 (by decide) (hg _ gw_1647) (fun _ h9 => h9) rfl hdg k
theorem md_ald_line (C : MdX p c cc s args m D aT) (hW : MdB D aT ad S A H0 H locs) {i : Nat} (hi : i < 400) (hdg : decode cc pc = .ok (.iaload, 1)) (k : W p l e R s m args below meth c H locs cells slots Q (F0 m (pc + 1) ls (.int (S 12 i) :: rest))) : W p l e R s m args below meth c H locs cells slots Q (F0 m pc ls (.int (nI i) :: .ref (ad 13) :: rest)) := by
  obtain ⟨hx, hb, hg, hown, hK⟩ := C
  refine va_iald (D := D) hx hb hK hW.1 13 0 rfl rfl (vp_in_nI hi (by decide)) hdg ?_
  rw [nI_clamp (by omega)]
  exact k
theorem md_ast_line (C : MdX p c cc s args m D aT) (hW : MdB D aT ad S A H0 H locs) {i : Nat} {x : Int32} (hi : i < 400) (hdg : decode cc pc = .ok (.iastore, 1)) (k : ∀ (H1 : Heap) (locs1 : List Loc), MdB D aT ad (sr S 12 (upd (S 12) i x)) A H0 H1 locs1 → W p l e R s m args below meth c H1 locs1 cells slots Q (F0 m (pc + 1) ls rest)) : W p l e R s m args below meth c H locs cells slots Q (F0 m pc ls (.int x :: .int (nI i) :: .ref (ad 13) :: rest)) := by
  obtain ⟨hx, hb, hg, hown, hK⟩ := C
  refine va_iast (D := D) hx hb hK hW.1 hW.2.1 hW.2.2 13 0 rfl rfl (vp_in_nI hi (by decide)) hdg (fun H1 locs1 h1 h2 h3 => ?_)
  rw [nI_clamp (by omega)] at h1
  exact k H1 locs1 ⟨h1, mdW_D hW.2.1, h3⟩
theorem md_get_isSaved (C : MdX p c cc s args m D aT) (hW : MdB D aT ad S A H0 H locs) (hdg : decode cc pc = .ok (.getfield 273, 3)) (k : W p l e R s m args below meth c H locs cells slots Q (F0 m (pc + 3) ls (.int (S 13 3) :: rest))) : W p l e R s m args below meth c H locs cells slots Q (F0 m pc ls (.ref (ad 0) :: rest)) := by
  obtain ⟨hx, hb, hg, hown, hK⟩ := C
  exact va_get (D := D) (ci := 13) (v := .int (S 13 3)) (C := RX10) (T := TX10) (N := 26) hx hb hg inX10 hown hK hW.1 0 rfl rfl 3 (by decide) (hg _ gw_1626) (fun _ h9 => h9) rfl hdg k
theorem md_put_isSaved (C : MdX p c cc s args m D aT) (hW : MdB D aT ad S A H0 H locs) {x : Int32} (hz : narrow .boolean (.int x) = .int x) (hf : fits .boolean (.int x) = true) (hdg : decode cc pc = .ok (.putfield 273, 3)) (k : ∀ (H1 : Heap) (locs1 : List Loc), MdB D aT ad (ss S 3 x) A H0 H1 locs1 → W p l e R s m args below meth c H1 locs1 cells slots Q (F0 m (pc + 3) ls rest)) : W p l e R s m args below meth c H locs cells slots Q (F0 m pc ls (.int x :: .ref (ad 0) :: rest)) := by
  obtain ⟨hx, hb, hg, hown, hK⟩ := C
  refine va_put (D := D) (ci := 13) (v := .int x) (ty := .boolean) (C := RX10) (T := TX10) (N := 26) hx hb hg inX10 tyX10 tyX10_ok nmX10 hown hK hW.1 hW.2.1 hW.2.2 0 rfl rfl 3 (by decide) (hg _ gw_1626) (fun _ h9 => h9) rfl (by decide +kernel) hz hf (Nat.le_of_ble_eq_true rfl) hdg (fun H1 locs1 h1 h2 h3 => ?_)
  exact k H1 locs1 ⟨h1, mdW_D hW.2.1, h3⟩
theorem md_get_changes (C : MdX p c cc s args m D aT) (hW : MdB D aT ad S A H0 H locs) (hdg : decode cc pc = .ok (.getfield 60, 3)) (k : W p l e R s m args below meth c H locs cells slots Q (F0 m (pc + 3) ls (.int (S 13 5) :: rest))) : W p l e R s m args below meth c H locs cells slots Q (F0 m pc ls (.ref (ad 0) :: rest)) := by
  obtain ⟨hx, hb, hg, hown, hK⟩ := C
  exact va_get (D := D) (ci := 13) (v := .int (S 13 5)) (C := RX10) (T := TX10) (N := 26) hx hb hg inX10 hown hK hW.1 0 rfl rfl 5 (by decide) (hg _ gw_1628) (fun _ h9 => h9) rfl hdg k
theorem md_put_changes (C : MdX p c cc s args m D aT) (hW : MdB D aT ad S A H0 H locs) {x : Int32} (hdg : decode cc pc = .ok (.putfield 60, 3)) (k : ∀ (H1 : Heap) (locs1 : List Loc), MdB D aT ad (ss S 5 x) A H0 H1 locs1 → W p l e R s m args below meth c H1 locs1 cells slots Q (F0 m (pc + 3) ls rest)) : W p l e R s m args below meth c H locs cells slots Q (F0 m pc ls (.int x :: .ref (ad 0) :: rest)) := by
  obtain ⟨hx, hb, hg, hown, hK⟩ := C
  refine va_put (D := D) (ci := 13) (v := .int x) (ty := .int) (C := RX10) (T := TX10) (N := 26) hx hb hg inX10 tyX10 tyX10_ok nmX10 hown hK hW.1 hW.2.1 hW.2.2 0 rfl rfl 5 (by decide) (hg _ gw_1628) (fun _ h9 => h9) rfl (by decide +kernel) rfl rfl (Nat.le_of_ble_eq_true rfl) hdg (fun H1 locs1 h1 h2 h3 => ?_)
  exact k H1 locs1 ⟨h1, mdW_D hW.2.1, h3⟩
theorem md_get_errorAt (C : MdX p c cc s args m D aT) (hW : MdB D aT ad S A H0 H locs) (hdg : decode cc pc = .ok (.getfield 22, 3)) (k : W p l e R s m args below meth c H locs cells slots Q (F0 m (pc + 3) ls (.int (S 13 6) :: rest))) : W p l e R s m args below meth c H locs cells slots Q (F0 m pc ls (.ref (ad 0) :: rest)) := by
  obtain ⟨hx, hb, hg, hown, hK⟩ := C
  exact va_get (D := D) (ci := 13) (v := .int (S 13 6)) (C := RX10) (T := TX10) (N := 26) hx hb hg inX10 hown hK hW.1 0 rfl rfl 6 (by decide) (hg _ gw_1629) (fun _ h9 => h9) rfl hdg k
theorem md_put_errorAt (C : MdX p c cc s args m D aT) (hW : MdB D aT ad S A H0 H locs) {x : Int32} (hdg : decode cc pc = .ok (.putfield 22, 3)) (k : ∀ (H1 : Heap) (locs1 : List Loc), MdB D aT ad (ss S 6 x) A H0 H1 locs1 → W p l e R s m args below meth c H1 locs1 cells slots Q (F0 m (pc + 3) ls rest)) : W p l e R s m args below meth c H locs cells slots Q (F0 m pc ls (.int x :: .ref (ad 0) :: rest)) := by
  obtain ⟨hx, hb, hg, hown, hK⟩ := C
  refine va_put (D := D) (ci := 13) (v := .int x) (ty := .int) (C := RX10) (T := TX10) (N := 26) hx hb hg inX10 tyX10 tyX10_ok nmX10 hown hK hW.1 hW.2.1 hW.2.2 0 rfl rfl 6 (by decide) (hg _ gw_1629) (fun _ h9 => h9) rfl (by decide +kernel) rfl rfl (Nat.le_of_ble_eq_true rfl) hdg (fun H1 locs1 h1 h2 h3 => ?_)
  exact k H1 locs1 ⟨h1, mdW_D hW.2.1, h3⟩
theorem md_get_failed (C : MdX p c cc s args m D aT) (hW : MdB D aT ad S A H0 H locs) (hdg : decode cc pc = .ok (.getfield 26, 3)) (k : W p l e R s m args below meth c H locs cells slots Q (F0 m (pc + 3) ls (.int (S 13 7) :: rest))) : W p l e R s m args below meth c H locs cells slots Q (F0 m pc ls (.ref (ad 0) :: rest)) := by
  obtain ⟨hx, hb, hg, hown, hK⟩ := C
  exact va_get (D := D) (ci := 13) (v := .int (S 13 7)) (C := RX10) (T := TX10) (N := 26) hx hb hg inX10 hown hK hW.1 0 rfl rfl 7 (by decide) (hg _ gw_1630) (fun _ h9 => h9) rfl hdg k
theorem md_put_failed (C : MdX p c cc s args m D aT) (hW : MdB D aT ad S A H0 H locs) {x : Int32} (hdg : decode cc pc = .ok (.putfield 26, 3)) (k : ∀ (H1 : Heap) (locs1 : List Loc), MdB D aT ad (ss S 7 x) A H0 H1 locs1 → W p l e R s m args below meth c H1 locs1 cells slots Q (F0 m (pc + 3) ls rest)) : W p l e R s m args below meth c H locs cells slots Q (F0 m pc ls (.int x :: .ref (ad 0) :: rest)) := by
  obtain ⟨hx, hb, hg, hown, hK⟩ := C
  refine va_put (D := D) (ci := 13) (v := .int x) (ty := .int) (C := RX10) (T := TX10) (N := 26) hx hb hg inX10 tyX10 tyX10_ok nmX10 hown hK hW.1 hW.2.1 hW.2.2 0 rfl rfl 7 (by decide) (hg _ gw_1630) (fun _ h9 => h9) rfl (by decide +kernel) rfl rfl (Nat.le_of_ble_eq_true rfl) hdg (fun H1 locs1 h1 h2 h3 => ?_)
  exact k H1 locs1 ⟨h1, mdW_D hW.2.1, h3⟩
theorem md_get_thrown (C : MdX p c cc s args m D aT) (hW : MdB D aT ad S A H0 H locs) (hdg : decode cc pc = .ok (.getfield 57, 3)) (k : W p l e R s m args below meth c H locs cells slots Q (F0 m (pc + 3) ls (.int (S 13 8) :: rest))) : W p l e R s m args below meth c H locs cells slots Q (F0 m pc ls (.ref (ad 0) :: rest)) := by
  obtain ⟨hx, hb, hg, hown, hK⟩ := C
  exact va_get (D := D) (ci := 13) (v := .int (S 13 8)) (C := RX10) (T := TX10) (N := 26) hx hb hg inX10 hown hK hW.1 0 rfl rfl 8 (by decide) (hg _ gw_1631) (fun _ h9 => h9) rfl hdg k
theorem md_put_thrown (C : MdX p c cc s args m D aT) (hW : MdB D aT ad S A H0 H locs) {x : Int32} (hdg : decode cc pc = .ok (.putfield 57, 3)) (k : ∀ (H1 : Heap) (locs1 : List Loc), MdB D aT ad (ss S 8 x) A H0 H1 locs1 → W p l e R s m args below meth c H1 locs1 cells slots Q (F0 m (pc + 3) ls rest)) : W p l e R s m args below meth c H locs cells slots Q (F0 m pc ls (.int x :: .ref (ad 0) :: rest)) := by
  obtain ⟨hx, hb, hg, hown, hK⟩ := C
  refine va_put (D := D) (ci := 13) (v := .int x) (ty := .int) (C := RX10) (T := TX10) (N := 26) hx hb hg inX10 tyX10 tyX10_ok nmX10 hown hK hW.1 hW.2.1 hW.2.2 0 rfl rfl 8 (by decide) (hg _ gw_1631) (fun _ h9 => h9) rfl (by decide +kernel) rfl rfl (Nat.le_of_ble_eq_true rfl) hdg (fun H1 locs1 h1 h2 h3 => ?_)
  exact k H1 locs1 ⟨h1, mdW_D hW.2.1, h3⟩
theorem md_get_inputMany (C : MdX p c cc s args m D aT) (hW : MdB D aT ad S A H0 H locs) (hdg : decode cc pc = .ok (.getfield 207, 3)) (k : W p l e R s m args below meth c H locs cells slots Q (F0 m (pc + 3) ls (.int (S 13 10) :: rest))) : W p l e R s m args below meth c H locs cells slots Q (F0 m pc ls (.ref (ad 0) :: rest)) := by
  obtain ⟨hx, hb, hg, hown, hK⟩ := C
  exact va_get (D := D) (ci := 13) (v := .int (S 13 10)) (C := RX10) (T := TX10) (N := 26) hx hb hg inX10 hown hK hW.1 0 rfl rfl 10 (by decide) (hg _ gw_1633) (fun _ h9 => h9) rfl hdg k
theorem md_put_inputMany (C : MdX p c cc s args m D aT) (hW : MdB D aT ad S A H0 H locs) {x : Int32} (hdg : decode cc pc = .ok (.putfield 207, 3)) (k : ∀ (H1 : Heap) (locs1 : List Loc), MdB D aT ad (ss S 10 x) A H0 H1 locs1 → W p l e R s m args below meth c H1 locs1 cells slots Q (F0 m (pc + 3) ls rest)) : W p l e R s m args below meth c H locs cells slots Q (F0 m pc ls (.int x :: .ref (ad 0) :: rest)) := by
  obtain ⟨hx, hb, hg, hown, hK⟩ := C
  refine va_put (D := D) (ci := 13) (v := .int x) (ty := .int) (C := RX10) (T := TX10) (N := 26) hx hb hg inX10 tyX10 tyX10_ok nmX10 hown hK hW.1 hW.2.1 hW.2.2 0 rfl rfl 10 (by decide) (hg _ gw_1633) (fun _ h9 => h9) rfl (by decide +kernel) rfl rfl (Nat.le_of_ble_eq_true rfl) hdg (fun H1 locs1 h1 h2 h3 => ?_)
  exact k H1 locs1 ⟨h1, mdW_D hW.2.1, h3⟩
theorem md_get_worthAll (C : MdX p c cc s args m D aT) (hW : MdB D aT ad S A H0 H locs) (hdg : decode cc pc = .ok (.getfield 190, 3)) (k : W p l e R s m args below meth c H locs cells slots Q (F0 m (pc + 3) ls (.int (S 13 15) :: rest))) : W p l e R s m args below meth c H locs cells slots Q (F0 m pc ls (.ref (ad 0) :: rest)) := by
  obtain ⟨hx, hb, hg, hown, hK⟩ := C
  exact va_get (D := D) (ci := 13) (v := .int (S 13 15)) (C := RX10) (T := TX10) (N := 26) hx hb hg inX10 hown hK hW.1 0 rfl rfl 15 (by decide) (hg _ gw_1638) (fun _ h9 => h9) rfl hdg k
theorem md_put_worthAll (C : MdX p c cc s args m D aT) (hW : MdB D aT ad S A H0 H locs) {x : Int32} (hdg : decode cc pc = .ok (.putfield 190, 3)) (k : ∀ (H1 : Heap) (locs1 : List Loc), MdB D aT ad (ss S 15 x) A H0 H1 locs1 → W p l e R s m args below meth c H1 locs1 cells slots Q (F0 m (pc + 3) ls rest)) : W p l e R s m args below meth c H locs cells slots Q (F0 m pc ls (.int x :: .ref (ad 0) :: rest)) := by
  obtain ⟨hx, hb, hg, hown, hK⟩ := C
  refine va_put (D := D) (ci := 13) (v := .int x) (ty := .int) (C := RX10) (T := TX10) (N := 26) hx hb hg inX10 tyX10 tyX10_ok nmX10 hown hK hW.1 hW.2.1 hW.2.2 0 rfl rfl 15 (by decide) (hg _ gw_1638) (fun _ h9 => h9) rfl (by decide +kernel) rfl rfl (Nat.le_of_ble_eq_true rfl) hdg (fun H1 locs1 h1 h2 h3 => ?_)
  exact k H1 locs1 ⟨h1, mdW_D hW.2.1, h3⟩
theorem md_get_setsAll (C : MdX p c cc s args m D aT) (hW : MdB D aT ad S A H0 H locs) (hdg : decode cc pc = .ok (.getfield 193, 3)) (k : W p l e R s m args below meth c H locs cells slots Q (F0 m (pc + 3) ls (.int (S 13 16) :: rest))) : W p l e R s m args below meth c H locs cells slots Q (F0 m pc ls (.ref (ad 0) :: rest)) := by
  obtain ⟨hx, hb, hg, hown, hK⟩ := C
  exact va_get (D := D) (ci := 13) (v := .int (S 13 16)) (C := RX10) (T := TX10) (N := 26) hx hb hg inX10 hown hK hW.1 0 rfl rfl 16 (by decide) (hg _ gw_1639) (fun _ h9 => h9) rfl hdg k
theorem md_put_setsAll (C : MdX p c cc s args m D aT) (hW : MdB D aT ad S A H0 H locs) {x : Int32} (hdg : decode cc pc = .ok (.putfield 193, 3)) (k : ∀ (H1 : Heap) (locs1 : List Loc), MdB D aT ad (ss S 16 x) A H0 H1 locs1 → W p l e R s m args below meth c H1 locs1 cells slots Q (F0 m (pc + 3) ls rest)) : W p l e R s m args below meth c H locs cells slots Q (F0 m pc ls (.int x :: .ref (ad 0) :: rest)) := by
  obtain ⟨hx, hb, hg, hown, hK⟩ := C
  refine va_put (D := D) (ci := 13) (v := .int x) (ty := .int) (C := RX10) (T := TX10) (N := 26) hx hb hg inX10 tyX10 tyX10_ok nmX10 hown hK hW.1 hW.2.1 hW.2.2 0 rfl rfl 16 (by decide) (hg _ gw_1639) (fun _ h9 => h9) rfl (by decide +kernel) rfl rfl (Nat.le_of_ble_eq_true rfl) hdg (fun H1 locs1 h1 h2 h3 => ?_)
  exact k H1 locs1 ⟨h1, mdW_D hW.2.1, h3⟩
theorem md_get_commandMany (C : MdX p c cc s args m D aT) (hW : MdB D aT ad S A H0 H locs) (hdg : decode cc pc = .ok (.getfield 242, 3)) (k : W p l e R s m args below meth c H locs cells slots Q (F0 m (pc + 3) ls (.int (S 13 20) :: rest))) : W p l e R s m args below meth c H locs cells slots Q (F0 m pc ls (.ref (ad 0) :: rest)) := by
  obtain ⟨hx, hb, hg, hown, hK⟩ := C
  exact va_get (D := D) (ci := 13) (v := .int (S 13 20)) (C := RX10) (T := TX10) (N := 26) hx hb hg inX10 hown hK hW.1 0 rfl rfl 20 (by decide) (hg _ gw_1643) (fun _ h9 => h9) rfl hdg k
theorem md_put_commandMany (C : MdX p c cc s args m D aT) (hW : MdB D aT ad S A H0 H locs) {x : Int32} (hdg : decode cc pc = .ok (.putfield 242, 3)) (k : ∀ (H1 : Heap) (locs1 : List Loc), MdB D aT ad (ss S 20 x) A H0 H1 locs1 → W p l e R s m args below meth c H1 locs1 cells slots Q (F0 m (pc + 3) ls rest)) : W p l e R s m args below meth c H locs cells slots Q (F0 m pc ls (.int x :: .ref (ad 0) :: rest)) := by
  obtain ⟨hx, hb, hg, hown, hK⟩ := C
  refine va_put (D := D) (ci := 13) (v := .int x) (ty := .int) (C := RX10) (T := TX10) (N := 26) hx hb hg inX10 tyX10 tyX10_ok nmX10 hown hK hW.1 hW.2.1 hW.2.2 0 rfl rfl 20 (by decide) (hg _ gw_1643) (fun _ h9 => h9) rfl (by decide +kernel) rfl rfl (Nat.le_of_ble_eq_true rfl) hdg (fun H1 locs1 h1 h2 h3 => ?_)
  exact k H1 locs1 ⟨h1, mdW_D hW.2.1, h3⟩
theorem md_get_place0 (C : MdX p c cc s args m D aT) (hW : MdB D aT ad S A H0 H locs) (hdg : decode cc pc = .ok (.getfield 210, 3)) (k : W p l e R s m args below meth c H locs cells slots Q (F0 m (pc + 3) ls (.int (S 13 21) :: rest))) : W p l e R s m args below meth c H locs cells slots Q (F0 m pc ls (.ref (ad 0) :: rest)) := by
  obtain ⟨hx, hb, hg, hown, hK⟩ := C
  exact va_get (D := D) (ci := 13) (v := .int (S 13 21)) (C := RX10) (T := TX10) (N := 26) hx hb hg inX10 hown hK hW.1 0 rfl rfl 21 (by decide) (hg _ gw_1644) (fun _ h9 => h9) rfl hdg k
theorem md_put_place0 (C : MdX p c cc s args m D aT) (hW : MdB D aT ad S A H0 H locs) {x : Int32} (hdg : decode cc pc = .ok (.putfield 210, 3)) (k : ∀ (H1 : Heap) (locs1 : List Loc), MdB D aT ad (ss S 21 x) A H0 H1 locs1 → W p l e R s m args below meth c H1 locs1 cells slots Q (F0 m (pc + 3) ls rest)) : W p l e R s m args below meth c H locs cells slots Q (F0 m pc ls (.int x :: .ref (ad 0) :: rest)) := by
  obtain ⟨hx, hb, hg, hown, hK⟩ := C
  refine va_put (D := D) (ci := 13) (v := .int x) (ty := .int) (C := RX10) (T := TX10) (N := 26) hx hb hg inX10 tyX10 tyX10_ok nmX10 hown hK hW.1 hW.2.1 hW.2.2 0 rfl rfl 21 (by decide) (hg _ gw_1644) (fun _ h9 => h9) rfl (by decide +kernel) rfl rfl (Nat.le_of_ble_eq_true rfl) hdg (fun H1 locs1 h1 h2 h3 => ?_)
  exact k H1 locs1 ⟨h1, mdW_D hW.2.1, h3⟩
theorem md_get_size0 (C : MdX p c cc s args m D aT) (hW : MdB D aT ad S A H0 H locs) (hdg : decode cc pc = .ok (.getfield 213, 3)) (k : W p l e R s m args below meth c H locs cells slots Q (F0 m (pc + 3) ls (.int (S 13 22) :: rest))) : W p l e R s m args below meth c H locs cells slots Q (F0 m pc ls (.ref (ad 0) :: rest)) := by
  obtain ⟨hx, hb, hg, hown, hK⟩ := C
  exact va_get (D := D) (ci := 13) (v := .int (S 13 22)) (C := RX10) (T := TX10) (N := 26) hx hb hg inX10 hown hK hW.1 0 rfl rfl 22 (by decide) (hg _ gw_1645) (fun _ h9 => h9) rfl hdg k
theorem md_put_size0 (C : MdX p c cc s args m D aT) (hW : MdB D aT ad S A H0 H locs) {x : Int32} (hdg : decode cc pc = .ok (.putfield 213, 3)) (k : ∀ (H1 : Heap) (locs1 : List Loc), MdB D aT ad (ss S 22 x) A H0 H1 locs1 → W p l e R s m args below meth c H1 locs1 cells slots Q (F0 m (pc + 3) ls rest)) : W p l e R s m args below meth c H locs cells slots Q (F0 m pc ls (.int x :: .ref (ad 0) :: rest)) := by
  obtain ⟨hx, hb, hg, hown, hK⟩ := C
  refine va_put (D := D) (ci := 13) (v := .int x) (ty := .int) (C := RX10) (T := TX10) (N := 26) hx hb hg inX10 tyX10 tyX10_ok nmX10 hown hK hW.1 hW.2.1 hW.2.2 0 rfl rfl 22 (by decide) (hg _ gw_1645) (fun _ h9 => h9) rfl (by decide +kernel) rfl rfl (Nat.le_of_ble_eq_true rfl) hdg (fun H1 locs1 h1 h2 h3 => ?_)
  exact k H1 locs1 ⟨h1, mdW_D hW.2.1, h3⟩
theorem md_get_isWrong (C : MdX p c cc s args m D aT) (hW : MdB D aT ad S A H0 H locs) (hdg : decode cc pc = .ok (.getfield 216, 3)) (k : W p l e R s m args below meth c H locs cells slots Q (F0 m (pc + 3) ls (.int (S 13 23) :: rest))) : W p l e R s m args below meth c H locs cells slots Q (F0 m pc ls (.ref (ad 0) :: rest)) := by
  obtain ⟨hx, hb, hg, hown, hK⟩ := C
  exact va_get (D := D) (ci := 13) (v := .int (S 13 23)) (C := RX10) (T := TX10) (N := 26) hx hb hg inX10 hown hK hW.1 0 rfl rfl 23 (by decide) (hg _ gw_1646) (fun _ h9 => h9) rfl hdg k
theorem md_put_isWrong (C : MdX p c cc s args m D aT) (hW : MdB D aT ad S A H0 H locs) {x : Int32} (hz : narrow .boolean (.int x) = .int x) (hf : fits .boolean (.int x) = true) (hdg : decode cc pc = .ok (.putfield 216, 3)) (k : ∀ (H1 : Heap) (locs1 : List Loc), MdB D aT ad (ss S 23 x) A H0 H1 locs1 → W p l e R s m args below meth c H1 locs1 cells slots Q (F0 m (pc + 3) ls rest)) : W p l e R s m args below meth c H locs cells slots Q (F0 m pc ls (.int x :: .ref (ad 0) :: rest)) := by
  obtain ⟨hx, hb, hg, hown, hK⟩ := C
  refine va_put (D := D) (ci := 13) (v := .int x) (ty := .boolean) (C := RX10) (T := TX10) (N := 26) hx hb hg inX10 tyX10 tyX10_ok nmX10 hown hK hW.1 hW.2.1 hW.2.2 0 rfl rfl 23 (by decide) (hg _ gw_1646) (fun _ h9 => h9) rfl (by decide +kernel) hz hf (Nat.le_of_ble_eq_true rfl) hdg (fun H1 locs1 h1 h2 h3 => ?_)
  exact k H1 locs1 ⟨h1, mdW_D hW.2.1, h3⟩
theorem md_get_lineMany (C : MdX p c cc s args m D aT) (hW : MdB D aT ad S A H0 H locs) (hdg : decode cc pc = .ok (.getfield 258, 3)) (k : W p l e R s m args below meth c H locs cells slots Q (F0 m (pc + 3) ls (.int (S 13 25) :: rest))) : W p l e R s m args below meth c H locs cells slots Q (F0 m pc ls (.ref (ad 0) :: rest)) := by
  obtain ⟨hx, hb, hg, hown, hK⟩ := C
  exact va_get (D := D) (ci := 13) (v := .int (S 13 25)) (C := RX10) (T := TX10) (N := 26) hx hb hg inX10 hown hK hW.1 0 rfl rfl 25 (by decide) (hg _ gw_1648) (fun _ h9 => h9) rfl hdg k
theorem md_put_lineMany (C : MdX p c cc s args m D aT) (hW : MdB D aT ad S A H0 H locs) {x : Int32} (hdg : decode cc pc = .ok (.putfield 258, 3)) (k : ∀ (H1 : Heap) (locs1 : List Loc), MdB D aT ad (ss S 25 x) A H0 H1 locs1 → W p l e R s m args below meth c H1 locs1 cells slots Q (F0 m (pc + 3) ls rest)) : W p l e R s m args below meth c H locs cells slots Q (F0 m pc ls (.int x :: .ref (ad 0) :: rest)) := by
  obtain ⟨hx, hb, hg, hown, hK⟩ := C
  refine va_put (D := D) (ci := 13) (v := .int x) (ty := .int) (C := RX10) (T := TX10) (N := 26) hx hb hg inX10 tyX10 tyX10_ok nmX10 hown hK hW.1 hW.2.1 hW.2.2 0 rfl rfl 25 (by decide) (hg _ gw_1648) (fun _ h9 => h9) rfl (by decide +kernel) rfl rfl (Nat.le_of_ble_eq_true rfl) hdg (fun H1 locs1 h1 h2 h3 => ?_)
  exact k H1 locs1 ⟨h1, mdW_D hW.2.1, h3⟩
end MDR
end
section
section W3
variable {p : Program} {l : Launch} {e : Env} {R : Room} {s : State} {m : MethodId} {args : Array Value} {below : List Frame} {meth : Method} {c : Code} {H : Heap} {locs : List Loc} {cells slots : Nat} {Q : State → Prop} {cc : ByteArray} {pc : Nat} {ls : Array Slot} {rest : List Value}
/-- a loop that writes nothing: a measure that falls -/
theorem W_loopR {σ : Type} (μ : σ → Nat) (G : σ → JFrame → Prop) (body : ∀ x g, G x g → (∀ y g', μ y < μ x → G y g' → W p l e R s m args below meth c H locs cells slots Q g') → W p l e R s m args below meth c H locs cells slots Q g) (x : σ) (g : JFrame) (h : G x g) : W p l e R s m args below meth c H locs cells slots Q g := by
  have key : ∀ n x g, μ x < n → G x g → W p l e R s m args below meth c H locs cells slots Q g := by
    intro n
    induction n with
    | zero => intro x g hx; exact absurd hx (Nat.not_lt_zero _)
    | succ n ih => intro x g hx hg; exact body x g hg (fun y g' hy hg' => ih y g' (by omega) hg')
  exact key _ x g (Nat.lt_succ_self _) h
/-- a loop that writes -/
theorem W_loopH {σ : Type} (μ : σ → Nat) (G : σ → Heap → List Loc → JFrame → Prop) (body : ∀ x H locs g, G x H locs g → (∀ y H' locs' g', μ y < μ x → G y H' locs' g' → W p l e R s m args below meth c H' locs' cells slots Q g') → W p l e R s m args below meth c H locs cells slots Q g) (x : σ) (g : JFrame) (h : G x H locs g) : W p l e R s m args below meth c H locs cells slots Q g := by
  have key : ∀ n x H locs g, μ x < n → G x H locs g → W p l e R s m args below meth c H locs cells slots Q g := by
    intro n
    induction n with
    | zero => intro x H locs g hx; exact absurd hx (Nat.not_lt_zero _)
    | succ n ih => intro x H locs g hx hg; exact body x H locs g hg (fun y H' locs' g' hy hg' => ih y H' locs' g' (by omega) hg')
  exact key _ x H locs g (Nat.lt_succ_self _) h
theorem r_iaddN (hx : p.tables.exec = Jvm.exec) (hb : c.code = cc) {a b : Nat} (hdg : decode cc pc = .ok (.iadd, 1)) (k : W p l e R s m args below meth c H locs cells slots Q (F0 m (pc + 1) ls (.int (nI (a + b)) :: rest))) : W p l e R s m args below meth c H locs cells slots Q (F0 m pc ls (.int (nI b) :: .int (nI a) :: rest)) := lv_iadd hx hb hdg (by rw [nI_add]; exact k)
theorem r_isubN (hx : p.tables.exec = Jvm.exec) (hb : c.code = cc) {a b : Nat} (h : b ≤ a) (hdg : decode cc pc = .ok (.isub, 1)) (k : W p l e R s m args below meth c H locs cells slots Q (F0 m (pc + 1) ls (.int (nI (a - b)) :: rest))) : W p l e R s m args below meth c H locs cells slots Q (F0 m pc ls (.int (nI b) :: .int (nI a) :: rest)) := lv_isub hx hb hdg (by rw [pk_sub h]; exact k)
theorem r_imulN (hx : p.tables.exec = Jvm.exec) (hb : c.code = cc) {a b : Nat} (hdg : decode cc pc = .ok (.imul, 1)) (k : W p l e R s m args below meth c H locs cells slots Q (F0 m (pc + 1) ls (.int (nI (a * b)) :: rest))) : W p l e R s m args below meth c H locs cells slots Q (F0 m pc ls (.int (nI b) :: .int (nI a) :: rest)) := lv_imul hx hb hdg (by rw [pk_mul]; exact k)
theorem r_eq {x y : Int32} (h : x = y) (k : W p l e R s m args below meth c H locs cells slots Q (F0 m pc ls (.int y :: rest))) : W p l e R s m args below meth c H locs cells slots Q (F0 m pc ls (.int x :: rest)) := by rw [h]; exact k
theorem r_ltN (hx : p.tables.exec = Jvm.exec) (hb : c.code = cc) {a b : Nat} (ha : a < 2 ^ 31) (hb' : b < 2 ^ 31) {off : Int} {tgt : Nat} (hdg : decode cc pc = .ok (.if_icmp .lt off, 3)) (ht : (pc : Int) + off = (tgt : Int)) (kt : a < b → W p l e R s m args below meth c H locs cells slots Q (F0 m tgt ls rest)) (kf : b ≤ a → W p l e R s m args below meth c H locs cells slots Q (F0 m (pc + 3) ls rest)) : W p l e R s m args below meth c H locs cells slots Q (F0 m pc ls (.int (nI b) :: .int (nI a) :: rest)) :=
  lv_icmp_lt hx hb hdg ht (fun h => kt ((nI_ltI ha hb').mp h)) (fun h => kf (Nat.not_lt.mp (fun q => h ((nI_ltI ha hb').mpr q))))
theorem r_geN (hx : p.tables.exec = Jvm.exec) (hb : c.code = cc) {a b : Nat} (ha : a < 2 ^ 31) (hb' : b < 2 ^ 31) {off : Int} {tgt : Nat} (hdg : decode cc pc = .ok (.if_icmp .ge off, 3)) (ht : (pc : Int) + off = (tgt : Int)) (kt : b ≤ a → W p l e R s m args below meth c H locs cells slots Q (F0 m tgt ls rest)) (kf : a < b → W p l e R s m args below meth c H locs cells slots Q (F0 m (pc + 3) ls rest)) : W p l e R s m args below meth c H locs cells slots Q (F0 m pc ls (.int (nI b) :: .int (nI a) :: rest)) :=
  lv_icmp_ge hx hb hdg ht (fun h => kt ((nI_leI hb' ha).mp h)) (fun h => kf (Nat.not_le.mp (fun q => h ((nI_leI hb' ha).mpr q))))
theorem r_gtN (hx : p.tables.exec = Jvm.exec) (hb : c.code = cc) {a b : Nat} (ha : a < 2 ^ 31) (hb' : b < 2 ^ 31) {off : Int} {tgt : Nat} (hdg : decode cc pc = .ok (.if_icmp .gt off, 3)) (ht : (pc : Int) + off = (tgt : Int)) (kt : b < a → W p l e R s m args below meth c H locs cells slots Q (F0 m tgt ls rest)) (kf : a ≤ b → W p l e R s m args below meth c H locs cells slots Q (F0 m (pc + 3) ls rest)) : W p l e R s m args below meth c H locs cells slots Q (F0 m pc ls (.int (nI b) :: .int (nI a) :: rest)) :=
  lv_icmp_gt hx hb hdg ht (fun h => kt ((nI_ltI hb' ha).mp h)) (fun h => kf (Nat.not_lt.mp (fun q => h ((nI_ltI hb' ha).mpr q))))
theorem r_leN (hx : p.tables.exec = Jvm.exec) (hb : c.code = cc) {a b : Nat} (ha : a < 2 ^ 31) (hb' : b < 2 ^ 31) {off : Int} {tgt : Nat} (hdg : decode cc pc = .ok (.if_icmp .le off, 3)) (ht : (pc : Int) + off = (tgt : Int)) (kt : a ≤ b → W p l e R s m args below meth c H locs cells slots Q (F0 m tgt ls rest)) (kf : b < a → W p l e R s m args below meth c H locs cells slots Q (F0 m (pc + 3) ls rest)) : W p l e R s m args below meth c H locs cells slots Q (F0 m pc ls (.int (nI b) :: .int (nI a) :: rest)) :=
  lv_icmp_le hx hb hdg ht (fun h => kt ((nI_leI ha hb').mp h)) (fun h => kf (Nat.not_le.mp (fun q => h ((nI_leI ha hb').mpr q))))
theorem r_neN (hx : p.tables.exec = Jvm.exec) (hb : c.code = cc) {a b : Nat} (ha : a < 2 ^ 31) (hb' : b < 2 ^ 31) {off : Int} {tgt : Nat} (hdg : decode cc pc = .ok (.if_icmp .ne off, 3)) (ht : (pc : Int) + off = (tgt : Int)) (kt : a ≠ b → W p l e R s m args below meth c H locs cells slots Q (F0 m tgt ls rest)) (kf : a = b → W p l e R s m args below meth c H locs cells slots Q (F0 m (pc + 3) ls rest)) : W p l e R s m args below meth c H locs cells slots Q (F0 m pc ls (.int (nI b) :: .int (nI a) :: rest)) :=
  lv_icmp_ne hx hb hdg ht (fun h => kt (fun q => h ((nI_eq ha hb').mpr q))) (fun h => kf ((nI_eq ha hb').mp h))
theorem r_eqN (hx : p.tables.exec = Jvm.exec) (hb : c.code = cc) {a b : Nat} (ha : a < 2 ^ 31) (hb' : b < 2 ^ 31) {off : Int} {tgt : Nat} (hdg : decode cc pc = .ok (.if_icmp .eq off, 3)) (ht : (pc : Int) + off = (tgt : Int)) (kt : a = b → W p l e R s m args below meth c H locs cells slots Q (F0 m tgt ls rest)) (kf : a ≠ b → W p l e R s m args below meth c H locs cells slots Q (F0 m (pc + 3) ls rest)) : W p l e R s m args below meth c H locs cells slots Q (F0 m pc ls (.int (nI b) :: .int (nI a) :: rest)) :=
  lv_icmp_eq hx hb hdg ht (fun h => kt ((nI_eq ha hb').mp h)) (fun h => kf (fun q => h ((nI_eq ha hb').mpr q)))
/-- a place, or none -/
def oi : Option Nat → Int32
  | none => -1
  | some j => nI j
/-- true or false as the machine has them -/
def bI (b : Bool) : Int32 := if b then 1 else 0
theorem oi_none {o : Option Nat} (h : ∀ j, o = some j → j < 2 ^ 31) : oi o = -1 ↔ o = none := by
  cases o with
  | none => simp [oi]
  | some j =>
    have hj := h j rfl
    refine ⟨fun q => ?_, fun q => by cases q⟩
    have h1 : (nI j).toInt = (-1 : Int32).toInt := by rw [show nI j = -1 from q]
    rw [nI_toInt hj] at h1
    have h2 : (-1 : Int32).toInt = -1 := by decide
    omega
theorem r_oi_ne (hx : p.tables.exec = Jvm.exec) (hb : c.code = cc) {o : Option Nat} (ho : ∀ j, o = some j → j < 2 ^ 31) {off : Int} {tgt : Nat} (hdg : decode cc pc = .ok (.if_icmp .ne off, 3)) (ht : (pc : Int) + off = (tgt : Int)) (kt : ∀ j, o = some j → W p l e R s m args below meth c H locs cells slots Q (F0 m tgt ls rest)) (kf : o = none → W p l e R s m args below meth c H locs cells slots Q (F0 m (pc + 3) ls rest)) : W p l e R s m args below meth c H locs cells slots Q (F0 m pc ls (.int (-1) :: .int (oi o) :: rest)) := by
  refine lv_icmp_ne hx hb hdg ht (fun h => ?_) (fun h => ?_)
  · cases o with
    | none => exact absurd rfl h
    | some j => exact kt j rfl
  · exact kf ((oi_none ho).mp h)
theorem r_oi_eq (hx : p.tables.exec = Jvm.exec) (hb : c.code = cc) {o : Option Nat} (ho : ∀ j, o = some j → j < 2 ^ 31) {off : Int} {tgt : Nat} (hdg : decode cc pc = .ok (.if_icmp .eq off, 3)) (ht : (pc : Int) + off = (tgt : Int)) (kt : o = none → W p l e R s m args below meth c H locs cells slots Q (F0 m tgt ls rest)) (kf : ∀ j, o = some j → W p l e R s m args below meth c H locs cells slots Q (F0 m (pc + 3) ls rest)) : W p l e R s m args below meth c H locs cells slots Q (F0 m pc ls (.int (-1) :: .int (oi o) :: rest)) := by
  refine lv_icmp_eq hx hb hdg ht (fun h => kt ((oi_none ho).mp h)) (fun h => ?_)
  cases o with
  | none => exact absurd rfl h
  | some j => exact kf j rfl
theorem r_bI_eq (hx : p.tables.exec = Jvm.exec) (hb : c.code = cc) {b : Bool} {off : Int} {tgt : Nat} (hdg : decode cc pc = .ok (.ifCond .eq off, 3)) (ht : (pc : Int) + off = (tgt : Int)) (kt : b = false → W p l e R s m args below meth c H locs cells slots Q (F0 m tgt ls rest)) (kf : b = true → W p l e R s m args below meth c H locs cells slots Q (F0 m (pc + 3) ls rest)) : W p l e R s m args below meth c H locs cells slots Q (F0 m pc ls (.int (bI b) :: rest)) := by
  refine lv_if_eq hx hb hdg ht (fun h => ?_) (fun h => ?_)
  · cases b with
    | false => exact kt rfl
    | true => exact absurd h (by decide)
  · cases b with
    | false => exact absurd rfl h
    | true => exact kf rfl
theorem r_bI_ne (hx : p.tables.exec = Jvm.exec) (hb : c.code = cc) {b : Bool} {off : Int} {tgt : Nat} (hdg : decode cc pc = .ok (.ifCond .ne off, 3)) (ht : (pc : Int) + off = (tgt : Int)) (kt : b = true → W p l e R s m args below meth c H locs cells slots Q (F0 m tgt ls rest)) (kf : b = false → W p l e R s m args below meth c H locs cells slots Q (F0 m (pc + 3) ls rest)) : W p l e R s m args below meth c H locs cells slots Q (F0 m pc ls (.int (bI b) :: rest)) := by
  refine lv_if_ne hx hb hdg ht (fun h => ?_) (fun h => ?_)
  · cases b with
    | false => exact absurd rfl h
    | true => exact kt rfl
  · cases b with
    | false => exact kf rfl
    | true => exact absurd h (by decide)
theorem bI_nar (b : Bool) : narrow .boolean (.int (bI b)) = .int (bI b) := by cases b <;> decide
theorem bI_fit (b : Bool) : fits .boolean (.int (bI b)) = true := by cases b <;> decide
theorem gdV {own C : String} {idx : Nat} {y : MethodName} {b : ByteArray} {L : Nat} {ret : Option FieldType} (h1 : Cond.methodLink own idx y ∈ gw) (h2 : Cond.instanceMethod y ∈ gw) (h3 : Cond.selects C y y ∈ gw) (h4 : Cond.initialized C ∈ gw) (h5 : Cond.code y b L ret ∈ gw) : GoodIn gw (wsV own idx C y (Cond.code y b L ret :: gw)) := by
  intro w hw
  have h : w ∈ gw := by
    unfold wsV at hw
    simp only [List.cons_append, List.nil_append, List.mem_cons] at hw
    rcases hw with rfl | rfl | rfl | rfl | rfl | hw
    · exact h1
    · exact h2
    · exact h3
    · exact h4
    · exact h5
    · exact hw
  exact ⟨h, gw_good w h⟩
theorem gdS {own : String} {idx : Nat} {y : MethodName} {b : ByteArray} {L : Nat} {ret : Option FieldType} (h1 : Cond.methodLink own idx y ∈ gw) (h2 : Cond.static y ∈ gw) (h4 : Cond.initialized own ∈ gw) (h5 : Cond.code y b L ret ∈ gw) : GoodIn gw (wsS own idx y (Cond.code y b L ret :: gw)) := by
  intro w hw
  have h : w ∈ gw := by
    unfold wsS at hw
    simp only [List.cons_append, List.nil_append, List.mem_cons] at hw
    rcases hw with rfl | rfl | rfl | rfl | hw
    · exact h1
    · exact h2
    · exact h4
    · exact h5
    · exact hw
  exact ⟨h, gw_good w h⟩
end W3
section MDC
variable {p : Program} {l : Launch} {e : Env} {R : Room} {s : State} {m : MethodId} {args : Array Value} {below : List Frame} {meth : Method} {c : Code} {H : Heap} {locs : List Loc} {cells slots : Nat} {Q : State → Prop} {cc : ByteArray} {pc : Nat} {ls : Array Slot} {rest : List Value} {D : va_G} {aT : Nat → ClassId} {ad : Nat → Nat} {S : MSt} {A : Nat → Prop} {H0 : Heap} {nL : Nat}
theorem md_blind (As : List Value) (sz : Nat) : FrameBlind (va_Pc As (mdB1 D aT ad S sz)) := fun a U g mk q => by
  obtain ⟨q0, q1, qP, qK, qD⟩ := q
  exact ⟨q0, q1, qP, va_K.moved (u := U) (U := U.calling g mk a) (Vm.Alike.refl U.vm) qK, qD⟩
theorem md_calli (C : MdX p c cc s args m D aT) (hml : c.maxLocals = nL) (hls : ls.size = nL) {y : MethodName} {b : ByteArray} {L : Nat} {ret : FieldType} {fr lo idx n : Nat} {As st : List Value} {post : Int32 → MSt → Prop} (hM : MdI l y b L ret fr lo D aT ad (.ref (ad 0) :: As) S post)
    (hT : GoodIn gw (wsV RX10 idx RX10 y (Cond.code y b L (some ret) :: gw))) (hd : y.cls = RX10 ∧ y.cls ≠ "java/lang/invoke/MethodHandle" ∧ y.cls ≠ "java/lang/invoke/VarHandle" ∧ (parseMethodDescriptor y.desc).map (fun d => d.parameters.length) = some n) (hn : As.length = n)
    (hR : fr + 1 ≤ R.frames ∧ 8 + (L + 11) + lo ≤ R.locals) (hcs : cells ≤ R.cells ∧ slots ≤ R.slots) (hW : MdB D aT ad S A H0 H locs) (hA : ∀ q, H0.size ≤ q → A q) (hst : st = As.reverse ++ .ref (ad 0) :: rest) (hw : (rest.map fun v => v.category).sum ≤ 8)
    (hdg : decode cc pc = .ok (.invokevirtual idx, 3)) (k : ∀ (r : Int32) (S1 : MSt) (H1 : Heap) (locs1 : List Loc), post r S1 → MdB D aT ad S1 A H0 H1 locs1 → W p l e R s m args below meth c H1 locs1 cells slots Q (F0 m (pc + 3) ls (.int r :: rest))) : W p l e R s m args below meth c H locs cells slots Q (F0 m pc ls st) := by
  obtain ⟨hx, hb, hg, hown, hK⟩ := C
  obtain ⟨hP, hD, hS⟩ := hW
  subst hst
  have hAq : ∀ q, va_A (mdW aT ad S) H.size q → A q := by
    intro q h
    rcases h with ⟨j, e1, h⟩ | h
    · exact hD.2 j _ h
    · exact hA q (Nat.le_trans hS.1 h)
  refine va_calli (va_runV (As := As) (rest := rest) ⟨hx, hb, hml, hown, hg⟩ (hM H.size) (cwV n hg hT rfl rfl rfl hd hR) ⟨md_blind _ _, va_recv hK hP (ci := 13) (q0 := 0) rfl rfl, fun U hU hW => ⟨rfl, by rw [hU], by rw [hU]; exact hP, va_K.moved hW.alike hK, hD.weaken (fun _ _ _ _ => trivial)⟩⟩ rfl hn hls rfl (lv_room hw) hdg hcs) hS (fun q _ h => hAq q h) hAq (fun r u t H1 locs1 ht hvm hq hB hz hk hS1 => ?_)
  obtain ⟨hP1, hK1, hD1⟩ := hB
  rw [ht] at hP1
  exact k r u H1 locs1 hq ⟨hP1, mdW_D hD, hS1⟩
theorem md_callv (C : MdX p c cc s args m D aT) (hml : c.maxLocals = nL) (hls : ls.size = nL) {y : MethodName} {b : ByteArray} {L : Nat} {fr lo idx n : Nat} {As st : List Value} {post : MSt → Prop} (hM : MdV l y b L fr lo D aT ad (.ref (ad 0) :: As) S post)
    (hT : GoodIn gw (wsV RX10 idx RX10 y (Cond.code y b L none :: gw))) (hd : y.cls = RX10 ∧ y.cls ≠ "java/lang/invoke/MethodHandle" ∧ y.cls ≠ "java/lang/invoke/VarHandle" ∧ (parseMethodDescriptor y.desc).map (fun d => d.parameters.length) = some n) (hn : As.length = n)
    (hR : fr + 1 ≤ R.frames ∧ 8 + (L + 11) + lo ≤ R.locals) (hcs : cells ≤ R.cells ∧ slots ≤ R.slots) (hW : MdB D aT ad S A H0 H locs) (hA : ∀ q, H0.size ≤ q → A q) (hst : st = As.reverse ++ .ref (ad 0) :: rest) (hw : (rest.map fun v => v.category).sum ≤ 8)
    (hdg : decode cc pc = .ok (.invokevirtual idx, 3)) (k : ∀ (S1 : MSt) (H1 : Heap) (locs1 : List Loc), post S1 → MdB D aT ad S1 A H0 H1 locs1 → W p l e R s m args below meth c H1 locs1 cells slots Q (F0 m (pc + 3) ls rest)) : W p l e R s m args below meth c H locs cells slots Q (F0 m pc ls st) := by
  obtain ⟨hx, hb, hg, hown, hK⟩ := C
  obtain ⟨hP, hD, hS⟩ := hW
  subst hst
  have hAq : ∀ q, va_A (mdW aT ad S) H.size q → A q := by
    intro q h
    rcases h with ⟨j, e1, h⟩ | h
    · exact hD.2 j _ h
    · exact hA q (Nat.le_trans hS.1 h)
  refine va_callv (va_runV (As := As) (rest := rest) ⟨hx, hb, hml, hown, hg⟩ (hM H.size) (cwV n hg hT rfl rfl rfl hd hR) ⟨md_blind _ _, va_recv hK hP (ci := 13) (q0 := 0) rfl rfl, fun U hU hW => ⟨rfl, by rw [hU], by rw [hU]; exact hP, va_K.moved hW.alike hK, hD.weaken (fun _ _ _ _ => trivial)⟩⟩ rfl hn hls rfl (lv_room hw) hdg hcs) hS (fun q _ h => hAq q h) hAq (fun u t H1 locs1 ht hvm hq hB hz hk hS1 => ?_)
  obtain ⟨hP1, hK1, hD1⟩ := hB
  rw [ht] at hP1
  exact k u H1 locs1 hq ⟨hP1, mdW_D hD, hS1⟩
/-- .. that answers an int and leaves its state -/
def MdG (l : Launch) (y : MethodName) (b : ByteArray) (L : Nat) (ret : FieldType) (fr lo : Nat) (D : va_G) (aT : Nat → ClassId) (ad : Nat → Nat) (As : List Value) (S : MSt) (post : Int32 → Prop) : Prop := MdI l y b L ret fr lo D aT ad As S (fun r S1 => post r ∧ S1 = S)
theorem md_callg (C : MdX p c cc s args m D aT) (hml : c.maxLocals = nL) (hls : ls.size = nL) {y : MethodName} {b : ByteArray} {L : Nat} {ret : FieldType} {fr lo idx n : Nat} {As st : List Value} {post : Int32 → Prop} (hM : MdG l y b L ret fr lo D aT ad (.ref (ad 0) :: As) S post)
    (hT : GoodIn gw (wsV RX10 idx RX10 y (Cond.code y b L (some ret) :: gw))) (hd : y.cls = RX10 ∧ y.cls ≠ "java/lang/invoke/MethodHandle" ∧ y.cls ≠ "java/lang/invoke/VarHandle" ∧ (parseMethodDescriptor y.desc).map (fun d => d.parameters.length) = some n) (hn : As.length = n)
    (hR : fr + 1 ≤ R.frames ∧ 8 + (L + 11) + lo ≤ R.locals) (hcs : cells ≤ R.cells ∧ slots ≤ R.slots) (hW : MdB D aT ad S A H0 H locs) (hA : ∀ q, H0.size ≤ q → A q) (hst : st = As.reverse ++ .ref (ad 0) :: rest) (hw : (rest.map fun v => v.category).sum ≤ 8)
    (hdg : decode cc pc = .ok (.invokevirtual idx, 3)) (k : ∀ (r : Int32) (H1 : Heap) (locs1 : List Loc), post r → MdB D aT ad S A H0 H1 locs1 → W p l e R s m args below meth c H1 locs1 cells slots Q (F0 m (pc + 3) ls (.int r :: rest))) : W p l e R s m args below meth c H locs cells slots Q (F0 m pc ls st) :=
  md_calli C hml hls hM hT hd hn hR hcs hW hA hst hw hdg (fun r S1 H1 locs1 hq hW1 => k r H1 locs1 hq.1 (by rw [← hq.2]; exact hW1))
/-- a static method without a world -/
def MdS (l : Launch) (y : MethodName) (b : ByteArray) (L : Nat) (ret : FieldType) (As : List Value) (post : Int32 → Prop) : Prop :=
  Met l y (Cond.code y b L (some ret) :: gw) (mdR 0 0) (fun a _ => a = As.toArray) (vp_Si post) 0 0 (fun _ => False)
theorem md_calls (C : MdX p c cc s args m D aT) (hml : c.maxLocals = nL) (hls : ls.size = nL) {y : MethodName} {b : ByteArray} {L : Nat} {ret : FieldType} {idx n : Nat} {As st : List Value} {post : Int32 → Prop} (hM : MdS l y b L ret As post)
    (hT : GoodIn gw (wsS RX10 idx y (Cond.code y b L (some ret) :: gw))) (hd : y.cls = RX10 ∧ y.cls ≠ "java/lang/invoke/MethodHandle" ∧ y.cls ≠ "java/lang/invoke/VarHandle" ∧ (parseMethodDescriptor y.desc).map (fun d => d.parameters.length) = some n) (hn : As.length = n)
    (hR : 0 + 1 ≤ R.frames ∧ 8 + (L + 11) + 0 ≤ R.locals) (hcs : cells ≤ R.cells ∧ slots ≤ R.slots) (hst : st = As.reverse ++ rest) (hw : (rest.map fun v => v.category).sum ≤ 8)
    (hdg : decode cc pc = .ok (.invokestatic idx, 3)) (k : ∀ (r : Int32), post r → W p l e R s m args below meth c H locs cells slots Q (F0 m (pc + 3) ls (.int r :: rest))) : W p l e R s m args below meth c H locs cells slots Q (F0 m pc ls st) := by
  obtain ⟨hx, hb, hg, hown, hK⟩ := C
  subst hst
  exact vp_callSi (W.runS (As := As) (rest := rest) ⟨hx, hb, hml, hown, hg⟩ hM (cwS n hg hT rfl rfl rfl hd hR) ⟨fun a U g mk q => q, fun U hU hW => rfl⟩ rfl hn hls rfl (lv_room hw) hdg hcs) k
/-- the end of a method of the reference -/
def mdB3 (D : va_G) (aT : Nat → ClassId) (ad : Nat → Nat) (A : Nat → Prop) (S : MSt) (U : State) : Prop := va_P D vwCl (mdW aT ad S) U.heap ∧ va_K D vwCl (tyG aT) U ∧ va_D A (mdW aT ad S)
theorem md_iret (C : MdX p c cc s args m D aT) {ty : FieldType} (hr : meth.sig.returnType = some ty) (hlocks : meth.locks = false) {post : Int32 → MSt → Prop} {v : Int32} (hn : narrow ty (.int v) = .int v) (hW : MdB D aT ad S A s.heap H locs) (hq : post v S) (hdg : decode cc pc = .ok (.ireturn, 1)) : W p l e R s m args below meth c H locs cells slots (MQ below (va_Qi post (mdB3 D aT ad A) A) args s cells slots A) (F0 m pc ls [.int v]) := by
  obtain ⟨hx, hb, hg, hown, hK⟩ := C
  exact W.zret (v := v) hx hb hr hn (fun t ht hW' => ⟨⟨v, S, rfl, hq, by rw [ht]; exact hW.1, va_K.moved hW'.alike hK, hW.2.1⟩, hW.2.2.F ht⟩) hW.2.2.2.2 hdg hlocks
theorem md_vret (C : MdX p c cc s args m D aT) (hr : meth.sig.returnType = none) (hlocks : meth.locks = false) {post : MSt → Prop} (hW : MdB D aT ad S A s.heap H locs) (hq : post S) (hdg : decode cc pc = .ok (.return_, 1)) : W p l e R s m args below meth c H locs cells slots (MQ below (va_Qv post (mdB3 D aT ad A) A) args s cells slots A) (F0 m pc ls []) := by
  obtain ⟨hx, hb, hg, hown, hK⟩ := C
  exact W.vret hx hb hr (fun t ht hW' => ⟨⟨S, rfl, hq, by rw [ht]; exact hW.1, va_K.moved hW'.alike hK, hW.2.1⟩, hW.2.2.F ht⟩) hW.2.2.2.2 hdg hlocks
theorem MdI.of {y : MethodName} {b : ByteArray} {L : Nat} {ret : FieldType} {fr lo : Nat} {As : List Value} {post : Int32 → MSt → Prop} (hy : plainName y.cls = true) (hcls : y.cls = RX10) (hL : (lg_sl As).length ≤ L)
    (body : ∀ (p : Program) (e : Env) (s : State) (m : MethodId) (below : List Frame) (meth : Method) (c : Code) (A : Nat → Prop) (ls : Array Slot), MdX p c b s As.toArray m D aT → c.maxLocals = L → lv_has ls L (lv_args 0 As) → (∀ q, s.heap.size ≤ q → A q) → meth.sig.returnType = some ret → meth.locks = false → MdB D aT ad S A s.heap s.heap [] →
      W p l e (mdR fr lo) s m As.toArray below meth c s.heap [] 0 0 (MQ below (va_Qi post (mdB3 D aT ad A) A) As.toArray s 0 0 A) (F0 m 0 ls [])) : MdI l y b L ret fr lo D aT ad As S post := by
  intro sz
  refine Met.ofW (cc := b) (maxL := L) (ret := some ret) hy rfl ?_
  intro p e s m args below meth c s₁ B hml hv
  obtain ⟨rfl, hsz, hP, hK, hD0⟩ := hv
  have hts := atoms_spec (ws := Cond.code y b L (some ret) :: gw) B.pre
  have hown : s.vm.findClass y.cls = some m.cls := findClass_of_methodNamed B.named
  rw [hcls] at hown
  subst hsz
  have hl := lv_entry As (n := L) hL
  rw [lg_entry_eq]
  exact body p e s m below meth c _ _ ⟨B.exec, B.bytes, fun w hw => hts w (List.mem_cons_of_mem _ hw), hown, hK⟩ hml hl (fun q h => Or.inr h) B.returns B.notSynchronized ⟨hP, hD0.self (sz := s.heap.size), va_S.rf⟩
theorem MdV.of {y : MethodName} {b : ByteArray} {L : Nat} {fr lo : Nat} {As : List Value} {post : MSt → Prop} (hy : plainName y.cls = true) (hcls : y.cls = RX10) (hL : (lg_sl As).length ≤ L)
    (body : ∀ (p : Program) (e : Env) (s : State) (m : MethodId) (below : List Frame) (meth : Method) (c : Code) (A : Nat → Prop) (ls : Array Slot), MdX p c b s As.toArray m D aT → c.maxLocals = L → lv_has ls L (lv_args 0 As) → (∀ q, s.heap.size ≤ q → A q) → meth.sig.returnType = none → meth.locks = false → MdB D aT ad S A s.heap s.heap [] →
      W p l e (mdR fr lo) s m As.toArray below meth c s.heap [] 0 0 (MQ below (va_Qv post (mdB3 D aT ad A) A) As.toArray s 0 0 A) (F0 m 0 ls [])) : MdV l y b L fr lo D aT ad As S post := by
  intro sz
  refine Met.ofW (cc := b) (maxL := L) (ret := none) hy rfl ?_
  intro p e s m args below meth c s₁ B hml hv
  obtain ⟨rfl, hsz, hP, hK, hD0⟩ := hv
  have hts := atoms_spec (ws := Cond.code y b L none :: gw) B.pre
  have hown : s.vm.findClass y.cls = some m.cls := findClass_of_methodNamed B.named
  rw [hcls] at hown
  subst hsz
  have hl := lv_entry As (n := L) hL
  rw [lg_entry_eq]
  exact body p e s m below meth c _ _ ⟨B.exec, B.bytes, fun w hw => hts w (List.mem_cons_of_mem _ hw), hown, hK⟩ hml hl (fun q h => Or.inr h) B.returns B.notSynchronized ⟨hP, hD0.self (sz := s.heap.size), va_S.rf⟩
end MDC
end
section
/-- the first place before n where f is x -/
def fnd (f : Nat → Int32) (x : Int32) : Nat → Option Nat
  | 0 => none
  | n + 1 => match fnd f x n with
    | some k => some k
    | none => if f n = x then some n else none
theorem fnd_step {f : Nat → Int32} {x : Int32} {k : Nat} (h : fnd f x k = none) (h2 : ¬ f k = x) : fnd f x (k + 1) = none := by simp [fnd, h, h2]
theorem fnd_hit {f : Nat → Int32} {x : Int32} {k : Nat} (h : fnd f x k = none) (h2 : f k = x) : ∀ {n : Nat}, k < n → fnd f x n = some k := by
  intro n
  induction n with
  | zero => intro h3; exact absurd h3 (Nat.not_lt_zero _)
  | succ n ih =>
    intro h3
    rcases Nat.lt_or_ge k n with q | q
    · simp [fnd, ih q]
    · have e : n = k := by omega
      subst e
      simp [fnd, h, h2]
theorem fnd_some {f : Nat → Int32} {x : Int32} : ∀ {n k : Nat}, fnd f x n = some k → k < n ∧ f k = x ∧ ∀ j, j < k → f j ≠ x := by
  intro n
  induction n with
  | zero => intro k h; simp [fnd] at h
  | succ n ih =>
    intro k h
    unfold fnd at h
    cases hf : fnd f x n with
    | some j =>
      rw [hf] at h
      cases h
      obtain ⟨h1, h2, h3⟩ := ih hf
      exact ⟨by omega, h2, h3⟩
    | none =>
      rw [hf] at h
      dsimp only at h
      split at h
      · rename_i hq
        cases h
        refine ⟨by omega, hq, fun j hj hjx => ?_⟩
        have := fnd_hit (f := f) (x := x) (k := j)
        clear this
        have key : ∀ n j, j < n → f j = x → fnd f x n ≠ none := by
          intro n
          induction n with
          | zero => intro j hj; exact absurd hj (Nat.not_lt_zero _)
          | succ n ih2 =>
            intro j hj hx
            unfold fnd
            cases hg : fnd f x n with
            | some i => simp
            | none =>
              rcases Nat.lt_or_ge j n with q | q
              · exact absurd hg (ih2 j q hx)
              · have e : j = n := by omega
                subst e
                simp [hx]
        exact key _ j hj hjx hf
      · cases h
theorem fnd_none {f : Nat → Int32} {x : Int32} : ∀ {n : Nat}, fnd f x n = none → ∀ j, j < n → f j ≠ x := by
  intro n
  induction n with
  | zero => intro _ j hj; exact absurd hj (Nat.not_lt_zero _)
  | succ n ih =>
    intro h j hj hx
    unfold fnd at h
    cases hf : fnd f x n with
    | some i => rw [hf] at h; cases h
    | none =>
      rw [hf] at h
      rcases Nat.lt_or_ge j n with q | q
      · exact ih hf j q hx
      · have e : j = n := by omega
        subst e
        simp [hx] at h
/-- the forest that the reference's row holds: n motions, their ids, parents (by place), tones -/
def FoR (m : Nat → Int32) (n : Nat) (idn : Nat → Nat) (pr : Nat → Option Nat) (tn : Nat → Nat) : Prop :=
  m 2 = nI n ∧ n ≤ 12 ∧ (∀ k, k < n → m (29 + 4 * k) = nI (idn k) ∧ idn k < 1048576) ∧ (∀ k, k < n → m (29 + 4 * k + 1) = oi ((pr k).map idn)) ∧ (∀ k j, k < n → pr k = some j → j < k) ∧ (∀ j k, j < k → k < n → idn j < idn k) ∧ ∀ k, k < n → m (29 + 4 * k + 2) = nI (tn k) ∧ tn k ≤ 9
theorem FoR.par {m : Nat → Int32} {n : Nat} {idn : Nat → Nat} {pr : Nat → Option Nat} {tn : Nat → Nat} (h : FoR m n idn pr tn) {k j : Nat} (hk : k < n) (hp : pr k = some j) : j < n := by
  have := h.2.2.2.2.1 k j hk hp
  omega
theorem FoR.find {m : Nat → Int32} {n : Nat} {idn : Nat → Nat} {pr : Nat → Option Nat} {tn : Nat → Nat} (h : FoR m n idn pr tn) {j : Nat} (hj : j < n) : fnd (fun k => m (29 + 4 * k)) (nI (idn j)) n = some j := by
  obtain ⟨-, -, h3, -, -, h6, -⟩ := h
  cases hf : fnd (fun k => m (29 + 4 * k)) (nI (idn j)) n with
  | none => exact absurd (h3 j hj).1 (fnd_none hf j hj)
  | some i =>
    obtain ⟨hi, he, -⟩ := fnd_some hf
    have e1 : nI (idn i) = nI (idn j) := by rw [← (h3 i hi).1]; exact he
    have e2 := (nI_eq (by have := (h3 i hi).2; omega) (by have := (h3 j hj).2; omega)).mp e1
    have : i = j := by
      rcases Nat.lt_or_ge i j with q | q
      · have := h6 i j q hj; omega
      · rcases Nat.lt_or_ge j i with q2 | q2
        · have := h6 j i q2 hi; omega
        · omega
    rw [this]
theorem FoR.findPar {m : Nat → Int32} {n : Nat} {idn : Nat → Nat} {pr : Nat → Option Nat} {tn : Nat → Nat} (h : FoR m n idn pr tn) {k i : Nat} (hk : k < n) (hp : (pr k).map idn = some i) : fnd (fun k => m (29 + 4 * k)) (oi ((pr k).map idn)) n = pr k := by
  cases hq : pr k with
  | none => rw [hq] at hp; cases hp
  | some j =>
    show fnd _ (nI (idn j)) n = some j
    exact h.find (h.par hk hq)
/-- how deep a motion lies -/
def dpf (pr : Nat → Option Nat) : Nat → Nat → Nat
  | 0, _ => 0
  | f + 1, k => match pr k with
    | none => 0
    | some j => dpf pr f j + 1
def dep (pr : Nat → Option Nat) (k : Nat) : Nat := dpf pr k k
def ParOk (pr : Nat → Option Nat) (n : Nat) : Prop := ∀ k j, k < n → pr k = some j → j < k
theorem FoR.ok {m : Nat → Int32} {n : Nat} {idn : Nat → Nat} {pr : Nat → Option Nat} {tn : Nat → Nat} (h : FoR m n idn pr tn) : ParOk pr n := h.2.2.2.2.1
theorem dpf_fuel {pr : Nat → Option Nat} {n : Nat} (h : ParOk pr n) : ∀ f k, k < n → k ≤ f → dpf pr f k = dpf pr k k := by
  intro f
  induction f using Nat.strongRecOn with
  | _ f ih =>
    intro k hk hf
    cases f with
    | zero => have : k = 0 := by omega
              subst this; rfl
    | succ f =>
      cases k with
      | zero =>
        unfold dpf
        cases hp : pr 0 with
        | none => rfl
        | some j => have := h 0 j hk hp; omega
      | succ k =>
        unfold dpf
        cases hp : pr (k + 1) with
        | none => rfl
        | some j =>
          have hj := h _ j hk hp
          dsimp only
          rw [ih f (by omega) j (by omega) (by omega)]
          rcases Nat.lt_or_ge k (f + 1) with q | q
          · rw [ih k q j (by omega) (by omega)]
          · omega
theorem dep_some {pr : Nat → Option Nat} {n k j : Nat} (h : ParOk pr n) (hk : k < n) (hp : pr k = some j) : dep pr k = dep pr j + 1 := by
  have hj := h k j hk hp
  cases k with
  | zero => omega
  | succ k =>
    unfold dep
    rw [show dpf pr (k + 1) (k + 1) = dpf pr k j + 1 by rw [dpf, hp]]
    rw [dpf_fuel h k j (by omega) (by omega)]
theorem dep_none {pr : Nat → Option Nat} {k : Nat} (hp : pr k = none) : dep pr k = 0 := by
  unfold dep
  cases k with
  | zero => rfl
  | succ k => rw [dpf, hp]
def depO (pr : Nat → Option Nat) : Option Nat → Nat
  | none => 0
  | some j => dep pr j + 1
theorem dep_O {pr : Nat → Option Nat} {n k : Nat} (h : ParOk pr n) (hk : k < n) : dep pr k = depO pr (pr k) := by
  cases hp : pr k with
  | none => exact dep_none hp
  | some j => exact dep_some h hk hp
theorem dep_le {pr : Nat → Option Nat} {n : Nat} (h : ParOk pr n) : ∀ k, k < n → dep pr k ≤ k := by
  intro k
  induction k using Nat.strongRecOn with
  | _ k ih =>
    intro hk
    cases hp : pr k with
    | none => rw [dep_none hp]; omega
    | some j =>
      have hj := h k j hk hp
      rw [dep_some h hk hp]
      have := ih j hj (by omega)
      omega
/-- whether k lies in the branch of r -/
def anf (pr : Nat → Option Nat) (r : Nat) : Nat → Nat → Bool
  | 0, k => k == r
  | f + 1, k => k == r || match pr k with
    | none => false
    | some j => anf pr r f j
def anc (pr : Nat → Option Nat) (r k : Nat) : Bool := anf pr r k k
theorem anf_fuel {pr : Nat → Option Nat} {n r : Nat} (h : ParOk pr n) : ∀ f k, k < n → k ≤ f → anf pr r f k = anf pr r k k := by
  intro f
  induction f using Nat.strongRecOn with
  | _ f ih =>
    intro k hk hf
    cases f with
    | zero => have : k = 0 := by omega
              subst this; rfl
    | succ f =>
      cases k with
      | zero =>
        unfold anf
        cases hp : pr 0 with
        | none => simp
        | some j => have := h 0 j hk hp; omega
      | succ k =>
        unfold anf
        cases hp : pr (k + 1) with
        | none => rfl
        | some j =>
          have hj := h _ j hk hp
          dsimp only
          rw [ih f (by omega) j (by omega) (by omega)]
          rcases Nat.lt_or_ge k (f + 1) with q | q
          · rw [ih k q j (by omega) (by omega)]
          · omega
def ancO (pr : Nat → Option Nat) (r : Nat) : Option Nat → Bool
  | none => false
  | some j => anc pr r j
theorem anc_self (pr : Nat → Option Nat) (r : Nat) : anc pr r r = true := by
  unfold anc
  cases r <;> simp [anf]
theorem anc_O {pr : Nat → Option Nat} {n k r : Nat} (h : ParOk pr n) (hk : k < n) (hr : k ≠ r) : anc pr r k = ancO pr r (pr k) := by
  unfold anc
  cases k with
  | zero =>
    cases hp : pr 0 with
    | none => simp [anf, ancO, hr]
    | some j => have := h 0 j hk hp; omega
  | succ k =>
    rw [anf, show (k + 1 == r) = false by simp [hr], Bool.false_or]
    cases hp : pr (k + 1) with
    | none => simp [ancO, hr]
    | some j =>
      have hj := h _ j hk hp
      simp only [ancO, anc]
      rw [anf_fuel h k j (by omega) (by omega)]
/-- whether p has no child before i -/
def tipB (pr : Nat → Option Nat) (p : Nat) : Nat → Bool
  | 0 => true
  | i + 1 => tipB pr p i && !(pr i == some p)
/-- the last tip of the branch of r before i -/
def ltp (pr : Nat → Option Nat) (n r : Nat) : Nat → Option Nat
  | 0 => none
  | k + 1 => if anc pr r k && tipB pr k n then some k else ltp pr n r k
theorem ltp_lt {pr : Nat → Option Nat} {n r : Nat} : ∀ {i k}, ltp pr n r i = some k → k < i := by
  intro i
  induction i with
  | zero => intro k h; cases h
  | succ i ih =>
    intro k h
    unfold ltp at h
    split at h
    · cases h; omega
    · have := ih h; omega
theorem FoR.pid {m : Nat → Int32} {n : Nat} {idn : Nat → Nat} {pr : Nat → Option Nat} {tn : Nat → Nat} (h : FoR m n idn pr tn) {k : Nat} (hk : k < n) : ∀ j, (pr k).map idn = some j → j < 2 ^ 31 := by
  intro j hj
  cases hq : pr k with
  | none => rw [hq] at hj; cases hj
  | some i =>
    rw [hq] at hj
    cases hj
    have := (h.2.2.1 i (h.par hk hq)).2
    omega
theorem FoR.plim {m : Nat → Int32} {n : Nat} {idn : Nat → Nat} {pr : Nat → Option Nat} {tn : Nat → Nat} (h : FoR m n idn pr tn) {k : Nat} (hk : k < n) : ∀ j, pr k = some j → j < 2 ^ 31 := by
  intro j hj
  have := h.par hk hj
  have := h.2.1
  omega

def oM : Option Nat → Nat
  | none => 0
  | some j => j + 1
theorem oM_lt {pr : Nat → Option Nat} {n j : Nat} (h : ParOk pr n) (hj : j < n) : oM (pr j) < oM (some j) := by
  cases hp : pr j with
  | none => simp [oM]
  | some i => have := h j i hj hp; simp [oM]; omega
theorem nI_m1 {q : Nat} (hq : q < 2 ^ 31) (h : (-1 : Int32) = nI q) : False := by
  have h1 : (nI q).toInt = (-1 : Int32).toInt := by rw [← h]
  rw [nI_toInt hq] at h1
  have h2 : (-1 : Int32).toInt = -1 := by decide
  omega
theorem oi_nI {o : Option Nat} {q : Nat} (ho : ∀ j, o = some j → j < 2 ^ 31) (hq : q < 2 ^ 31) : oi o = nI q ↔ o = some q := by
  cases o with
  | none => exact ⟨fun h => (nI_m1 hq h).elim, fun h => by cases h⟩
  | some j => exact ⟨fun h => by rw [(nI_eq (ho j rfl) hq).mp h], fun h => by cases h; rfl⟩
section ON
variable {p : Program} {l : Launch} {e : Env} {R : Room} {s : State} {m : MethodId} {args : Array Value} {below : List Frame} {meth : Method} {c : Code} {H : Heap} {locs : List Loc} {cells slots : Nat} {Q : State → Prop} {cc : ByteArray} {pc : Nat} {ls : Array Slot} {rest : List Value}
theorem r_on_eq (hx : p.tables.exec = Jvm.exec) (hb : c.code = cc) {o : Option Nat} {q : Nat} (ho : ∀ j, o = some j → j < 2 ^ 31) (hq : q < 2 ^ 31) {off : Int} {tgt : Nat} (hdg : decode cc pc = .ok (.if_icmp .eq off, 3)) (ht : (pc : Int) + off = (tgt : Int)) (kt : o = some q → W p l e R s m args below meth c H locs cells slots Q (F0 m tgt ls rest)) (kf : o ≠ some q → W p l e R s m args below meth c H locs cells slots Q (F0 m (pc + 3) ls rest)) : W p l e R s m args below meth c H locs cells slots Q (F0 m pc ls (.int (nI q) :: .int (oi o) :: rest)) :=
  lv_icmp_eq hx hb hdg ht (fun h => kt ((oi_nI ho hq).mp h)) (fun h => kf (fun z => h ((oi_nI ho hq).mpr z)))
theorem r_on_ne (hx : p.tables.exec = Jvm.exec) (hb : c.code = cc) {o : Option Nat} {q : Nat} (ho : ∀ j, o = some j → j < 2 ^ 31) (hq : q < 2 ^ 31) {off : Int} {tgt : Nat} (hdg : decode cc pc = .ok (.if_icmp .ne off, 3)) (ht : (pc : Int) + off = (tgt : Int)) (kt : o ≠ some q → W p l e R s m args below meth c H locs cells slots Q (F0 m tgt ls rest)) (kf : o = some q → W p l e R s m args below meth c H locs cells slots Q (F0 m (pc + 3) ls rest)) : W p l e R s m args below meth c H locs cells slots Q (F0 m pc ls (.int (nI q) :: .int (oi o) :: rest)) :=
  lv_icmp_ne hx hb hdg ht (fun h => kt (fun z => h ((oi_nI ho hq).mpr z))) (fun h => kf ((oi_nI ho hq).mp h))
end ON
/-- how far two numbers lie apart -/
def dif (a b : Nat) : Nat := a - b + (b - a)
theorem dif_abs {a b : Nat} (ha : a < 1024) (hb : b < 1024) : (if 0 ≤ nI a - nI b then nI a - nI b else 0 - (nI a - nI b)) = nI (dif a b) := by
  have e := pk_sub_toInt (a := a) (b := b) (by omega) (by omega)
  have h0 : (0 : Int32).toInt = 0 := by decide
  have hd : (nI (dif a b)).toInt = (dif a b : Int) := nI_toInt (by unfold dif; omega)
  apply Int32.toInt_inj.mp
  rw [hd]
  split
  · rename_i h
    have h1 : (0 : Int32).toInt ≤ (nI a - nI b).toInt := Int32.le_iff_toInt_le.mp h
    rw [h0] at h1
    rw [e] at h1 ⊢
    unfold dif; omega
  · rename_i h
    have h1 : ¬ (0 : Int32).toInt ≤ (nI a - nI b).toInt := fun q => h (Int32.le_iff_toInt_le.mpr q)
    rw [h0, e] at h1
    rw [Int32.toInt_sub, h0, e]
    unfold dif
    rw [show (0 : Int) - ((a : Int) - b) = ((a - b + (b - a) : Nat) : Int) by omega]
    exact Int.bmod_eq_of_le (by omega) (by omega)
/-- the hedges that the reference's row holds -/
def HeR (m : Nat → Int32) (h : Nat) (lv th ta : Nat → Nat) : Prop :=
  m 0 = nI h ∧ h ≤ 6 ∧ (∀ i, i < h → m (11 + 3 * i) = nI (lv i) ∧ 1 ≤ lv i ∧ lv i ≤ 99) ∧ (∀ i, i < h → m (11 + 3 * i + 1) = nI (th i) ∧ th i ≤ 9) ∧ ∀ i, i < h → m (11 + 3 * i + 2) = nI (ta i) ∧ ta i ≤ 9
/-- the leaves in favour of a tone, of the first hedges -/
def fav (lv ta : Nat → Nat) (t : Nat) : Nat → Nat
  | 0 => 0
  | i + 1 => fav lv ta t i + if dif (ta i) t ≤ 3 then lv i else 0
def sml (lv : Nat → Nat) : Nat → Nat
  | 0 => 0
  | i + 1 => sml lv i + lv i
theorem in_f1 {v lo hi : Int64} (h : lg_cmp v lo < 0) : nI 0 = bI (decide (lo ≤ v ∧ v ≤ hi)) := by
  have h1 : ¬ lo ≤ v := by
    intro q
    unfold lg_cmp at h
    split at h
    · exact absurd h (by decide)
    · split at h
      · exact absurd h (by decide)
      · rename_i h1 h2
        exact h1 (Int64.lt_of_le_of_ne q (fun z => h2 z.symm))
  simp [h1, bI]; rfl
theorem in_f2 {v lo hi : Int64} (h : 0 < lg_cmp v hi) : nI 0 = bI (decide (lo ≤ v ∧ v ≤ hi)) := by
  have h1 : ¬ v ≤ hi := by
    intro q
    unfold lg_cmp at h
    split at h
    · rename_i h1
      exact absurd q (Int64.not_le.mpr h1)
    · split at h
      · exact absurd h (by decide)
      · exact absurd h (by decide)
  simp [h1, bI]; rfl
theorem in_t {v lo hi : Int64} (h1 : ¬ lg_cmp v lo < 0) (h2 : ¬ 0 < lg_cmp v hi) : nI 1 = bI (decide (lo ≤ v ∧ v ≤ hi)) := by
  have e1 : lo ≤ v := by
    apply Decidable.byContradiction
    intro q
    apply h1
    have q1 : v < lo := Int64.not_le.mp q
    unfold lg_cmp
    rw [if_neg (fun z => absurd (Int64.le_of_lt z) q), if_neg (fun z => by rw [z] at q1; exact Int64.lt_irrefl q1)]
    decide
  have e2 : v ≤ hi := by
    apply Decidable.byContradiction
    intro q
    apply h2
    unfold lg_cmp
    rw [if_pos (Int64.not_le.mp q)]
    decide
  simp [e1, e2, bI]; rfl

def rgB (lo hi : Int64) (x : Int32) : Bool := decide (lo ≤ x.toInt64 ∧ x.toInt64 ≤ hi)
theorem sr_sr (S : MSt) (i : Nat) (f g : Nat → Int32) : sr (sr S i f) i g = sr S i g := by
  funext r; unfold sr; split <;> rfl
theorem sr_self (S : MSt) (i : Nat) : sr S i (S i) = S := by
  funext r; unfold sr; split
  · rename_i h; rw [h]
  · rfl
/-- the row behind an added hedge -/
def hedgeF (m : Nat → Int32) (h : Nat) (x y z : Int32) : Nat → Int32 := fun j => if j = 0 then nI (h + 1) else if j = 11 + 3 * h + 2 then z else if j = 11 + 3 * h + 1 then y else if j = 11 + 3 * h then x else m j
/-- the row behind an added motion -/
def addF (m : Nat → Int32) (n : Nat) (p x w : Int32) : Nat → Int32 := fun j => if j = 1 then m 1 + nI 1 else if j = 2 then nI (n + 1) else if j = 29 + 4 * n + 3 then w else if j = 29 + 4 * n + 2 then x else if j = 29 + 4 * n + 1 then p else if j = 29 + 4 * n then m 1 else m j
/-- the row behind a motion taken out, with its count as it was -/
def drpF (m : Nat → Int32) (k i : Nat) : Nat → Int32 := fun j => if 29 + 4 * k ≤ j ∧ j < i then m (j + 4) else m j
def drzF (m : Nat → Int32) (k i : Nat) : Nat → Int32 := fun j => if 73 ≤ j ∧ j < i then 0 else drpF m k 73 j
def dropF (m : Nat → Int32) (k n : Nat) : Nat → Int32 := fun j => if j = 2 then nI (n - 1) else drzF m k 77 j
theorem drpF_0 (m : Nat → Int32) (k : Nat) : drpF m k (29 + 4 * k) = m := by
  funext j; unfold drpF; rw [if_neg (by omega)]
theorem drpF_1 (m : Nat → Int32) (k i : Nat) (h : 29 + 4 * k ≤ i) : upd (drpF m k i) i (drpF m k i (i + 4)) = drpF m k (i + 1) := by
  funext j; unfold upd drpF
  by_cases h1 : j = i
  · subst h1; rw [if_pos rfl, if_neg (by omega), if_pos (by omega)]
  · rw [if_neg h1]
    by_cases h2 : 29 + 4 * k ≤ j ∧ j < i
    · rw [if_pos h2, if_pos (by omega)]
    · rw [if_neg h2, if_neg (by omega)]
theorem drzF_0 (m : Nat → Int32) (k : Nat) : drzF m k 73 = drpF m k 73 := by
  funext j; unfold drzF; rw [if_neg (by omega)]
theorem drzF_1 (m : Nat → Int32) (k i : Nat) (h : 73 ≤ i) : upd (drzF m k i) i (nI 0) = drzF m k (i + 1) := by
  funext j; unfold upd drzF
  by_cases h1 : j = i
  · subst h1; rw [if_pos rfl, if_pos (by omega)]; rfl
  · rw [if_neg h1]
    by_cases h2 : 73 ≤ j ∧ j < i
    · rw [if_pos h2, if_pos (by omega)]
    · rw [if_neg h2, if_neg (by omega)]
/-- the first n places of f, the rest of g -/
def cpyF (g f : Nat → Int32) (n : Nat) : Nat → Int32 := fun j => if j < n then f j else g j
theorem cpyF_0 (g f : Nat → Int32) : cpyF g f 0 = g := by funext j; simp [cpyF]
theorem cpyF_1 (g f : Nat → Int32) (i : Nat) : upd (cpyF g f i) i (f i) = cpyF g f (i + 1) := by
  funext j; unfold upd cpyF
  by_cases h1 : j = i
  · subst h1; rw [if_pos rfl, if_pos (by omega)]
  · rw [if_neg h1]
    by_cases h2 : j < i
    · rw [if_pos h2, if_pos (by omega)]
    · rw [if_neg h2, if_neg (by omega)]

section IFN
variable {p : Program} {l : Launch} {e : Env} {R : Room} {s : State} {m : MethodId} {args : Array Value} {below : List Frame} {meth : Method} {c : Code} {H : Heap} {locs : List Loc} {cells slots : Nat} {Q : State → Prop} {cc : ByteArray} {pc : Nat} {ls : Array Slot} {rest : List Value}
theorem nI_le0 {a : Nat} (ha : a < 2 ^ 31) : nI a ≤ 0 ↔ a = 0 := by
  rw [← nI_0, nI_leI ha (by decide)]; omega
theorem nI_lt0 {a : Nat} (ha : a < 2 ^ 31) : 0 < nI a ↔ 0 < a := by
  rw [← nI_0, nI_ltI (by decide) ha]
theorem nI_e0 {a : Nat} (ha : a < 2 ^ 31) : nI a = 0 ↔ a = 0 := by
  rw [← nI_0, nI_eq ha (by decide)]
theorem r_ifleN (hx : p.tables.exec = Jvm.exec) (hb : c.code = cc) {a : Nat} (ha : a < 2 ^ 31) {off : Int} {tgt : Nat} (hdg : decode cc pc = .ok (.ifCond .le off, 3)) (ht : (pc : Int) + off = (tgt : Int)) (kt : a = 0 → W p l e R s m args below meth c H locs cells slots Q (F0 m tgt ls rest)) (kf : 0 < a → W p l e R s m args below meth c H locs cells slots Q (F0 m (pc + 3) ls rest)) : W p l e R s m args below meth c H locs cells slots Q (F0 m pc ls (.int (nI a) :: rest)) :=
  lv_if_le hx hb hdg ht (fun h => kt ((nI_le0 ha).mp h)) (fun h => kf (Nat.pos_of_ne_zero (fun z => h ((nI_le0 ha).mpr z))))
theorem r_ifgtN (hx : p.tables.exec = Jvm.exec) (hb : c.code = cc) {a : Nat} (ha : a < 2 ^ 31) {off : Int} {tgt : Nat} (hdg : decode cc pc = .ok (.ifCond .gt off, 3)) (ht : (pc : Int) + off = (tgt : Int)) (kt : 0 < a → W p l e R s m args below meth c H locs cells slots Q (F0 m tgt ls rest)) (kf : a = 0 → W p l e R s m args below meth c H locs cells slots Q (F0 m (pc + 3) ls rest)) : W p l e R s m args below meth c H locs cells slots Q (F0 m pc ls (.int (nI a) :: rest)) :=
  lv_if_gt hx hb hdg ht (fun h => kt ((nI_lt0 ha).mp h)) (fun h => kf (Nat.eq_zero_of_not_pos (fun z => h ((nI_lt0 ha).mpr z))))
theorem r_ifeqN (hx : p.tables.exec = Jvm.exec) (hb : c.code = cc) {a : Nat} (ha : a < 2 ^ 31) {off : Int} {tgt : Nat} (hdg : decode cc pc = .ok (.ifCond .eq off, 3)) (ht : (pc : Int) + off = (tgt : Int)) (kt : a = 0 → W p l e R s m args below meth c H locs cells slots Q (F0 m tgt ls rest)) (kf : a ≠ 0 → W p l e R s m args below meth c H locs cells slots Q (F0 m (pc + 3) ls rest)) : W p l e R s m args below meth c H locs cells slots Q (F0 m pc ls (.int (nI a) :: rest)) :=
  lv_if_eq hx hb hdg ht (fun h => kt ((nI_e0 ha).mp h)) (fun h => kf (fun z => h ((nI_e0 ha).mpr z)))
theorem r_ifneN (hx : p.tables.exec = Jvm.exec) (hb : c.code = cc) {a : Nat} (ha : a < 2 ^ 31) {off : Int} {tgt : Nat} (hdg : decode cc pc = .ok (.ifCond .ne off, 3)) (ht : (pc : Int) + off = (tgt : Int)) (kt : a ≠ 0 → W p l e R s m args below meth c H locs cells slots Q (F0 m tgt ls rest)) (kf : a = 0 → W p l e R s m args below meth c H locs cells slots Q (F0 m (pc + 3) ls rest)) : W p l e R s m args below meth c H locs cells slots Q (F0 m pc ls (.int (nI a) :: rest)) :=
  lv_if_ne hx hb hdg ht (fun h => kt (fun z => h ((nI_e0 ha).mpr z))) (fun h => kf ((nI_e0 ha).mp h))
end IFN
/-- whether a hedge vetoes: its difference, its thorns -/
def vetB (d t : Nat) : Bool := decide (7 ≤ d ∧ 0 < t)
def shF (f : Nat → Int32) (i : Nat) : Nat → Int32 := fun j => if j < i then f (j + 77) else f j
theorem shF_0 (f : Nat → Int32) : shF f 0 = f := by funext j; simp [shF]
theorem shF_1 (f : Nat → Int32) (i : Nat) : upd (shF f i) i (shF f i (i + 77)) = shF f (i + 1) := by
  funext j; unfold upd shF
  by_cases h1 : j = i
  · subst h1; rw [if_pos rfl, if_neg (by omega), if_pos (by omega)]
  · rw [if_neg h1]
    by_cases h2 : j < i
    · rw [if_pos h2, if_pos (by omega)]
    · rw [if_neg h2, if_neg (by omega)]
def putF (f g : Nat → Int32) (b i : Nat) : Nat → Int32 := fun j => if b ≤ j ∧ j < b + i then g (j - b) else f j
theorem putF_0 (f g : Nat → Int32) (b : Nat) : putF f g b 0 = f := by
  funext j; unfold putF; rw [if_neg (by omega)]
theorem putF_1 (f g : Nat → Int32) (b i : Nat) : upd (putF f g b i) (b + i) (g i) = putF f g b (i + 1) := by
  funext j; unfold upd putF
  by_cases h1 : j = b + i
  · subst h1; rw [if_pos rfl, if_pos (by omega), Nat.add_sub_cancel_left]
  · rw [if_neg h1]
    by_cases h2 : b ≤ j ∧ j < b + i
    · rw [if_pos h2, if_pos (by omega)]
    · rw [if_neg h2, if_neg (by omega)]
/-- the row of the past behind a change -/
def pstF (f g : Nat → Int32) (ch : Nat) : Nat → Int32 := putF (if ch = 8 then shF f 539 else f) g (77 * (min ch 7)) 77
theorem sr_ss (S : MSt) (i k : Nat) (f : Nat → Int32) (x : Int32) (h : i ≠ 13) : sr (ss S k x) i f = ss (sr S i f) k x := by
  funext r; unfold ss sr
  by_cases h1 : r = i
  · subst h1; simp [h]
  · by_cases h2 : r = 13
    · subst h2; simp [h1, Ne.symm h]
    · simp [h1, h2]
theorem ss_ss (S : MSt) (k : Nat) (x y : Int32) : ss (ss S k x) k y = ss S k y := by
  funext r j; unfold ss sr upd
  by_cases h : r = 13
  · subst h; simp; split <;> rfl
  · simp [h]
theorem ss_n (S : MSt) (k i : Nat) (x : Int32) (h : i ≠ 13) : ss S k x i = S i := by simp [ss, sr, h]
theorem ss_s (S : MSt) (k : Nat) (x : Int32) : ss S k x 13 k = x := by simp [ss, sr, upd]
theorem ss_o (S : MSt) (k j : Nat) (x : Int32) (h : j ≠ k) : ss S k x 13 j = S 13 j := by simp [ss, sr, upd, h]
end
section
theorem gT_of : GoodIn gw (wsV RX10 67 RX10 yX10_of (Cond.code yX10_of cX10_of 3 (some .int) :: gw)) := gdV gw_1759 gw_1761 gw_29 gw_81 gw_1762
theorem hd_of : yX10_of.cls = RX10 ∧ yX10_of.cls ≠ "java/lang/invoke/MethodHandle" ∧ yX10_of.cls ≠ "java/lang/invoke/VarHandle" ∧ (parseMethodDescriptor yX10_of.desc).map (fun d => d.parameters.length) = some 2 := ⟨rfl, by decide +kernel, by decide +kernel, by decide +kernel⟩
theorem dX10_of_0 : decode cX10_of 0 = .ok (.aload_n 0, 1) := by decide +kernel
theorem dX10_of_1 : decode cX10_of 1 = .ok (.getfield 9, 3) := by decide +kernel
theorem dX10_of_4 : decode cX10_of 4 = .ok (.bipush 29, 2) := by decide +kernel
theorem dX10_of_6 : decode cX10_of 6 = .ok (.iconst 4, 1) := by decide +kernel
theorem dX10_of_7 : decode cX10_of 7 = .ok (.iload_n 1, 1) := by decide +kernel
theorem dX10_of_8 : decode cX10_of 8 = .ok (.imul, 1) := by decide +kernel
theorem dX10_of_9 : decode cX10_of 9 = .ok (.iadd, 1) := by decide +kernel
theorem dX10_of_10 : decode cX10_of 10 = .ok (.iload_n 2, 1) := by decide +kernel
theorem dX10_of_11 : decode cX10_of 11 = .ok (.iadd, 1) := by decide +kernel
theorem dX10_of_12 : decode cX10_of 12 = .ok (.iaload, 1) := by decide +kernel
theorem dX10_of_13 : decode cX10_of 13 = .ok (.ireturn, 1) := by decide +kernel
set_option maxHeartbeats 1000000 in
set_option maxRecDepth 20000 in
theorem m_of (l : Launch) (D : va_G) (aT : Nat → ClassId) (ad : Nat → Nat) (S : MSt) (k w : Nat) (h : 29 + 4 * k + w < 77) : MdG l yX10_of cX10_of 3 .int 0 0 D aT ad [.ref (ad 0), .int (nI k), .int (nI w)] S (fun r => r = S 0 (29 + 4 * k + w)) := by
  refine MdI.of (by decide +kernel) rfl (Nat.le_of_ble_eq_true rfl) ?_
  intro p e s m below meth c A ls C hml hl hA hr hlocks hW
  have hl : lv_has ls 3 [(0, .ref (ad 0)), (1, .int (nI k)), (2, .int (nI w))] := hl
  have hx := C.1
  have hb := C.2.1
  refine lv_aload_n hx hb dX10_of_0 rfl (lv_at hl 0 rfl) ?_
  refine md_geta_m C hW dX10_of_1 ?_
  refine lv_bipush (v := nI 29) hx hb dX10_of_4 (by decide) ?_
  refine lv_iconst (v := nI 4) hx hb dX10_of_6 (by decide) ?_
  refine lv_iload_n hx hb dX10_of_7 rfl (lv_at hl 1 rfl) ?_
  refine r_imulN hx hb (a := 4) (b := k) dX10_of_8 ?_
  refine r_iaddN hx hb (a := 29) (b := 4 * k) dX10_of_9 ?_
  refine lv_iload_n hx hb dX10_of_10 rfl (lv_at hl 2 rfl) ?_
  refine r_iaddN hx hb (a := 29 + 4 * k) (b := w) dX10_of_11 ?_
  refine md_ald_m C hW (i := 29 + 4 * k + w) (h) dX10_of_12 ?_
  exact md_iret C hr hlocks rfl hW (⟨rfl, rfl⟩) dX10_of_13
theorem gT_find : GoodIn gw (wsV RX10 71 RX10 yX10_find (Cond.code yX10_find cX10_find 3 (some .int) :: gw)) := gdV gw_1755 gw_1757 gw_28 gw_81 gw_1758
theorem hd_find : yX10_find.cls = RX10 ∧ yX10_find.cls ≠ "java/lang/invoke/MethodHandle" ∧ yX10_find.cls ≠ "java/lang/invoke/VarHandle" ∧ (parseMethodDescriptor yX10_find.desc).map (fun d => d.parameters.length) = some 1 := ⟨rfl, by decide +kernel, by decide +kernel, by decide +kernel⟩
theorem dX10_find_0 : decode cX10_find 0 = .ok (.iconst 0, 1) := by decide +kernel
theorem dX10_find_1 : decode cX10_find 1 = .ok (.istore_n 2, 1) := by decide +kernel
theorem dX10_find_2 : decode cX10_find 2 = .ok (.iload_n 2, 1) := by decide +kernel
theorem dX10_find_3 : decode cX10_find 3 = .ok (.aload_n 0, 1) := by decide +kernel
theorem dX10_find_4 : decode cX10_find 4 = .ok (.getfield 9, 3) := by decide +kernel
theorem dX10_find_7 : decode cX10_find 7 = .ok (.iconst 2, 1) := by decide +kernel
theorem dX10_find_8 : decode cX10_find 8 = .ok (.iaload, 1) := by decide +kernel
theorem dX10_find_9 : decode cX10_find 9 = .ok (.if_icmp .ge 21, 3) := by decide +kernel
theorem dX10_find_12 : decode cX10_find 12 = .ok (.aload_n 0, 1) := by decide +kernel
theorem dX10_find_13 : decode cX10_find 13 = .ok (.iload_n 2, 1) := by decide +kernel
theorem dX10_find_14 : decode cX10_find 14 = .ok (.iconst 0, 1) := by decide +kernel
theorem dX10_find_15 : decode cX10_find 15 = .ok (.invokevirtual 67, 3) := by decide +kernel
theorem dX10_find_18 : decode cX10_find 18 = .ok (.iload_n 1, 1) := by decide +kernel
theorem dX10_find_19 : decode cX10_find 19 = .ok (.if_icmp .ne 5, 3) := by decide +kernel
theorem dX10_find_22 : decode cX10_find 22 = .ok (.iload_n 2, 1) := by decide +kernel
theorem dX10_find_23 : decode cX10_find 23 = .ok (.ireturn, 1) := by decide +kernel
theorem dX10_find_24 : decode cX10_find 24 = .ok (.iinc 2 1, 3) := by decide +kernel
theorem dX10_find_27 : decode cX10_find 27 = .ok (.goto (-25), 3) := by decide +kernel
theorem dX10_find_30 : decode cX10_find 30 = .ok (.iconst (-1), 1) := by decide +kernel
theorem dX10_find_31 : decode cX10_find 31 = .ok (.ireturn, 1) := by decide +kernel
set_option maxHeartbeats 1000000 in
set_option maxRecDepth 20000 in
theorem m_find (l : Launch) (D : va_G) (aT : Nat → ClassId) (ad : Nat → Nat) (S : MSt) (x : Int32) (n : Nat) (hn : S 0 2 = nI n) (h12 : n ≤ 12) : MdG l yX10_find cX10_find 3 .int 1 22 D aT ad [.ref (ad 0), .int x] S (fun r => r = oi (fnd (fun k => S 0 (29 + 4 * k)) x n)) := by
  refine MdI.of (by decide +kernel) rfl (Nat.le_of_ble_eq_true rfl) ?_
  intro p e s m below meth c A ls C hml hl hA hr hlocks hW
  have hl : lv_has ls 3 [(0, .ref (ad 0)), (1, .int x)] := hl
  have hx := C.1
  have hb := C.2.1
  refine lv_iconst (v := nI 0) hx hb dX10_find_0 (by decide) ?_
  refine lv_istore_n (lv' := [(2, .int (nI 0)), (0, .ref (ad 0)), (1, .int x)]) hx hb dX10_find_1 rfl hl (by decide) rfl (fun ls hl => ?_)
  refine W_loopH (σ := Nat) (fun z_ => n - z_) (fun z_ H locs g => ∃ ls, g = F0 m 2 ls [] ∧ lv_has ls 3 [(0, .ref (ad 0)), (1, .int x), (2, .int (nI z_))] ∧ MdB D aT ad S A s.heap H locs ∧ (fnd (fun k => S 0 (29 + 4 * k)) x z_ = none ∧ z_ ≤ n)) ?_ 0 _ ⟨_, rfl, lv_sub hl [1, 2, 0] rfl, hW, ⟨rfl, Nat.zero_le _⟩⟩
  clear hW hl
  rintro k H locs g ⟨ls, rfl, hl, hW, hk, hkn⟩ ih_2
  refine lv_iload_n hx hb dX10_find_2 rfl (lv_at hl 2 rfl) ?_
  refine lv_aload_n hx hb dX10_find_3 rfl (lv_at hl 0 rfl) ?_
  refine md_geta_m C hW dX10_find_4 ?_
  refine lv_iconst (v := nI 2) hx hb dX10_find_7 (by decide) ?_
  refine md_ald_m C hW (i := 2) (by omega) dX10_find_8 ?_
  refine r_eq (y := (nI n)) (hn) ?_
  refine r_geN hx hb (a := k) (b := n) (by omega) (by omega) (tgt := 30) dX10_find_9 (by decide) (fun c_9 => ?_) (fun c_9 => ?_)
  · refine lv_iconst (v := (-1)) hx hb dX10_find_30 (by decide) ?_
    exact md_iret C hr hlocks rfl hW (⟨by rw [show n = k by omega, hk]; rfl, rfl⟩) dX10_find_31
  · refine lv_aload_n hx hb dX10_find_12 rfl (lv_at hl 0 rfl) ?_
    refine lv_iload_n hx hb dX10_find_13 rfl (lv_at hl 2 rfl) ?_
    refine lv_iconst (v := nI 0) hx hb dX10_find_14 (by decide) ?_
    refine md_callg C hml hl.1 (As := [.int (nI k), .int (nI 0)]) (rest := []) (m_of l D aT ad S k 0 (by omega)) gT_of hd_of rfl ⟨Nat.le_of_ble_eq_true rfl, Nat.le_of_ble_eq_true rfl⟩ ⟨Nat.le_refl _, Nat.le_refl _⟩ hW hA rfl (Nat.le_of_ble_eq_true rfl) dX10_find_15 (fun r_15 H locs hq hW => ?_)
    subst hq
    refine lv_iload_n hx hb dX10_find_18 rfl (lv_at hl 1 rfl) ?_
    refine lv_icmp_ne hx hb (x := (S 0 (29 + 4 * k + 0))) (y := x) (tgt := 24) dX10_find_19 (by decide) (fun c_19 => ?_) (fun c_19 => ?_)
    · refine lv_iinc (v := (nI (k + 1))) (lv' := [(2, .int (nI (k + 1))), (0, .ref (ad 0)), (1, .int x)]) hx hb dX10_find_24 hl (k := 2) rfl (nI_1 _) (by decide) rfl (fun ls hl => ?_)
      refine lv_goto (tgt := 2) hx hb dX10_find_27 (by decide) ?_
      exact ih_2 (k + 1) _ _ _ (by omega) ⟨_, rfl, lv_sub hl [1, 2, 0] rfl, hW, ⟨fnd_step hk c_19, by omega⟩⟩
    · refine lv_iload_n hx hb dX10_find_22 rfl (lv_at hl 2 rfl) ?_
      exact md_iret C hr hlocks rfl hW (⟨by rw [fnd_hit hk c_19 (show k < n by omega)]; rfl, rfl⟩) dX10_find_23
theorem gT_above : GoodIn gw (wsV RX10 75 RX10 yX10_above (Cond.code yX10_above cX10_above 2 (some .int) :: gw)) := gdV gw_1775 gw_1777 gw_32 gw_81 gw_1778
theorem hd_above : yX10_above.cls = RX10 ∧ yX10_above.cls ≠ "java/lang/invoke/MethodHandle" ∧ yX10_above.cls ≠ "java/lang/invoke/VarHandle" ∧ (parseMethodDescriptor yX10_above.desc).map (fun d => d.parameters.length) = some 1 := ⟨rfl, by decide +kernel, by decide +kernel, by decide +kernel⟩
theorem dX10_above_0 : decode cX10_above 0 = .ok (.aload_n 0, 1) := by decide +kernel
theorem dX10_above_1 : decode cX10_above 1 = .ok (.iload_n 1, 1) := by decide +kernel
theorem dX10_above_2 : decode cX10_above 2 = .ok (.iconst 1, 1) := by decide +kernel
theorem dX10_above_3 : decode cX10_above 3 = .ok (.invokevirtual 67, 3) := by decide +kernel
theorem dX10_above_6 : decode cX10_above 6 = .ok (.iconst (-1), 1) := by decide +kernel
theorem dX10_above_7 : decode cX10_above 7 = .ok (.if_icmp .ne 7, 3) := by decide +kernel
theorem dX10_above_10 : decode cX10_above 10 = .ok (.iconst (-1), 1) := by decide +kernel
theorem dX10_above_11 : decode cX10_above 11 = .ok (.goto 13, 3) := by decide +kernel
theorem dX10_above_14 : decode cX10_above 14 = .ok (.aload_n 0, 1) := by decide +kernel
theorem dX10_above_15 : decode cX10_above 15 = .ok (.aload_n 0, 1) := by decide +kernel
theorem dX10_above_16 : decode cX10_above 16 = .ok (.iload_n 1, 1) := by decide +kernel
theorem dX10_above_17 : decode cX10_above 17 = .ok (.iconst 1, 1) := by decide +kernel
theorem dX10_above_18 : decode cX10_above 18 = .ok (.invokevirtual 67, 3) := by decide +kernel
theorem dX10_above_21 : decode cX10_above 21 = .ok (.invokevirtual 71, 3) := by decide +kernel
theorem dX10_above_24 : decode cX10_above 24 = .ok (.ireturn, 1) := by decide +kernel
set_option maxHeartbeats 1000000 in
set_option maxRecDepth 20000 in
theorem m_above (l : Launch) (D : va_G) (aT : Nat → ClassId) (ad : Nat → Nat) (S : MSt) (n : Nat) (idn : Nat → Nat) (pr : Nat → Option Nat) (tn : Nat → Nat) (hF : FoR (S 0) n idn pr tn) (k : Nat) (hk : k < n) : MdG l yX10_above cX10_above 2 .int 2 44 D aT ad [.ref (ad 0), .int (nI k)] S (fun r => r = oi (pr k)) := by
  refine MdI.of (by decide +kernel) rfl (Nat.le_of_ble_eq_true rfl) ?_
  intro p e s m below meth c A ls C hml hl hA hr hlocks hW
  have hl : lv_has ls 2 [(0, .ref (ad 0)), (1, .int (nI k))] := hl
  have hx := C.1
  have hb := C.2.1
  refine lv_aload_n hx hb dX10_above_0 rfl (lv_at hl 0 rfl) ?_
  refine lv_iload_n hx hb dX10_above_1 rfl (lv_at hl 1 rfl) ?_
  refine lv_iconst (v := nI 1) hx hb dX10_above_2 (by decide) ?_
  refine md_callg C hml hl.1 (As := [.int (nI k), .int (nI 1)]) (rest := []) (m_of l D aT ad S k 1 (by have := hF.2.1; omega)) gT_of hd_of rfl ⟨Nat.le_of_ble_eq_true rfl, Nat.le_of_ble_eq_true rfl⟩ ⟨Nat.le_refl _, Nat.le_refl _⟩ hW hA rfl (Nat.le_of_ble_eq_true rfl) dX10_above_3 (fun r_3 H locs hq hW => ?_)
  subst hq
  refine r_eq (y := (oi ((pr k).map idn))) (hF.2.2.2.1 k hk) ?_
  refine lv_iconst (v := (-1)) hx hb dX10_above_6 (by decide) ?_
  refine r_oi_ne hx hb (o := ((pr k).map idn)) (hF.pid hk) (tgt := 14) dX10_above_7 (by decide) (fun j_7 c_7 => ?_) (fun c_7 => ?_)
  · refine lv_aload_n hx hb dX10_above_14 rfl (lv_at hl 0 rfl) ?_
    refine lv_aload_n hx hb dX10_above_15 rfl (lv_at hl 0 rfl) ?_
    refine lv_iload_n hx hb dX10_above_16 rfl (lv_at hl 1 rfl) ?_
    refine lv_iconst (v := nI 1) hx hb dX10_above_17 (by decide) ?_
    refine md_callg C hml hl.1 (As := [.int (nI k), .int (nI 1)]) (rest := [.ref (ad 0)]) (m_of l D aT ad S k 1 (by have := hF.2.1; omega)) gT_of hd_of rfl ⟨Nat.le_of_ble_eq_true rfl, Nat.le_of_ble_eq_true rfl⟩ ⟨Nat.le_refl _, Nat.le_refl _⟩ hW hA rfl (Nat.le_of_ble_eq_true rfl) dX10_above_18 (fun r_18 H locs hq hW => ?_)
    subst hq
    refine r_eq (y := (oi ((pr k).map idn))) (hF.2.2.2.1 k hk) ?_
    refine md_callg C hml hl.1 (As := [.int (oi ((pr k).map idn))]) (rest := []) (m_find l D aT ad S ((oi ((pr k).map idn))) n hF.1 hF.2.1) gT_find hd_find rfl ⟨Nat.le_of_ble_eq_true rfl, Nat.le_of_ble_eq_true rfl⟩ ⟨Nat.le_refl _, Nat.le_refl _⟩ hW hA rfl (Nat.le_of_ble_eq_true rfl) dX10_above_21 (fun r_21 H locs hq hW => ?_)
    subst hq
    exact md_iret C hr hlocks rfl hW (⟨by rw [hF.findPar hk c_7], rfl⟩) dX10_above_24
  · refine lv_iconst (v := (-1)) hx hb dX10_above_10 (by decide) ?_
    refine lv_goto (tgt := 24) hx hb dX10_above_11 (by decide) ?_
    exact md_iret C hr hlocks rfl hW (⟨by rw [show pr k = none by simpa using c_7]; rfl, rfl⟩) dX10_above_24
theorem gT_deep : GoodIn gw (wsV RX10 125 RX10 yX10_deep (Cond.code yX10_deep cX10_deep 4 (some .int) :: gw)) := gdV gw_1771 gw_1773 gw_31 gw_81 gw_1774
theorem hd_deep : yX10_deep.cls = RX10 ∧ yX10_deep.cls ≠ "java/lang/invoke/MethodHandle" ∧ yX10_deep.cls ≠ "java/lang/invoke/VarHandle" ∧ (parseMethodDescriptor yX10_deep.desc).map (fun d => d.parameters.length) = some 1 := ⟨rfl, by decide +kernel, by decide +kernel, by decide +kernel⟩
theorem dX10_deep_0 : decode cX10_deep 0 = .ok (.iconst 0, 1) := by decide +kernel
theorem dX10_deep_1 : decode cX10_deep 1 = .ok (.istore_n 2, 1) := by decide +kernel
theorem dX10_deep_2 : decode cX10_deep 2 = .ok (.aload_n 0, 1) := by decide +kernel
theorem dX10_deep_3 : decode cX10_deep 3 = .ok (.iload_n 1, 1) := by decide +kernel
theorem dX10_deep_4 : decode cX10_deep 4 = .ok (.invokevirtual 75, 3) := by decide +kernel
theorem dX10_deep_7 : decode cX10_deep 7 = .ok (.istore_n 3, 1) := by decide +kernel
theorem dX10_deep_8 : decode cX10_deep 8 = .ok (.iload_n 3, 1) := by decide +kernel
theorem dX10_deep_9 : decode cX10_deep 9 = .ok (.iconst (-1), 1) := by decide +kernel
theorem dX10_deep_10 : decode cX10_deep 10 = .ok (.if_icmp .eq 15, 3) := by decide +kernel
theorem dX10_deep_13 : decode cX10_deep 13 = .ok (.aload_n 0, 1) := by decide +kernel
theorem dX10_deep_14 : decode cX10_deep 14 = .ok (.iload_n 3, 1) := by decide +kernel
theorem dX10_deep_15 : decode cX10_deep 15 = .ok (.invokevirtual 75, 3) := by decide +kernel
theorem dX10_deep_18 : decode cX10_deep 18 = .ok (.istore_n 3, 1) := by decide +kernel
theorem dX10_deep_19 : decode cX10_deep 19 = .ok (.iinc 2 1, 3) := by decide +kernel
theorem dX10_deep_22 : decode cX10_deep 22 = .ok (.goto (-14), 3) := by decide +kernel
theorem dX10_deep_25 : decode cX10_deep 25 = .ok (.iload_n 2, 1) := by decide +kernel
theorem dX10_deep_26 : decode cX10_deep 26 = .ok (.ireturn, 1) := by decide +kernel
set_option maxHeartbeats 1000000 in
set_option maxRecDepth 20000 in
theorem m_deep (l : Launch) (D : va_G) (aT : Nat → ClassId) (ad : Nat → Nat) (S : MSt) (n : Nat) (idn : Nat → Nat) (pr : Nat → Option Nat) (tn : Nat → Nat) (hF : FoR (S 0) n idn pr tn) (k : Nat) (hk : k < n) : MdG l yX10_deep cX10_deep 4 .int 3 65 D aT ad [.ref (ad 0), .int (nI k)] S (fun r => r = nI (dep pr k)) := by
  refine MdI.of (by decide +kernel) rfl (Nat.le_of_ble_eq_true rfl) ?_
  intro p e s m below meth c A ls C hml hl hA hr hlocks hW
  have hl : lv_has ls 4 [(0, .ref (ad 0)), (1, .int (nI k))] := hl
  have hx := C.1
  have hb := C.2.1
  refine lv_iconst (v := nI 0) hx hb dX10_deep_0 (by decide) ?_
  refine lv_istore_n (lv' := [(2, .int (nI 0)), (0, .ref (ad 0)), (1, .int (nI k))]) hx hb dX10_deep_1 rfl hl (by decide) rfl (fun ls hl => ?_)
  refine lv_aload_n hx hb dX10_deep_2 rfl (lv_at hl 1 rfl) ?_
  refine lv_iload_n hx hb dX10_deep_3 rfl (lv_at hl 2 rfl) ?_
  refine md_callg C hml hl.1 (As := [.int (nI k)]) (rest := []) (m_above l D aT ad S n idn pr tn hF k (hk)) gT_above hd_above rfl ⟨Nat.le_of_ble_eq_true rfl, Nat.le_of_ble_eq_true rfl⟩ ⟨Nat.le_refl _, Nat.le_refl _⟩ hW hA rfl (Nat.le_of_ble_eq_true rfl) dX10_deep_4 (fun r_4 H locs hq hW => ?_)
  subst hq
  refine lv_istore_n (lv' := [(3, .int (oi (pr k))), (2, .int (nI 0)), (0, .ref (ad 0)), (1, .int (nI k))]) hx hb dX10_deep_7 rfl hl (by decide) rfl (fun ls hl => ?_)
  refine W_loopH (σ := Nat × Option Nat) (fun z_ => oM z_.2) (fun z_ H locs g => ∃ ls, g = F0 m 8 ls [] ∧ lv_has ls 4 [(0, .ref (ad 0)), (1, .int (nI k)), (2, .int (nI z_.1)), (3, .int (oi z_.2))] ∧ MdB D aT ad S A s.heap H locs ∧ (z_.1 + depO pr z_.2 = dep pr k ∧ ∀ j, z_.2 = some j → j < n)) ?_ (0, (pr k)) _ ⟨_, rfl, lv_sub hl [2, 3, 1, 0] rfl, hW, ⟨by rw [Nat.zero_add, dep_O hF.ok hk], fun j hj => hF.par hk hj⟩⟩
  clear hW hl
  rintro ⟨c0, o⟩ H locs g ⟨ls, rfl, hl, hW, hc, hlim⟩ ih_8
  dsimp only at hl hW hc hlim ⊢
  refine lv_iload_n hx hb dX10_deep_8 rfl (lv_at hl 3 rfl) ?_
  refine lv_iconst (v := (-1)) hx hb dX10_deep_9 (by decide) ?_
  refine r_oi_eq hx hb (o := o) (fun j hj => by have := hlim j hj; have := hF.2.1; omega) (tgt := 25) dX10_deep_10 (by decide) (fun c_10 => ?_) (fun j_10 c_10 => ?_)
  · subst c_10
    have hl : lv_has ls 4 [(0, .ref (ad 0)), (1, .int (nI k)), (2, .int (nI c0)), (3, .int (-1))] := hl
    refine lv_iload_n hx hb dX10_deep_25 rfl (lv_at hl 2 rfl) ?_
    exact md_iret C hr hlocks rfl hW (⟨by rw [← hc]; rfl, rfl⟩) dX10_deep_26
  · subst c_10
    have hl : lv_has ls 4 [(0, .ref (ad 0)), (1, .int (nI k)), (2, .int (nI c0)), (3, .int (nI j_10))] := hl
    refine lv_aload_n hx hb dX10_deep_13 rfl (lv_at hl 0 rfl) ?_
    refine lv_iload_n hx hb dX10_deep_14 rfl (lv_at hl 3 rfl) ?_
    refine md_callg C hml hl.1 (As := [.int (nI j_10)]) (rest := []) (m_above l D aT ad S n idn pr tn hF j_10 (hlim _ rfl)) gT_above hd_above rfl ⟨Nat.le_of_ble_eq_true rfl, Nat.le_of_ble_eq_true rfl⟩ ⟨Nat.le_refl _, Nat.le_refl _⟩ hW hA rfl (Nat.le_of_ble_eq_true rfl) dX10_deep_15 (fun r_15 H locs hq hW => ?_)
    subst hq
    refine lv_istore_n (lv' := [(3, .int (oi (pr j_10))), (0, .ref (ad 0)), (1, .int (nI k)), (2, .int (nI c0))]) hx hb dX10_deep_18 rfl hl (by decide) rfl (fun ls hl => ?_)
    refine lv_iinc (v := (nI (c0 + 1))) (lv' := [(2, .int (nI (c0 + 1))), (3, .int (oi (pr j_10))), (0, .ref (ad 0)), (1, .int (nI k))]) hx hb dX10_deep_19 hl (k := 3) rfl (nI_1 _) (by decide) rfl (fun ls hl => ?_)
    refine lv_goto (tgt := 8) hx hb dX10_deep_22 (by decide) ?_
    exact ih_8 ((c0 + 1), (pr j_10)) _ _ _ (oM_lt hF.ok (hlim _ rfl)) ⟨_, rfl, lv_sub hl [2, 3, 0, 1] rfl, hW, ⟨by rw [← hc, ← dep_O hF.ok (hlim _ rfl)]; simp only [depO]; omega, fun j hj => hF.par (hlim _ rfl) hj⟩⟩
theorem gT_isTipAt : GoodIn gw (wsV RX10 82 RX10 yX10_isTipAt (Cond.code yX10_isTipAt cX10_isTipAt 4 (some .boolean) :: gw)) := gdV gw_1799 gw_1801 gw_37 gw_81 gw_1802
theorem hd_isTipAt : yX10_isTipAt.cls = RX10 ∧ yX10_isTipAt.cls ≠ "java/lang/invoke/MethodHandle" ∧ yX10_isTipAt.cls ≠ "java/lang/invoke/VarHandle" ∧ (parseMethodDescriptor yX10_isTipAt.desc).map (fun d => d.parameters.length) = some 1 := ⟨rfl, by decide +kernel, by decide +kernel, by decide +kernel⟩
theorem dX10_isTipAt_0 : decode cX10_isTipAt 0 = .ok (.iconst 1, 1) := by decide +kernel
theorem dX10_isTipAt_1 : decode cX10_isTipAt 1 = .ok (.istore_n 2, 1) := by decide +kernel
theorem dX10_isTipAt_2 : decode cX10_isTipAt 2 = .ok (.iconst 0, 1) := by decide +kernel
theorem dX10_isTipAt_3 : decode cX10_isTipAt 3 = .ok (.istore_n 3, 1) := by decide +kernel
theorem dX10_isTipAt_4 : decode cX10_isTipAt 4 = .ok (.iload_n 3, 1) := by decide +kernel
theorem dX10_isTipAt_5 : decode cX10_isTipAt 5 = .ok (.aload_n 0, 1) := by decide +kernel
theorem dX10_isTipAt_6 : decode cX10_isTipAt 6 = .ok (.getfield 9, 3) := by decide +kernel
theorem dX10_isTipAt_9 : decode cX10_isTipAt 9 = .ok (.iconst 2, 1) := by decide +kernel
theorem dX10_isTipAt_10 : decode cX10_isTipAt 10 = .ok (.iaload, 1) := by decide +kernel
theorem dX10_isTipAt_11 : decode cX10_isTipAt 11 = .ok (.if_icmp .ge 28, 3) := by decide +kernel
theorem dX10_isTipAt_14 : decode cX10_isTipAt 14 = .ok (.iload_n 2, 1) := by decide +kernel
theorem dX10_isTipAt_15 : decode cX10_isTipAt 15 = .ok (.ifCond .eq 16, 3) := by decide +kernel
theorem dX10_isTipAt_18 : decode cX10_isTipAt 18 = .ok (.aload_n 0, 1) := by decide +kernel
theorem dX10_isTipAt_19 : decode cX10_isTipAt 19 = .ok (.iload_n 3, 1) := by decide +kernel
theorem dX10_isTipAt_20 : decode cX10_isTipAt 20 = .ok (.invokevirtual 75, 3) := by decide +kernel
theorem dX10_isTipAt_23 : decode cX10_isTipAt 23 = .ok (.iload_n 1, 1) := by decide +kernel
theorem dX10_isTipAt_24 : decode cX10_isTipAt 24 = .ok (.if_icmp .eq 7, 3) := by decide +kernel
theorem dX10_isTipAt_27 : decode cX10_isTipAt 27 = .ok (.iconst 1, 1) := by decide +kernel
theorem dX10_isTipAt_28 : decode cX10_isTipAt 28 = .ok (.goto 4, 3) := by decide +kernel
theorem dX10_isTipAt_31 : decode cX10_isTipAt 31 = .ok (.iconst 0, 1) := by decide +kernel
theorem dX10_isTipAt_32 : decode cX10_isTipAt 32 = .ok (.istore_n 2, 1) := by decide +kernel
theorem dX10_isTipAt_33 : decode cX10_isTipAt 33 = .ok (.iinc 3 1, 3) := by decide +kernel
theorem dX10_isTipAt_36 : decode cX10_isTipAt 36 = .ok (.goto (-32), 3) := by decide +kernel
theorem dX10_isTipAt_39 : decode cX10_isTipAt 39 = .ok (.iload_n 2, 1) := by decide +kernel
theorem dX10_isTipAt_40 : decode cX10_isTipAt 40 = .ok (.ireturn, 1) := by decide +kernel
set_option maxHeartbeats 1000000 in
set_option maxRecDepth 20000 in
theorem m_isTipAt (l : Launch) (D : va_G) (aT : Nat → ClassId) (ad : Nat → Nat) (S : MSt) (n : Nat) (idn : Nat → Nat) (pr : Nat → Option Nat) (tn : Nat → Nat) (hF : FoR (S 0) n idn pr tn) (q : Nat) (hq12 : q < n) : MdG l yX10_isTipAt cX10_isTipAt 4 .boolean 3 65 D aT ad [.ref (ad 0), .int (nI q)] S (fun r => r = bI (tipB pr q n)) := by
  refine MdI.of (by decide +kernel) rfl (Nat.le_of_ble_eq_true rfl) ?_
  intro p e s m below meth c A ls C hml hl hA hr hlocks hW
  have hl : lv_has ls 4 [(0, .ref (ad 0)), (1, .int (nI q))] := hl
  have hx := C.1
  have hb := C.2.1
  refine lv_iconst (v := nI 1) hx hb dX10_isTipAt_0 (by decide) ?_
  refine lv_istore_n (lv' := [(2, .int (nI 1)), (0, .ref (ad 0)), (1, .int (nI q))]) hx hb dX10_isTipAt_1 rfl hl (by decide) rfl (fun ls hl => ?_)
  refine lv_iconst (v := nI 0) hx hb dX10_isTipAt_2 (by decide) ?_
  refine lv_istore_n (lv' := [(3, .int (nI 0)), (2, .int (nI 1)), (0, .ref (ad 0)), (1, .int (nI q))]) hx hb dX10_isTipAt_3 rfl hl (by decide) rfl (fun ls hl => ?_)
  refine W_loopH (σ := Bool × Nat) (fun z_ => n - z_.2) (fun z_ H locs g => ∃ ls, g = F0 m 4 ls [] ∧ lv_has ls 4 [(0, .ref (ad 0)), (1, .int (nI q)), (2, .int (bI z_.1)), (3, .int (nI z_.2))] ∧ MdB D aT ad S A s.heap H locs ∧ (z_.1 = tipB pr q z_.2 ∧ z_.2 ≤ n)) ?_ (true, 0) _ ⟨_, rfl, lv_sub hl [2, 3, 1, 0] rfl, hW, ⟨rfl, Nat.zero_le _⟩⟩
  clear hW hl
  rintro ⟨b, k⟩ H locs g ⟨ls, rfl, hl, hW, hi, hkn⟩ ih_4
  dsimp only at hl hW hi hkn ⊢
  refine lv_iload_n hx hb dX10_isTipAt_4 rfl (lv_at hl 3 rfl) ?_
  refine lv_aload_n hx hb dX10_isTipAt_5 rfl (lv_at hl 0 rfl) ?_
  refine md_geta_m C hW dX10_isTipAt_6 ?_
  refine lv_iconst (v := nI 2) hx hb dX10_isTipAt_9 (by decide) ?_
  refine md_ald_m C hW (i := 2) (by omega) dX10_isTipAt_10 ?_
  refine r_eq (y := (nI n)) (hF.1) ?_
  refine r_geN hx hb (a := k) (b := n) (by have := hF.2.1; omega) (by have := hF.2.1; omega) (tgt := 39) dX10_isTipAt_11 (by decide) (fun c_11 => ?_) (fun c_11 => ?_)
  · refine lv_iload_n hx hb dX10_isTipAt_39 rfl (lv_at hl 2 rfl) ?_
    exact md_iret C hr hlocks (bI_nar _) hW (⟨by rw [show n = k by omega, hi], rfl⟩) dX10_isTipAt_40
  · refine lv_iload_n hx hb dX10_isTipAt_14 rfl (lv_at hl 2 rfl) ?_
    refine r_bI_eq hx hb (b := b) (tgt := 31) dX10_isTipAt_15 (by decide) (fun c_15 => ?_) (fun c_15 => ?_)
    · refine lv_iconst (v := nI 0) hx hb dX10_isTipAt_31 (by decide) ?_
      refine lv_istore_n (lv' := [(2, .int (nI 0)), (0, .ref (ad 0)), (1, .int (nI q)), (3, .int (nI k))]) hx hb dX10_isTipAt_32 rfl hl (by decide) rfl (fun ls hl => ?_)
      refine lv_iinc (v := (nI (k + 1))) (lv' := [(3, .int (nI (k + 1))), (2, .int (nI 0)), (0, .ref (ad 0)), (1, .int (nI q))]) hx hb dX10_isTipAt_33 hl (k := 3) rfl (nI_1 _) (by decide) rfl (fun ls hl => ?_)
      refine lv_goto (tgt := 4) hx hb dX10_isTipAt_36 (by decide) ?_
      exact ih_4 (false, (k + 1)) _ _ _ (by dsimp only; omega) ⟨_, rfl, lv_sub hl [2, 3, 1, 0] rfl, hW, ⟨by rw [tipB, ← hi, c_15]; rfl, by omega⟩⟩
    · refine lv_aload_n hx hb dX10_isTipAt_18 rfl (lv_at hl 0 rfl) ?_
      refine lv_iload_n hx hb dX10_isTipAt_19 rfl (lv_at hl 3 rfl) ?_
      refine md_callg C hml hl.1 (As := [.int (nI k)]) (rest := []) (m_above l D aT ad S n idn pr tn hF k (by omega)) gT_above hd_above rfl ⟨Nat.le_of_ble_eq_true rfl, Nat.le_of_ble_eq_true rfl⟩ ⟨Nat.le_refl _, Nat.le_refl _⟩ hW hA rfl (Nat.le_of_ble_eq_true rfl) dX10_isTipAt_20 (fun r_20 H locs hq hW => ?_)
      subst hq
      refine lv_iload_n hx hb dX10_isTipAt_23 rfl (lv_at hl 1 rfl) ?_
      refine r_on_eq hx hb (o := (pr k)) (q := q) (hF.plim (by omega)) (by have := hF.2.1; omega) (tgt := 31) dX10_isTipAt_24 (by decide) (fun c_24 => ?_) (fun c_24 => ?_)
      · refine lv_iconst (v := nI 0) hx hb dX10_isTipAt_31 (by decide) ?_
        refine lv_istore_n (lv' := [(2, .int (nI 0)), (0, .ref (ad 0)), (1, .int (nI q)), (3, .int (nI k))]) hx hb dX10_isTipAt_32 rfl hl (by decide) rfl (fun ls hl => ?_)
        refine lv_iinc (v := (nI (k + 1))) (lv' := [(3, .int (nI (k + 1))), (2, .int (nI 0)), (0, .ref (ad 0)), (1, .int (nI q))]) hx hb dX10_isTipAt_33 hl (k := 3) rfl (nI_1 _) (by decide) rfl (fun ls hl => ?_)
        refine lv_goto (tgt := 4) hx hb dX10_isTipAt_36 (by decide) ?_
        exact ih_4 (false, (k + 1)) _ _ _ (by dsimp only; omega) ⟨_, rfl, lv_sub hl [2, 3, 1, 0] rfl, hW, ⟨by rw [tipB, c_24]; simp, by omega⟩⟩
      · refine lv_iconst (v := nI 1) hx hb dX10_isTipAt_27 (by decide) ?_
        refine lv_goto (tgt := 32) hx hb dX10_isTipAt_28 (by decide) ?_
        refine lv_istore_n (lv' := [(2, .int (nI 1)), (0, .ref (ad 0)), (1, .int (nI q)), (3, .int (nI k))]) hx hb dX10_isTipAt_32 rfl hl (by decide) rfl (fun ls hl => ?_)
        refine lv_iinc (v := (nI (k + 1))) (lv' := [(3, .int (nI (k + 1))), (2, .int (nI 1)), (0, .ref (ad 0)), (1, .int (nI q))]) hx hb dX10_isTipAt_33 hl (k := 3) rfl (nI_1 _) (by decide) rfl (fun ls hl => ?_)
        refine lv_goto (tgt := 4) hx hb dX10_isTipAt_36 (by decide) ?_
        exact ih_4 (true, (k + 1)) _ _ _ (by dsimp only; omega) ⟨_, rfl, lv_sub hl [2, 3, 1, 0] rfl, hW, ⟨by rw [tipB, ← hi, c_15]; simp [c_24], by omega⟩⟩
theorem gT_isIn : GoodIn gw (wsV RX10 78 RX10 yX10_isIn (Cond.code yX10_isIn cX10_isIn 4 (some .boolean) :: gw)) := gdV gw_1779 gw_1781 gw_33 gw_81 gw_1782
theorem hd_isIn : yX10_isIn.cls = RX10 ∧ yX10_isIn.cls ≠ "java/lang/invoke/MethodHandle" ∧ yX10_isIn.cls ≠ "java/lang/invoke/VarHandle" ∧ (parseMethodDescriptor yX10_isIn.desc).map (fun d => d.parameters.length) = some 2 := ⟨rfl, by decide +kernel, by decide +kernel, by decide +kernel⟩
theorem dX10_isIn_0 : decode cX10_isIn 0 = .ok (.iload_n 1, 1) := by decide +kernel
theorem dX10_isIn_1 : decode cX10_isIn 1 = .ok (.istore_n 3, 1) := by decide +kernel
theorem dX10_isIn_2 : decode cX10_isIn 2 = .ok (.iload_n 3, 1) := by decide +kernel
theorem dX10_isIn_3 : decode cX10_isIn 3 = .ok (.iconst (-1), 1) := by decide +kernel
theorem dX10_isIn_4 : decode cX10_isIn 4 = .ok (.if_icmp .eq 17, 3) := by decide +kernel
theorem dX10_isIn_7 : decode cX10_isIn 7 = .ok (.iload_n 3, 1) := by decide +kernel
theorem dX10_isIn_8 : decode cX10_isIn 8 = .ok (.iload_n 2, 1) := by decide +kernel
theorem dX10_isIn_9 : decode cX10_isIn 9 = .ok (.if_icmp .eq 12, 3) := by decide +kernel
theorem dX10_isIn_12 : decode cX10_isIn 12 = .ok (.aload_n 0, 1) := by decide +kernel
theorem dX10_isIn_13 : decode cX10_isIn 13 = .ok (.iload_n 3, 1) := by decide +kernel
theorem dX10_isIn_14 : decode cX10_isIn 14 = .ok (.invokevirtual 75, 3) := by decide +kernel
theorem dX10_isIn_17 : decode cX10_isIn 17 = .ok (.istore_n 3, 1) := by decide +kernel
theorem dX10_isIn_18 : decode cX10_isIn 18 = .ok (.goto (-16), 3) := by decide +kernel
theorem dX10_isIn_21 : decode cX10_isIn 21 = .ok (.iload_n 3, 1) := by decide +kernel
theorem dX10_isIn_22 : decode cX10_isIn 22 = .ok (.iload_n 2, 1) := by decide +kernel
theorem dX10_isIn_23 : decode cX10_isIn 23 = .ok (.if_icmp .ne 7, 3) := by decide +kernel
theorem dX10_isIn_26 : decode cX10_isIn 26 = .ok (.iconst 1, 1) := by decide +kernel
theorem dX10_isIn_27 : decode cX10_isIn 27 = .ok (.goto 4, 3) := by decide +kernel
theorem dX10_isIn_30 : decode cX10_isIn 30 = .ok (.iconst 0, 1) := by decide +kernel
theorem dX10_isIn_31 : decode cX10_isIn 31 = .ok (.ireturn, 1) := by decide +kernel
set_option maxHeartbeats 1000000 in
set_option maxRecDepth 20000 in
theorem m_isIn (l : Launch) (D : va_G) (aT : Nat → ClassId) (ad : Nat → Nat) (S : MSt) (n : Nat) (idn : Nat → Nat) (pr : Nat → Option Nat) (tn : Nat → Nat) (hF : FoR (S 0) n idn pr tn) (k r : Nat) (hk : k < n) (hr12 : r < n) : MdG l yX10_isIn cX10_isIn 4 .boolean 3 65 D aT ad [.ref (ad 0), .int (nI k), .int (nI r)] S (fun q => q = bI (anc pr r k)) := by
  refine MdI.of (by decide +kernel) rfl (Nat.le_of_ble_eq_true rfl) ?_
  intro p e s m below meth c A ls C hml hl hA hr hlocks hW
  have hl : lv_has ls 4 [(0, .ref (ad 0)), (1, .int (nI k)), (2, .int (nI r))] := hl
  have hx := C.1
  have hb := C.2.1
  refine lv_iload_n hx hb dX10_isIn_0 rfl (lv_at hl 1 rfl) ?_
  refine lv_istore_n (lv' := [(3, .int (nI k)), (0, .ref (ad 0)), (1, .int (nI k)), (2, .int (nI r))]) hx hb dX10_isIn_1 rfl hl (by decide) rfl (fun ls hl => ?_)
  refine W_loopH (σ := Option Nat) (fun z_ => oM z_) (fun z_ H locs g => ∃ ls, g = F0 m 2 ls [] ∧ lv_has ls 4 [(0, .ref (ad 0)), (1, .int (nI k)), (2, .int (nI r)), (3, .int (oi z_))] ∧ MdB D aT ad S A s.heap H locs ∧ (ancO pr r z_ = anc pr r k ∧ ∀ j, z_ = some j → j < n)) ?_ (some k) _ ⟨_, rfl, lv_sub hl [1, 2, 3, 0] rfl, hW, ⟨rfl, fun j hj => by cases hj; exact hk⟩⟩
  clear hW hl
  rintro o H locs g ⟨ls, rfl, hl, hW, hi, hlim⟩ ih_2
  refine lv_iload_n hx hb dX10_isIn_2 rfl (lv_at hl 3 rfl) ?_
  refine lv_iconst (v := (-1)) hx hb dX10_isIn_3 (by decide) ?_
  refine r_oi_eq hx hb (o := o) (fun j hj => by have := hlim j hj; have := hF.2.1; omega) (tgt := 21) dX10_isIn_4 (by decide) (fun c_4 => ?_) (fun j_4 c_4 => ?_)
  · subst c_4
    have hl : lv_has ls 4 [(0, .ref (ad 0)), (1, .int (nI k)), (2, .int (nI r)), (3, .int (-1))] := hl
    refine lv_iload_n hx hb dX10_isIn_21 rfl (lv_at hl 3 rfl) ?_
    refine lv_iload_n hx hb dX10_isIn_22 rfl (lv_at hl 2 rfl) ?_
    refine lv_icmp_ne hx hb (x := (-1)) (y := (nI r)) (tgt := 30) dX10_isIn_23 (by decide) (fun c_23 => ?_) (fun c_23 => ?_)
    · refine lv_iconst (v := nI 0) hx hb dX10_isIn_30 (by decide) ?_
      exact md_iret C hr hlocks (by decide) hW (⟨by rw [← hi]; rfl, rfl⟩) dX10_isIn_31
    · exact (nI_m1 (by have := hF.2.1; omega) c_23).elim
  · subst c_4
    have hl : lv_has ls 4 [(0, .ref (ad 0)), (1, .int (nI k)), (2, .int (nI r)), (3, .int (nI j_4))] := hl
    refine lv_iload_n hx hb dX10_isIn_7 rfl (lv_at hl 3 rfl) ?_
    refine lv_iload_n hx hb dX10_isIn_8 rfl (lv_at hl 2 rfl) ?_
    refine r_eqN hx hb (a := j_4) (b := r) (by have := hlim _ rfl; have := hF.2.1; omega) (by have := hlim _ rfl; have := hF.2.1; omega) (tgt := 21) dX10_isIn_9 (by decide) (fun c_9 => ?_) (fun c_9 => ?_)
    · have hlim9 := hlim _ rfl
      refine lv_iload_n hx hb dX10_isIn_21 rfl (lv_at hl 3 rfl) ?_
      refine lv_iload_n hx hb dX10_isIn_22 rfl (lv_at hl 2 rfl) ?_
      refine r_neN hx hb (a := j_4) (b := r) (by have := hF.2.1; omega) (by have := hF.2.1; omega) (tgt := 30) dX10_isIn_23 (by decide) (fun c_23 => ?_) (fun c_23 => ?_)
      · exact absurd c_9 c_23
      · refine lv_iconst (v := nI 1) hx hb dX10_isIn_26 (by decide) ?_
        refine lv_goto (tgt := 31) hx hb dX10_isIn_27 (by decide) ?_
        exact md_iret C hr hlocks (by decide) hW (⟨by rw [← hi, c_9]; simp [ancO, anc_self, bI]; rfl, rfl⟩) dX10_isIn_31
    · have hlim9 := hlim _ rfl
      refine lv_aload_n hx hb dX10_isIn_12 rfl (lv_at hl 0 rfl) ?_
      refine lv_iload_n hx hb dX10_isIn_13 rfl (lv_at hl 3 rfl) ?_
      refine md_callg C hml hl.1 (As := [.int (nI j_4)]) (rest := []) (m_above l D aT ad S n idn pr tn hF j_4 (hlim _ rfl)) gT_above hd_above rfl ⟨Nat.le_of_ble_eq_true rfl, Nat.le_of_ble_eq_true rfl⟩ ⟨Nat.le_refl _, Nat.le_refl _⟩ hW hA rfl (Nat.le_of_ble_eq_true rfl) dX10_isIn_14 (fun r_14 H locs hq hW => ?_)
      subst hq
      refine lv_istore_n (lv' := [(3, .int (oi (pr j_4))), (0, .ref (ad 0)), (1, .int (nI k)), (2, .int (nI r))]) hx hb dX10_isIn_17 rfl hl (by decide) rfl (fun ls hl => ?_)
      refine lv_goto (tgt := 2) hx hb dX10_isIn_18 (by decide) ?_
      exact ih_2 (pr j_4) _ _ _ (oM_lt hF.ok (hlim _ rfl)) ⟨_, rfl, lv_sub hl [1, 2, 3, 0] rfl, hW, ⟨by rw [← hi]; exact (anc_O hF.ok (hlim _ rfl) c_9).symm, fun j hj => hF.par (hlim _ rfl) hj⟩⟩
theorem gT_lastTipAt : GoodIn gw (wsV RX10 135 RX10 yX10_lastTipAt (Cond.code yX10_lastTipAt cX10_lastTipAt 4 (some .int) :: gw)) := gdV gw_1795 gw_1797 gw_36 gw_81 gw_1798
theorem hd_lastTipAt : yX10_lastTipAt.cls = RX10 ∧ yX10_lastTipAt.cls ≠ "java/lang/invoke/MethodHandle" ∧ yX10_lastTipAt.cls ≠ "java/lang/invoke/VarHandle" ∧ (parseMethodDescriptor yX10_lastTipAt.desc).map (fun d => d.parameters.length) = some 1 := ⟨rfl, by decide +kernel, by decide +kernel, by decide +kernel⟩
theorem dX10_lastTipAt_0 : decode cX10_lastTipAt 0 = .ok (.iconst (-1), 1) := by decide +kernel
theorem dX10_lastTipAt_1 : decode cX10_lastTipAt 1 = .ok (.istore_n 2, 1) := by decide +kernel
theorem dX10_lastTipAt_2 : decode cX10_lastTipAt 2 = .ok (.iconst 0, 1) := by decide +kernel
theorem dX10_lastTipAt_3 : decode cX10_lastTipAt 3 = .ok (.istore_n 3, 1) := by decide +kernel
theorem dX10_lastTipAt_4 : decode cX10_lastTipAt 4 = .ok (.iload_n 3, 1) := by decide +kernel
theorem dX10_lastTipAt_5 : decode cX10_lastTipAt 5 = .ok (.aload_n 0, 1) := by decide +kernel
theorem dX10_lastTipAt_6 : decode cX10_lastTipAt 6 = .ok (.getfield 9, 3) := by decide +kernel
theorem dX10_lastTipAt_9 : decode cX10_lastTipAt 9 = .ok (.iconst 2, 1) := by decide +kernel
theorem dX10_lastTipAt_10 : decode cX10_lastTipAt 10 = .ok (.iaload, 1) := by decide +kernel
theorem dX10_lastTipAt_11 : decode cX10_lastTipAt 11 = .ok (.if_icmp .ge 32, 3) := by decide +kernel
theorem dX10_lastTipAt_14 : decode cX10_lastTipAt 14 = .ok (.aload_n 0, 1) := by decide +kernel
theorem dX10_lastTipAt_15 : decode cX10_lastTipAt 15 = .ok (.iload_n 3, 1) := by decide +kernel
theorem dX10_lastTipAt_16 : decode cX10_lastTipAt 16 = .ok (.iload_n 1, 1) := by decide +kernel
theorem dX10_lastTipAt_17 : decode cX10_lastTipAt 17 = .ok (.invokevirtual 78, 3) := by decide +kernel
theorem dX10_lastTipAt_20 : decode cX10_lastTipAt 20 = .ok (.ifCond .eq 15, 3) := by decide +kernel
theorem dX10_lastTipAt_23 : decode cX10_lastTipAt 23 = .ok (.aload_n 0, 1) := by decide +kernel
theorem dX10_lastTipAt_24 : decode cX10_lastTipAt 24 = .ok (.iload_n 3, 1) := by decide +kernel
theorem dX10_lastTipAt_25 : decode cX10_lastTipAt 25 = .ok (.invokevirtual 82, 3) := by decide +kernel
theorem dX10_lastTipAt_28 : decode cX10_lastTipAt 28 = .ok (.ifCond .eq 7, 3) := by decide +kernel
theorem dX10_lastTipAt_31 : decode cX10_lastTipAt 31 = .ok (.iload_n 3, 1) := by decide +kernel
theorem dX10_lastTipAt_32 : decode cX10_lastTipAt 32 = .ok (.goto 4, 3) := by decide +kernel
theorem dX10_lastTipAt_35 : decode cX10_lastTipAt 35 = .ok (.iload_n 2, 1) := by decide +kernel
theorem dX10_lastTipAt_36 : decode cX10_lastTipAt 36 = .ok (.istore_n 2, 1) := by decide +kernel
theorem dX10_lastTipAt_37 : decode cX10_lastTipAt 37 = .ok (.iinc 3 1, 3) := by decide +kernel
theorem dX10_lastTipAt_40 : decode cX10_lastTipAt 40 = .ok (.goto (-36), 3) := by decide +kernel
theorem dX10_lastTipAt_43 : decode cX10_lastTipAt 43 = .ok (.iload_n 2, 1) := by decide +kernel
theorem dX10_lastTipAt_44 : decode cX10_lastTipAt 44 = .ok (.ireturn, 1) := by decide +kernel
set_option maxHeartbeats 1000000 in
set_option maxRecDepth 20000 in
theorem m_lastTipAt (l : Launch) (D : va_G) (aT : Nat → ClassId) (ad : Nat → Nat) (S : MSt) (n : Nat) (idn : Nat → Nat) (pr : Nat → Option Nat) (tn : Nat → Nat) (hF : FoR (S 0) n idn pr tn) (r : Nat) (hr12 : r < n) : MdG l yX10_lastTipAt cX10_lastTipAt 4 .int 4 88 D aT ad [.ref (ad 0), .int (nI r)] S (fun q => q = oi (ltp pr n r n)) := by
  refine MdI.of (by decide +kernel) rfl (Nat.le_of_ble_eq_true rfl) ?_
  intro p e s m below meth c A ls C hml hl hA hr hlocks hW
  have hl : lv_has ls 4 [(0, .ref (ad 0)), (1, .int (nI r))] := hl
  have hx := C.1
  have hb := C.2.1
  refine lv_iconst (v := (-1)) hx hb dX10_lastTipAt_0 (by decide) ?_
  refine lv_istore_n (lv' := [(2, .int (-1)), (0, .ref (ad 0)), (1, .int (nI r))]) hx hb dX10_lastTipAt_1 rfl hl (by decide) rfl (fun ls hl => ?_)
  refine lv_iconst (v := nI 0) hx hb dX10_lastTipAt_2 (by decide) ?_
  refine lv_istore_n (lv' := [(3, .int (nI 0)), (2, .int (-1)), (0, .ref (ad 0)), (1, .int (nI r))]) hx hb dX10_lastTipAt_3 rfl hl (by decide) rfl (fun ls hl => ?_)
  refine W_loopH (σ := Option Nat × Nat) (fun z_ => n - z_.2) (fun z_ H locs g => ∃ ls, g = F0 m 4 ls [] ∧ lv_has ls 4 [(0, .ref (ad 0)), (1, .int (nI r)), (2, .int (oi z_.1)), (3, .int (nI z_.2))] ∧ MdB D aT ad S A s.heap H locs ∧ (z_.1 = ltp pr n r z_.2 ∧ z_.2 ≤ n)) ?_ (none, 0) _ ⟨_, rfl, lv_sub hl [2, 3, 1, 0] rfl, hW, ⟨rfl, Nat.zero_le _⟩⟩
  clear hW hl
  rintro ⟨f, k⟩ H locs g ⟨ls, rfl, hl, hW, hi, hkn⟩ ih_4
  dsimp only at hl hW hi hkn ⊢
  refine lv_iload_n hx hb dX10_lastTipAt_4 rfl (lv_at hl 3 rfl) ?_
  refine lv_aload_n hx hb dX10_lastTipAt_5 rfl (lv_at hl 0 rfl) ?_
  refine md_geta_m C hW dX10_lastTipAt_6 ?_
  refine lv_iconst (v := nI 2) hx hb dX10_lastTipAt_9 (by decide) ?_
  refine md_ald_m C hW (i := 2) (by omega) dX10_lastTipAt_10 ?_
  refine r_eq (y := (nI n)) (hF.1) ?_
  refine r_geN hx hb (a := k) (b := n) (by have := hF.2.1; omega) (by have := hF.2.1; omega) (tgt := 43) dX10_lastTipAt_11 (by decide) (fun c_11 => ?_) (fun c_11 => ?_)
  · refine lv_iload_n hx hb dX10_lastTipAt_43 rfl (lv_at hl 2 rfl) ?_
    exact md_iret C hr hlocks rfl hW (⟨by rw [hi, show k = n by omega], rfl⟩) dX10_lastTipAt_44
  · refine lv_aload_n hx hb dX10_lastTipAt_14 rfl (lv_at hl 0 rfl) ?_
    refine lv_iload_n hx hb dX10_lastTipAt_15 rfl (lv_at hl 3 rfl) ?_
    refine lv_iload_n hx hb dX10_lastTipAt_16 rfl (lv_at hl 1 rfl) ?_
    refine md_callg C hml hl.1 (As := [.int (nI k), .int (nI r)]) (rest := []) (m_isIn l D aT ad S n idn pr tn hF k r (by omega) (by omega)) gT_isIn hd_isIn rfl ⟨Nat.le_of_ble_eq_true rfl, Nat.le_of_ble_eq_true rfl⟩ ⟨Nat.le_refl _, Nat.le_refl _⟩ hW hA rfl (Nat.le_of_ble_eq_true rfl) dX10_lastTipAt_17 (fun r_17 H locs hq hW => ?_)
    subst hq
    refine r_bI_eq hx hb (b := (anc pr r k)) (tgt := 35) dX10_lastTipAt_20 (by decide) (fun c_20 => ?_) (fun c_20 => ?_)
    · refine lv_iload_n hx hb dX10_lastTipAt_35 rfl (lv_at hl 2 rfl) ?_
      refine lv_istore_n (lv' := [(2, .int (oi f)), (0, .ref (ad 0)), (1, .int (nI r)), (3, .int (nI k))]) hx hb dX10_lastTipAt_36 rfl hl (by decide) rfl (fun ls hl => ?_)
      refine lv_iinc (v := (nI (k + 1))) (lv' := [(3, .int (nI (k + 1))), (2, .int (oi f)), (0, .ref (ad 0)), (1, .int (nI r))]) hx hb dX10_lastTipAt_37 hl (k := 3) rfl (nI_1 _) (by decide) rfl (fun ls hl => ?_)
      refine lv_goto (tgt := 4) hx hb dX10_lastTipAt_40 (by decide) ?_
      exact ih_4 (f, (k + 1)) _ _ _ (by dsimp only; omega) ⟨_, rfl, lv_sub hl [2, 3, 1, 0] rfl, hW, ⟨by rw [ltp, c_20]; simpa using hi, by omega⟩⟩
    · refine lv_aload_n hx hb dX10_lastTipAt_23 rfl (lv_at hl 0 rfl) ?_
      refine lv_iload_n hx hb dX10_lastTipAt_24 rfl (lv_at hl 3 rfl) ?_
      refine md_callg C hml hl.1 (As := [.int (nI k)]) (rest := []) (m_isTipAt l D aT ad S n idn pr tn hF k (by omega)) gT_isTipAt hd_isTipAt rfl ⟨Nat.le_of_ble_eq_true rfl, Nat.le_of_ble_eq_true rfl⟩ ⟨Nat.le_refl _, Nat.le_refl _⟩ hW hA rfl (Nat.le_of_ble_eq_true rfl) dX10_lastTipAt_25 (fun r_25 H locs hq hW => ?_)
      subst hq
      refine r_bI_eq hx hb (b := (tipB pr k n)) (tgt := 35) dX10_lastTipAt_28 (by decide) (fun c_28 => ?_) (fun c_28 => ?_)
      · refine lv_iload_n hx hb dX10_lastTipAt_35 rfl (lv_at hl 2 rfl) ?_
        refine lv_istore_n (lv' := [(2, .int (oi f)), (0, .ref (ad 0)), (1, .int (nI r)), (3, .int (nI k))]) hx hb dX10_lastTipAt_36 rfl hl (by decide) rfl (fun ls hl => ?_)
        refine lv_iinc (v := (nI (k + 1))) (lv' := [(3, .int (nI (k + 1))), (2, .int (oi f)), (0, .ref (ad 0)), (1, .int (nI r))]) hx hb dX10_lastTipAt_37 hl (k := 3) rfl (nI_1 _) (by decide) rfl (fun ls hl => ?_)
        refine lv_goto (tgt := 4) hx hb dX10_lastTipAt_40 (by decide) ?_
        exact ih_4 (f, (k + 1)) _ _ _ (by dsimp only; omega) ⟨_, rfl, lv_sub hl [2, 3, 1, 0] rfl, hW, ⟨by rw [ltp, c_20, c_28]; simpa using hi, by omega⟩⟩
      · refine lv_iload_n hx hb dX10_lastTipAt_31 rfl (lv_at hl 3 rfl) ?_
        refine lv_goto (tgt := 36) hx hb dX10_lastTipAt_32 (by decide) ?_
        refine lv_istore_n (lv' := [(2, .int (nI k)), (0, .ref (ad 0)), (1, .int (nI r)), (3, .int (nI k))]) hx hb dX10_lastTipAt_36 rfl hl (by decide) rfl (fun ls hl => ?_)
        refine lv_iinc (v := (nI (k + 1))) (lv' := [(3, .int (nI (k + 1))), (2, .int (nI k)), (0, .ref (ad 0)), (1, .int (nI r))]) hx hb dX10_lastTipAt_37 hl (k := 3) rfl (nI_1 _) (by decide) rfl (fun ls hl => ?_)
        refine lv_goto (tgt := 4) hx hb dX10_lastTipAt_40 (by decide) ?_
        exact ih_4 ((some k), (k + 1)) _ _ _ (by dsimp only; omega) ⟨_, rfl, lv_sub hl [2, 3, 1, 0] rfl, hW, ⟨by rw [ltp, c_20, c_28]; rfl, by omega⟩⟩
theorem gT_in : GoodIn gw (wsS RX10 63 yX10_in (Cond.code yX10_in cX10_in 6 (some .boolean) :: gw)) := gdS gw_1719 gw_1720 gw_81 gw_1721
theorem hd_in : yX10_in.cls = RX10 ∧ yX10_in.cls ≠ "java/lang/invoke/MethodHandle" ∧ yX10_in.cls ≠ "java/lang/invoke/VarHandle" ∧ (parseMethodDescriptor yX10_in.desc).map (fun d => d.parameters.length) = some 3 := ⟨rfl, by decide +kernel, by decide +kernel, by decide +kernel⟩
theorem dX10_in_0 : decode cX10_in 0 = .ok (.lload_n 0, 1) := by decide +kernel
theorem dX10_in_1 : decode cX10_in 1 = .ok (.lload_n 2, 1) := by decide +kernel
theorem dX10_in_2 : decode cX10_in 2 = .ok (.lcmp, 1) := by decide +kernel
theorem dX10_in_3 : decode cX10_in 3 = .ok (.ifCond .lt 14, 3) := by decide +kernel
theorem dX10_in_6 : decode cX10_in 6 = .ok (.lload_n 0, 1) := by decide +kernel
theorem dX10_in_7 : decode cX10_in 7 = .ok (.lload 4, 2) := by decide +kernel
theorem dX10_in_9 : decode cX10_in 9 = .ok (.lcmp, 1) := by decide +kernel
theorem dX10_in_10 : decode cX10_in 10 = .ok (.ifCond .gt 7, 3) := by decide +kernel
theorem dX10_in_13 : decode cX10_in 13 = .ok (.iconst 1, 1) := by decide +kernel
theorem dX10_in_14 : decode cX10_in 14 = .ok (.goto 4, 3) := by decide +kernel
theorem dX10_in_17 : decode cX10_in 17 = .ok (.iconst 0, 1) := by decide +kernel
theorem dX10_in_18 : decode cX10_in 18 = .ok (.ireturn, 1) := by decide +kernel
set_option maxRecDepth 20000 in
theorem m_in (l : Launch) (v lo hi : Int64) : MdS l yX10_in cX10_in 6 .boolean [.long v, .long lo, .long hi] (fun r => r = bI (decide (lo ≤ v ∧ v ≤ hi))) := by
  refine Met.ofW (cc := cX10_in) (maxL := 6) (ret := some .boolean) (by decide +kernel) rfl ?_
  intro p e s m args below meth c s₁ B hml hv
  have hv : args = _ := hv
  subst hv
  have hx := B.exec
  have hb := B.bytes
  have hl := lv_entry [.long v, .long lo, .long hi] (n := 6) (Nat.le_of_ble_eq_true rfl)
  rw [lg_entry_eq]
  generalize (lg_sl [.long v, .long lo, .long hi] ++ List.replicate (6 - (lg_sl [.long v, .long lo, .long hi]).length) Slot.unset).toArray = ls at hl ⊢
  have hl : lv_has ls 6 [(0, .long v), (2, .long lo), (4, .long hi)] := hl
  refine lv_lload_n hx hb dX10_in_0 rfl (lv_at hl 0 rfl) ?_
  refine lv_lload_n hx hb dX10_in_1 rfl (lv_at hl 1 rfl) ?_
  refine W.lcmp hx hb dX10_in_2 ?_
  refine lv_if_lt hx hb (x := (lg_cmp v lo)) (tgt := 17) dX10_in_3 (by decide) (fun c_3 => ?_) (fun c_3 => ?_)
  · refine lv_iconst (v := nI 0) hx hb dX10_in_17 (by decide) ?_
    exact W.zret (v := (nI 0)) hx hb B.returns (by decide) (fun t ht hW => ⟨_, rfl, (in_f1 c_3), ht⟩) (fun q h => by cases h) dX10_in_18 B.notSynchronized
  · refine lv_lload_n hx hb dX10_in_6 rfl (lv_at hl 0 rfl) ?_
    refine lv_lload hx hb dX10_in_7 (lv_at hl 2 rfl) ?_
    refine W.lcmp hx hb dX10_in_9 ?_
    refine lv_if_gt hx hb (x := (lg_cmp v hi)) (tgt := 17) dX10_in_10 (by decide) (fun c_10 => ?_) (fun c_10 => ?_)
    · refine lv_iconst (v := nI 0) hx hb dX10_in_17 (by decide) ?_
      exact W.zret (v := (nI 0)) hx hb B.returns (by decide) (fun t ht hW => ⟨_, rfl, (in_f2 c_10), ht⟩) (fun q h => by cases h) dX10_in_18 B.notSynchronized
    · refine lv_iconst (v := nI 1) hx hb dX10_in_13 (by decide) ?_
      refine lv_goto (tgt := 18) hx hb dX10_in_14 (by decide) ?_
      exact W.zret (v := (nI 1)) hx hb B.returns (by decide) (fun t ht hW => ⟨_, rfl, (in_t c_3 c_10), ht⟩) (fun q h => by cases h) dX10_in_18 B.notSynchronized
theorem gT_hedgeAt : GoodIn gw (wsS RX10 86 yX10_hedgeAt (Cond.code yX10_hedgeAt cX10_hedgeAt 1 (some .int) :: gw)) := gdS gw_1727 gw_1728 gw_81 gw_1729
theorem hd_hedgeAt : yX10_hedgeAt.cls = RX10 ∧ yX10_hedgeAt.cls ≠ "java/lang/invoke/MethodHandle" ∧ yX10_hedgeAt.cls ≠ "java/lang/invoke/VarHandle" ∧ (parseMethodDescriptor yX10_hedgeAt.desc).map (fun d => d.parameters.length) = some 1 := ⟨rfl, by decide +kernel, by decide +kernel, by decide +kernel⟩
theorem dX10_hedgeAt_0 : decode cX10_hedgeAt 0 = .ok (.bipush 11, 2) := by decide +kernel
theorem dX10_hedgeAt_2 : decode cX10_hedgeAt 2 = .ok (.iconst 3, 1) := by decide +kernel
theorem dX10_hedgeAt_3 : decode cX10_hedgeAt 3 = .ok (.iload_n 0, 1) := by decide +kernel
theorem dX10_hedgeAt_4 : decode cX10_hedgeAt 4 = .ok (.imul, 1) := by decide +kernel
theorem dX10_hedgeAt_5 : decode cX10_hedgeAt 5 = .ok (.iadd, 1) := by decide +kernel
theorem dX10_hedgeAt_6 : decode cX10_hedgeAt 6 = .ok (.ireturn, 1) := by decide +kernel
set_option maxRecDepth 20000 in
theorem m_hedgeAt (l : Launch) (i : Nat) : MdS l yX10_hedgeAt cX10_hedgeAt 1 .int [.int (nI i)] (fun r => r = nI (11 + 3 * i)) := by
  refine Met.ofW (cc := cX10_hedgeAt) (maxL := 1) (ret := some .int) (by decide +kernel) rfl ?_
  intro p e s m args below meth c s₁ B hml hv
  have hv : args = _ := hv
  subst hv
  have hx := B.exec
  have hb := B.bytes
  have hl := lv_entry [.int (nI i)] (n := 1) (Nat.le_of_ble_eq_true rfl)
  rw [lg_entry_eq]
  generalize (lg_sl [.int (nI i)] ++ List.replicate (1 - (lg_sl [.int (nI i)]).length) Slot.unset).toArray = ls at hl ⊢
  have hl : lv_has ls 1 [(0, .int (nI i))] := hl
  refine lv_bipush (v := nI 11) hx hb dX10_hedgeAt_0 (by decide) ?_
  refine lv_iconst (v := nI 3) hx hb dX10_hedgeAt_2 (by decide) ?_
  refine lv_iload_n hx hb dX10_hedgeAt_3 rfl (lv_at hl 0 rfl) ?_
  refine r_imulN hx hb (a := 3) (b := i) dX10_hedgeAt_4 ?_
  refine r_iaddN hx hb (a := 11) (b := 3 * i) dX10_hedgeAt_5 ?_
  exact W.zret (v := (nI (11 + 3 * i))) hx hb B.returns rfl (fun t ht hW => ⟨_, rfl, (rfl), ht⟩) (fun q h => by cases h) dX10_hedgeAt_6 B.notSynchronized
end
section
theorem gm_abs : Cond.static Lib.Math.abs.name ∈ gw ∧ Cond.code Lib.Math.abs.name Lib.Math.abs.code 1 (some .int) ∈ gw := ⟨gw_1821, by rw [show Lib.Math.abs.code = prog_28_method_59_code by decide +kernel]; exact gw_1822⟩
theorem gm_max : Cond.static Lib.Math.max.name ∈ gw ∧ Cond.code Lib.Math.max.name Lib.Math.max.code 2 (some .int) ∈ gw := ⟨gw_413, by rw [show Lib.Math.max.code = prog_28_method_65_code by decide +kernel]; exact gw_414⟩
theorem gm_min : Cond.static Lib.Math.min.name ∈ gw ∧ Cond.code Lib.Math.min.name Lib.Math.min.code 2 (some .int) ∈ gw := ⟨gw_410, by rw [show Lib.Math.min.code = prog_28_method_69_code by decide +kernel]; exact gw_411⟩
section MDM
variable {p : Program} {l : Launch} {e : Env} {R : Room} {s : State} {m : MethodId} {args : Array Value} {below : List Frame} {meth : Method} {c : Code} {H : Heap} {locs : List Loc} {cells slots : Nat} {Q : State → Prop} {cc : ByteArray} {pc : Nat} {ls : Array Slot} {rest : List Value} {D : va_G} {aT : Nat → ClassId} {nL : Nat}
theorem md_abs (C : MdX p c cc s args m D aT) (hml : c.maxLocals = nL) (hls : ls.size = nL) {index : Nat} (hk : Cond.methodLink RX10 index Lib.Math.abs.name ∈ gw) (hR : 1 ≤ R.frames ∧ 21 ≤ R.locals ∧ (rest.map fun v => v.category).sum ≤ 8) (hcs : cells ≤ R.cells ∧ slots ≤ R.slots) {x : Int32} (hdg : decode cc pc = .ok (.invokestatic index, 3))
    (kk : W p l e R s m args below meth c H locs cells slots Q (F0 m (pc + 3) ls (.int (if 0 ≤ x then x else 0 - x) :: rest))) : W p l e R s m args below meth c H locs cells slots Q (F0 m pc ls (.int x :: rest)) :=
  va_mabs C.1 C.2.1 (by rw [hml, hls]) C.2.2.2.1 (C.2.2.1 _ hk) (C.2.2.1 _ gm_abs.1) (C.2.2.1 _ gw_89) (C.2.2.1 _ gm_abs.2) hR.1 (by omega) hcs.1 hcs.2 hdg kk
theorem md_max (C : MdX p c cc s args m D aT) (hml : c.maxLocals = nL) (hls : ls.size = nL) {index : Nat} (hk : Cond.methodLink RX10 index Lib.Math.max.name ∈ gw) (hR : 1 ≤ R.frames ∧ 21 ≤ R.locals ∧ (rest.map fun v => v.category).sum ≤ 8) (hcs : cells ≤ R.cells ∧ slots ≤ R.slots) {x y : Int32} (hdg : decode cc pc = .ok (.invokestatic index, 3))
    (kk : W p l e R s m args below meth c H locs cells slots Q (F0 m (pc + 3) ls (.int (if x < y then y else x) :: rest))) : W p l e R s m args below meth c H locs cells slots Q (F0 m pc ls (.int y :: .int x :: rest)) :=
  va_mmax C.1 C.2.1 (by rw [hml, hls]) C.2.2.2.1 (C.2.2.1 _ hk) (C.2.2.1 _ gm_max.1) (C.2.2.1 _ gw_89) (C.2.2.1 _ gm_max.2) hR.1 (by omega) hcs.1 hcs.2 hdg kk
theorem md_min (C : MdX p c cc s args m D aT) (hml : c.maxLocals = nL) (hls : ls.size = nL) {index : Nat} (hk : Cond.methodLink RX10 index Lib.Math.min.name ∈ gw) (hR : 1 ≤ R.frames ∧ 21 ≤ R.locals ∧ (rest.map fun v => v.category).sum ≤ 8) (hcs : cells ≤ R.cells ∧ slots ≤ R.slots) {x y : Int32} (hdg : decode cc pc = .ok (.invokestatic index, 3))
    (kk : W p l e R s m args below meth c H locs cells slots Q (F0 m (pc + 3) ls (.int (if y < x then y else x) :: rest))) : W p l e R s m args below meth c H locs cells slots Q (F0 m pc ls (.int y :: .int x :: rest)) :=
  va_mmin C.1 C.2.1 (by rw [hml, hls]) C.2.2.2.1 (C.2.2.1 _ hk) (C.2.2.1 _ gm_min.1) (C.2.2.1 _ gw_89) (C.2.2.1 _ gm_min.2) hR.1 (by omega) hcs.1 hcs.2 hdg kk
theorem gk_max : Cond.methodLink RX10 138 Lib.Math.max.name ∈ gw := gw_1803
theorem gk_abs : Cond.methodLink RX10 89 Lib.Math.abs.name ∈ gw := gw_1820
theorem gk_min : Cond.methodLink RX10 160 Lib.Math.min.name ∈ gw := gw_1843
end MDM
theorem gT_throwing : GoodIn gw (wsV RX10 101 RX10 yX10_throwing (Cond.code yX10_throwing cX10_throwing 2 (some .int) :: gw)) := gdV gw_1723 gw_1725 gw_23 gw_81 gw_1726
theorem hd_throwing : yX10_throwing.cls = RX10 ∧ yX10_throwing.cls ≠ "java/lang/invoke/MethodHandle" ∧ yX10_throwing.cls ≠ "java/lang/invoke/VarHandle" ∧ (parseMethodDescriptor yX10_throwing.desc).map (fun d => d.parameters.length) = some 1 := ⟨rfl, by decide +kernel, by decide +kernel, by decide +kernel⟩
theorem dX10_throwing_0 : decode cX10_throwing 0 = .ok (.aload_n 0, 1) := by decide +kernel
theorem dX10_throwing_1 : decode cX10_throwing 1 = .ok (.iload_n 1, 1) := by decide +kernel
theorem dX10_throwing_2 : decode cX10_throwing 2 = .ok (.putfield 57, 3) := by decide +kernel
theorem dX10_throwing_5 : decode cX10_throwing 5 = .ok (.iconst (-1), 1) := by decide +kernel
theorem dX10_throwing_6 : decode cX10_throwing 6 = .ok (.ireturn, 1) := by decide +kernel
set_option maxHeartbeats 1000000 in
set_option maxRecDepth 20000 in
theorem m_throwing (l : Launch) (D : va_G) (aT : Nat → ClassId) (ad : Nat → Nat) (S : MSt) (t : Nat) : MdI l yX10_throwing cX10_throwing 2 .int 0 0 D aT ad [.ref (ad 0), .int (nI t)] S (fun r S1 => r = -1 ∧ S1 = ss S 8 (nI t)) := by
  refine MdI.of (by decide +kernel) rfl (Nat.le_of_ble_eq_true rfl) ?_
  intro p e s m below meth c A ls C hml hl hA hr hlocks hW
  have hl : lv_has ls 2 [(0, .ref (ad 0)), (1, .int (nI t))] := hl
  have hx := C.1
  have hb := C.2.1
  refine lv_aload_n hx hb dX10_throwing_0 rfl (lv_at hl 0 rfl) ?_
  refine lv_iload_n hx hb dX10_throwing_1 rfl (lv_at hl 1 rfl) ?_
  refine md_put_thrown C hW dX10_throwing_2 (fun H locs hW => ?_)
  refine lv_iconst (v := (-1)) hx hb dX10_throwing_5 (by decide) ?_
  exact md_iret C hr hlocks rfl hW (⟨rfl, rfl⟩) dX10_throwing_6
theorem gT_far : GoodIn gw (wsV RX10 94 RX10 yX10_far (Cond.code yX10_far cX10_far 3 (some .int) :: gw)) := gdV gw_1816 gw_1818 gw_40 gw_81 gw_1819
theorem hd_far : yX10_far.cls = RX10 ∧ yX10_far.cls ≠ "java/lang/invoke/MethodHandle" ∧ yX10_far.cls ≠ "java/lang/invoke/VarHandle" ∧ (parseMethodDescriptor yX10_far.desc).map (fun d => d.parameters.length) = some 2 := ⟨rfl, by decide +kernel, by decide +kernel, by decide +kernel⟩
theorem dX10_far_0 : decode cX10_far 0 = .ok (.aload_n 0, 1) := by decide +kernel
theorem dX10_far_1 : decode cX10_far 1 = .ok (.getfield 9, 3) := by decide +kernel
theorem dX10_far_4 : decode cX10_far 4 = .ok (.iload_n 1, 1) := by decide +kernel
theorem dX10_far_5 : decode cX10_far 5 = .ok (.invokestatic 86, 3) := by decide +kernel
theorem dX10_far_8 : decode cX10_far 8 = .ok (.iconst 2, 1) := by decide +kernel
theorem dX10_far_9 : decode cX10_far 9 = .ok (.iadd, 1) := by decide +kernel
theorem dX10_far_10 : decode cX10_far 10 = .ok (.iaload, 1) := by decide +kernel
theorem dX10_far_11 : decode cX10_far 11 = .ok (.aload_n 0, 1) := by decide +kernel
theorem dX10_far_12 : decode cX10_far 12 = .ok (.iload_n 2, 1) := by decide +kernel
theorem dX10_far_13 : decode cX10_far 13 = .ok (.iconst 2, 1) := by decide +kernel
theorem dX10_far_14 : decode cX10_far 14 = .ok (.invokevirtual 67, 3) := by decide +kernel
theorem dX10_far_17 : decode cX10_far 17 = .ok (.isub, 1) := by decide +kernel
theorem dX10_far_18 : decode cX10_far 18 = .ok (.invokestatic 89, 3) := by decide +kernel
theorem dX10_far_21 : decode cX10_far 21 = .ok (.ireturn, 1) := by decide +kernel
set_option maxHeartbeats 1000000 in
set_option maxRecDepth 20000 in
theorem m_far (l : Launch) (D : va_G) (aT : Nat → ClassId) (ad : Nat → Nat) (S : MSt) (i k a b : Nat) (ha : S 0 (11 + 3 * i + 2) = nI a) (hb2 : S 0 (29 + 4 * k + 2) = nI b) (ha9 : a ≤ 9) (hb9 : b ≤ 9) (hi : i < 6) (hk : k < 12) : MdG l yX10_far cX10_far 3 .int 1 24 D aT ad [.ref (ad 0), .int (nI i), .int (nI k)] S (fun r => r = nI (dif a b)) := by
  refine MdI.of (by decide +kernel) rfl (Nat.le_of_ble_eq_true rfl) ?_
  intro p e s m below meth c A ls C hml hl hA hr hlocks hW
  have hl : lv_has ls 3 [(0, .ref (ad 0)), (1, .int (nI i)), (2, .int (nI k))] := hl
  have hx := C.1
  have hb := C.2.1
  refine lv_aload_n hx hb dX10_far_0 rfl (lv_at hl 0 rfl) ?_
  refine md_geta_m C hW dX10_far_1 ?_
  refine lv_iload_n hx hb dX10_far_4 rfl (lv_at hl 1 rfl) ?_
  refine md_calls C hml hl.1 (As := [.int (nI i)]) (rest := [.ref (ad 1)]) (m_hedgeAt l i) gT_hedgeAt hd_hedgeAt rfl ⟨Nat.le_of_ble_eq_true rfl, Nat.le_of_ble_eq_true rfl⟩ ⟨Nat.le_refl _, Nat.le_refl _⟩ rfl (Nat.le_of_ble_eq_true rfl) dX10_far_5 (fun r_5 hq => ?_)
  subst hq
  refine lv_iconst (v := nI 2) hx hb dX10_far_8 (by decide) ?_
  refine r_iaddN hx hb (a := (11 + 3 * i)) (b := 2) dX10_far_9 ?_
  refine md_ald_m C hW (i := 11 + 3 * i + 2) (by omega) dX10_far_10 ?_
  refine r_eq (y := (nI a)) (ha) ?_
  refine lv_aload_n hx hb dX10_far_11 rfl (lv_at hl 0 rfl) ?_
  refine lv_iload_n hx hb dX10_far_12 rfl (lv_at hl 2 rfl) ?_
  refine lv_iconst (v := nI 2) hx hb dX10_far_13 (by decide) ?_
  refine md_callg C hml hl.1 (As := [.int (nI k), .int (nI 2)]) (rest := [.int (nI a)]) (m_of l D aT ad S k 2 (by omega)) gT_of hd_of rfl ⟨Nat.le_of_ble_eq_true rfl, Nat.le_of_ble_eq_true rfl⟩ ⟨Nat.le_refl _, Nat.le_refl _⟩ hW hA rfl (Nat.le_of_ble_eq_true rfl) dX10_far_14 (fun r_14 H locs hq hW => ?_)
  subst hq
  refine r_eq (y := (nI b)) (hb2) ?_
  refine lv_isub hx hb dX10_far_17 ?_
  refine md_abs C hml hl.1 gk_abs ⟨Nat.le_of_ble_eq_true rfl, Nat.le_of_ble_eq_true rfl, Nat.le_of_ble_eq_true rfl⟩ ⟨Nat.le_refl _, Nat.le_refl _⟩ dX10_far_18 ?_
  refine r_eq (y := (nI (dif a b))) (dif_abs (by omega) (by omega)) ?_
  exact md_iret C hr hlocks rfl hW (⟨rfl, rfl⟩) dX10_far_21
theorem gT_vetoes : GoodIn gw (wsV RX10 144 RX10 yX10_vetoes (Cond.code yX10_vetoes cX10_vetoes 3 (some .boolean) :: gw)) := gdV gw_1812 gw_1814 gw_39 gw_81 gw_1815
theorem hd_vetoes : yX10_vetoes.cls = RX10 ∧ yX10_vetoes.cls ≠ "java/lang/invoke/MethodHandle" ∧ yX10_vetoes.cls ≠ "java/lang/invoke/VarHandle" ∧ (parseMethodDescriptor yX10_vetoes.desc).map (fun d => d.parameters.length) = some 2 := ⟨rfl, by decide +kernel, by decide +kernel, by decide +kernel⟩
theorem dX10_vetoes_0 : decode cX10_vetoes 0 = .ok (.aload_n 0, 1) := by decide +kernel
theorem dX10_vetoes_1 : decode cX10_vetoes 1 = .ok (.iload_n 1, 1) := by decide +kernel
theorem dX10_vetoes_2 : decode cX10_vetoes 2 = .ok (.iload_n 2, 1) := by decide +kernel
theorem dX10_vetoes_3 : decode cX10_vetoes 3 = .ok (.invokevirtual 94, 3) := by decide +kernel
theorem dX10_vetoes_6 : decode cX10_vetoes 6 = .ok (.bipush 7, 2) := by decide +kernel
theorem dX10_vetoes_8 : decode cX10_vetoes 8 = .ok (.if_icmp .lt 21, 3) := by decide +kernel
theorem dX10_vetoes_11 : decode cX10_vetoes 11 = .ok (.aload_n 0, 1) := by decide +kernel
theorem dX10_vetoes_12 : decode cX10_vetoes 12 = .ok (.getfield 9, 3) := by decide +kernel
theorem dX10_vetoes_15 : decode cX10_vetoes 15 = .ok (.iload_n 1, 1) := by decide +kernel
theorem dX10_vetoes_16 : decode cX10_vetoes 16 = .ok (.invokestatic 86, 3) := by decide +kernel
theorem dX10_vetoes_19 : decode cX10_vetoes 19 = .ok (.iconst 1, 1) := by decide +kernel
theorem dX10_vetoes_20 : decode cX10_vetoes 20 = .ok (.iadd, 1) := by decide +kernel
theorem dX10_vetoes_21 : decode cX10_vetoes 21 = .ok (.iaload, 1) := by decide +kernel
theorem dX10_vetoes_22 : decode cX10_vetoes 22 = .ok (.ifCond .le 7, 3) := by decide +kernel
theorem dX10_vetoes_25 : decode cX10_vetoes 25 = .ok (.iconst 1, 1) := by decide +kernel
theorem dX10_vetoes_26 : decode cX10_vetoes 26 = .ok (.goto 4, 3) := by decide +kernel
theorem dX10_vetoes_29 : decode cX10_vetoes 29 = .ok (.iconst 0, 1) := by decide +kernel
theorem dX10_vetoes_30 : decode cX10_vetoes 30 = .ok (.ireturn, 1) := by decide +kernel
set_option maxHeartbeats 1000000 in
set_option maxRecDepth 20000 in
theorem m_vetoes (l : Launch) (D : va_G) (aT : Nat → ClassId) (ad : Nat → Nat) (S : MSt) (h : Nat) (lv th ta : Nat → Nat) (hH : HeR (S 0) h lv th ta) (n : Nat) (idn : Nat → Nat) (pr : Nat → Option Nat) (tn : Nat → Nat) (hF : FoR (S 0) n idn pr tn) (i k : Nat) (hi : i < h) (hk : k < n) : MdG l yX10_vetoes cX10_vetoes 3 .boolean 2 46 D aT ad [.ref (ad 0), .int (nI i), .int (nI k)] S (fun r => r = bI (vetB (dif (ta i) (tn k)) (th i))) := by
  refine MdI.of (by decide +kernel) rfl (Nat.le_of_ble_eq_true rfl) ?_
  intro p e s m below meth c A ls C hml hl hA hr hlocks hW
  have hl : lv_has ls 3 [(0, .ref (ad 0)), (1, .int (nI i)), (2, .int (nI k))] := hl
  have hx := C.1
  have hb := C.2.1
  refine lv_aload_n hx hb dX10_vetoes_0 rfl (lv_at hl 0 rfl) ?_
  refine lv_iload_n hx hb dX10_vetoes_1 rfl (lv_at hl 1 rfl) ?_
  refine lv_iload_n hx hb dX10_vetoes_2 rfl (lv_at hl 2 rfl) ?_
  refine md_callg C hml hl.1 (As := [.int (nI i), .int (nI k)]) (rest := []) (m_far l D aT ad S i k (ta i) (tn k) (hH.2.2.2.2 _ (hi)).1 (hF.2.2.2.2.2.2 _ (hk)).1 (hH.2.2.2.2 _ (hi)).2 (hF.2.2.2.2.2.2 _ (hk)).2 (Nat.lt_of_lt_of_le (hi) hH.2.1) (Nat.lt_of_lt_of_le (hk) hF.2.1)) gT_far hd_far rfl ⟨Nat.le_of_ble_eq_true rfl, Nat.le_of_ble_eq_true rfl⟩ ⟨Nat.le_refl _, Nat.le_refl _⟩ hW hA rfl (Nat.le_of_ble_eq_true rfl) dX10_vetoes_3 (fun r_3 H locs hq hW => ?_)
  subst hq
  refine lv_bipush (v := nI 7) hx hb dX10_vetoes_6 (by decide) ?_
  refine r_ltN hx hb (a := (dif (ta i) (tn k))) (b := 7) (by have := (hH.2.2.2.2 i hi).2; have := (hF.2.2.2.2.2.2 k hk).2; first | omega | (unfold dif; omega)) (by have := (hH.2.2.2.2 i hi).2; have := (hF.2.2.2.2.2.2 k hk).2; first | omega | (unfold dif; omega)) (tgt := 29) dX10_vetoes_8 (by decide) (fun c_8 => ?_) (fun c_8 => ?_)
  · refine lv_iconst (v := nI 0) hx hb dX10_vetoes_29 (by decide) ?_
    exact md_iret C hr hlocks (by decide) hW (⟨by rw [show vetB _ _ = false from decide_eq_false (by omega)]; rfl, rfl⟩) dX10_vetoes_30
  · refine lv_aload_n hx hb dX10_vetoes_11 rfl (lv_at hl 0 rfl) ?_
    refine md_geta_m C hW dX10_vetoes_12 ?_
    refine lv_iload_n hx hb dX10_vetoes_15 rfl (lv_at hl 1 rfl) ?_
    refine md_calls C hml hl.1 (As := [.int (nI i)]) (rest := [.ref (ad 1)]) (m_hedgeAt l i) gT_hedgeAt hd_hedgeAt rfl ⟨Nat.le_of_ble_eq_true rfl, Nat.le_of_ble_eq_true rfl⟩ ⟨Nat.le_refl _, Nat.le_refl _⟩ rfl (Nat.le_of_ble_eq_true rfl) dX10_vetoes_16 (fun r_16 hq => ?_)
    subst hq
    refine lv_iconst (v := nI 1) hx hb dX10_vetoes_19 (by decide) ?_
    refine r_iaddN hx hb (a := (11 + 3 * i)) (b := 1) dX10_vetoes_20 ?_
    refine md_ald_m C hW (i := 11 + 3 * i + 1) (by have := hH.2.1; omega) dX10_vetoes_21 ?_
    refine r_eq (y := (nI (th i))) ((hH.2.2.2.1 i hi).1) ?_
    refine r_ifleN hx hb (a := (th i)) (by have := (hH.2.2.2.1 i hi).2; omega) (tgt := 29) dX10_vetoes_22 (by decide) (fun c_22 => ?_) (fun c_22 => ?_)
    · refine lv_iconst (v := nI 0) hx hb dX10_vetoes_29 (by decide) ?_
      exact md_iret C hr hlocks (by decide) hW (⟨by rw [show vetB _ _ = false from decide_eq_false (by omega)]; rfl, rfl⟩) dX10_vetoes_30
    · refine lv_iconst (v := nI 1) hx hb dX10_vetoes_25 (by decide) ?_
      refine lv_goto (tgt := 30) hx hb dX10_vetoes_26 (by decide) ?_
      exact md_iret C hr hlocks (by decide) hW (⟨by rw [show vetB _ _ = true from decide_eq_true (by omega)]; rfl, rfl⟩) dX10_vetoes_30
theorem gT_favour : GoodIn gw (wsV RX10 147 RX10 yX10_favour (Cond.code yX10_favour cX10_favour 4 (some .int) :: gw)) := gdV gw_1823 gw_1825 gw_41 gw_81 gw_1826
theorem hd_favour : yX10_favour.cls = RX10 ∧ yX10_favour.cls ≠ "java/lang/invoke/MethodHandle" ∧ yX10_favour.cls ≠ "java/lang/invoke/VarHandle" ∧ (parseMethodDescriptor yX10_favour.desc).map (fun d => d.parameters.length) = some 1 := ⟨rfl, by decide +kernel, by decide +kernel, by decide +kernel⟩
theorem dX10_favour_0 : decode cX10_favour 0 = .ok (.iconst 0, 1) := by decide +kernel
theorem dX10_favour_1 : decode cX10_favour 1 = .ok (.istore_n 2, 1) := by decide +kernel
theorem dX10_favour_2 : decode cX10_favour 2 = .ok (.iconst 0, 1) := by decide +kernel
theorem dX10_favour_3 : decode cX10_favour 3 = .ok (.istore_n 3, 1) := by decide +kernel
theorem dX10_favour_4 : decode cX10_favour 4 = .ok (.iload_n 3, 1) := by decide +kernel
theorem dX10_favour_5 : decode cX10_favour 5 = .ok (.aload_n 0, 1) := by decide +kernel
theorem dX10_favour_6 : decode cX10_favour 6 = .ok (.getfield 9, 3) := by decide +kernel
theorem dX10_favour_9 : decode cX10_favour 9 = .ok (.iconst 0, 1) := by decide +kernel
theorem dX10_favour_10 : decode cX10_favour 10 = .ok (.iaload, 1) := by decide +kernel
theorem dX10_favour_11 : decode cX10_favour 11 = .ok (.if_icmp .ge 35, 3) := by decide +kernel
theorem dX10_favour_14 : decode cX10_favour 14 = .ok (.iload_n 2, 1) := by decide +kernel
theorem dX10_favour_15 : decode cX10_favour 15 = .ok (.aload_n 0, 1) := by decide +kernel
theorem dX10_favour_16 : decode cX10_favour 16 = .ok (.iload_n 3, 1) := by decide +kernel
theorem dX10_favour_17 : decode cX10_favour 17 = .ok (.iload_n 1, 1) := by decide +kernel
theorem dX10_favour_18 : decode cX10_favour 18 = .ok (.invokevirtual 94, 3) := by decide +kernel
theorem dX10_favour_21 : decode cX10_favour 21 = .ok (.iconst 3, 1) := by decide +kernel
theorem dX10_favour_22 : decode cX10_favour 22 = .ok (.if_icmp .gt 15, 3) := by decide +kernel
theorem dX10_favour_25 : decode cX10_favour 25 = .ok (.aload_n 0, 1) := by decide +kernel
theorem dX10_favour_26 : decode cX10_favour 26 = .ok (.getfield 9, 3) := by decide +kernel
theorem dX10_favour_29 : decode cX10_favour 29 = .ok (.iload_n 3, 1) := by decide +kernel
theorem dX10_favour_30 : decode cX10_favour 30 = .ok (.invokestatic 86, 3) := by decide +kernel
theorem dX10_favour_33 : decode cX10_favour 33 = .ok (.iaload, 1) := by decide +kernel
theorem dX10_favour_34 : decode cX10_favour 34 = .ok (.goto 4, 3) := by decide +kernel
theorem dX10_favour_37 : decode cX10_favour 37 = .ok (.iconst 0, 1) := by decide +kernel
theorem dX10_favour_38 : decode cX10_favour 38 = .ok (.iadd, 1) := by decide +kernel
theorem dX10_favour_39 : decode cX10_favour 39 = .ok (.istore_n 2, 1) := by decide +kernel
theorem dX10_favour_40 : decode cX10_favour 40 = .ok (.iinc 3 1, 3) := by decide +kernel
theorem dX10_favour_43 : decode cX10_favour 43 = .ok (.goto (-39), 3) := by decide +kernel
theorem dX10_favour_46 : decode cX10_favour 46 = .ok (.iload_n 2, 1) := by decide +kernel
theorem dX10_favour_47 : decode cX10_favour 47 = .ok (.ireturn, 1) := by decide +kernel
set_option maxHeartbeats 1000000 in
set_option maxRecDepth 20000 in
theorem m_favour (l : Launch) (D : va_G) (aT : Nat → ClassId) (ad : Nat → Nat) (S : MSt) (h : Nat) (lv th ta : Nat → Nat) (hH : HeR (S 0) h lv th ta) (n : Nat) (idn : Nat → Nat) (pr : Nat → Option Nat) (tn : Nat → Nat) (hF : FoR (S 0) n idn pr tn) (k : Nat) (hk : k < n) : MdG l yX10_favour cX10_favour 4 .int 2 46 D aT ad [.ref (ad 0), .int (nI k)] S (fun r => r = nI (fav lv ta (tn k) h)) := by
  refine MdI.of (by decide +kernel) rfl (Nat.le_of_ble_eq_true rfl) ?_
  intro p e s m below meth c A ls C hml hl hA hr hlocks hW
  have hl : lv_has ls 4 [(0, .ref (ad 0)), (1, .int (nI k))] := hl
  have hx := C.1
  have hb := C.2.1
  refine lv_iconst (v := nI 0) hx hb dX10_favour_0 (by decide) ?_
  refine lv_istore_n (lv' := [(2, .int (nI 0)), (0, .ref (ad 0)), (1, .int (nI k))]) hx hb dX10_favour_1 rfl hl (by decide) rfl (fun ls hl => ?_)
  refine lv_iconst (v := nI 0) hx hb dX10_favour_2 (by decide) ?_
  refine lv_istore_n (lv' := [(3, .int (nI 0)), (2, .int (nI 0)), (0, .ref (ad 0)), (1, .int (nI k))]) hx hb dX10_favour_3 rfl hl (by decide) rfl (fun ls hl => ?_)
  refine W_loopH (σ := Nat × Nat) (fun z_ => h - z_.2) (fun z_ H locs g => ∃ ls, g = F0 m 4 ls [] ∧ lv_has ls 4 [(0, .ref (ad 0)), (1, .int (nI k)), (2, .int (nI z_.1)), (3, .int (nI z_.2))] ∧ MdB D aT ad S A s.heap H locs ∧ (z_.1 = fav lv ta (tn k) z_.2 ∧ z_.2 ≤ h)) ?_ (0, 0) _ ⟨_, rfl, lv_sub hl [2, 3, 1, 0] rfl, hW, ⟨rfl, Nat.zero_le _⟩⟩
  clear hW hl
  rintro ⟨a, i⟩ H locs g ⟨ls, rfl, hl, hW, ha, hih⟩ ih_4
  dsimp only at hl hW ha hih ⊢
  refine lv_iload_n hx hb dX10_favour_4 rfl (lv_at hl 3 rfl) ?_
  refine lv_aload_n hx hb dX10_favour_5 rfl (lv_at hl 0 rfl) ?_
  refine md_geta_m C hW dX10_favour_6 ?_
  refine lv_iconst (v := nI 0) hx hb dX10_favour_9 (by decide) ?_
  refine md_ald_m C hW (i := 0) (by omega) dX10_favour_10 ?_
  refine r_eq (y := (nI h)) (hH.1) ?_
  refine r_geN hx hb (a := i) (b := h) (by have := hH.2.1; omega) (by have := hH.2.1; omega) (tgt := 46) dX10_favour_11 (by decide) (fun c_11 => ?_) (fun c_11 => ?_)
  · refine lv_iload_n hx hb dX10_favour_46 rfl (lv_at hl 2 rfl) ?_
    exact md_iret C hr hlocks rfl hW (⟨by rw [ha, show i = h by omega], rfl⟩) dX10_favour_47
  · refine lv_iload_n hx hb dX10_favour_14 rfl (lv_at hl 2 rfl) ?_
    refine lv_aload_n hx hb dX10_favour_15 rfl (lv_at hl 0 rfl) ?_
    refine lv_iload_n hx hb dX10_favour_16 rfl (lv_at hl 3 rfl) ?_
    refine lv_iload_n hx hb dX10_favour_17 rfl (lv_at hl 1 rfl) ?_
    refine md_callg C hml hl.1 (As := [.int (nI i), .int (nI k)]) (rest := [.int (nI a)]) (m_far l D aT ad S i k (ta i) (tn k) (hH.2.2.2.2 _ (show i < h by omega)).1 (hF.2.2.2.2.2.2 _ (hk)).1 (hH.2.2.2.2 _ (show i < h by omega)).2 (hF.2.2.2.2.2.2 _ (hk)).2 (Nat.lt_of_lt_of_le (show i < h by omega) hH.2.1) (Nat.lt_of_lt_of_le (hk) hF.2.1)) gT_far hd_far rfl ⟨Nat.le_of_ble_eq_true rfl, Nat.le_of_ble_eq_true rfl⟩ ⟨Nat.le_refl _, Nat.le_refl _⟩ hW hA rfl (Nat.le_of_ble_eq_true rfl) dX10_favour_18 (fun r_18 H locs hq hW => ?_)
    subst hq
    refine lv_iconst (v := nI 3) hx hb dX10_favour_21 (by decide) ?_
    refine r_gtN hx hb (a := (dif (ta i) (tn k))) (b := 3) (by have := (hH.2.2.2.2 i (by omega)).2; have := (hF.2.2.2.2.2.2 k hk).2; first | omega | (unfold dif; omega)) (by have := (hH.2.2.2.2 i (by omega)).2; have := (hF.2.2.2.2.2.2 k hk).2; first | omega | (unfold dif; omega)) (tgt := 37) dX10_favour_22 (by decide) (fun c_22 => ?_) (fun c_22 => ?_)
    · refine lv_iconst (v := nI 0) hx hb dX10_favour_37 (by decide) ?_
      refine r_iaddN hx hb (a := a) (b := 0) dX10_favour_38 ?_
      refine lv_istore_n (lv' := [(2, .int (nI (a + 0))), (0, .ref (ad 0)), (1, .int (nI k)), (3, .int (nI i))]) hx hb dX10_favour_39 rfl hl (by decide) rfl (fun ls hl => ?_)
      refine lv_iinc (v := (nI (i + 1))) (lv' := [(3, .int (nI (i + 1))), (2, .int (nI (a + 0))), (0, .ref (ad 0)), (1, .int (nI k))]) hx hb dX10_favour_40 hl (k := 3) rfl (nI_1 _) (by decide) rfl (fun ls hl => ?_)
      refine lv_goto (tgt := 4) hx hb dX10_favour_43 (by decide) ?_
      exact ih_4 (a + 0, (i + 1)) _ _ _ (by dsimp only; omega) ⟨_, rfl, lv_sub hl [2, 3, 1, 0] rfl, hW, ⟨by rw [fav, if_neg (by omega), ha], by omega⟩⟩
    · refine lv_aload_n hx hb dX10_favour_25 rfl (lv_at hl 0 rfl) ?_
      refine md_geta_m C hW dX10_favour_26 ?_
      refine lv_iload_n hx hb dX10_favour_29 rfl (lv_at hl 3 rfl) ?_
      refine md_calls C hml hl.1 (As := [.int (nI i)]) (rest := [.ref (ad 1), .int (nI a)]) (m_hedgeAt l i) gT_hedgeAt hd_hedgeAt rfl ⟨Nat.le_of_ble_eq_true rfl, Nat.le_of_ble_eq_true rfl⟩ ⟨Nat.le_refl _, Nat.le_refl _⟩ rfl (Nat.le_of_ble_eq_true rfl) dX10_favour_30 (fun r_30 hq => ?_)
      subst hq
      refine md_ald_m C hW (i := (11 + 3 * i)) (by have := hH.2.1; omega) dX10_favour_33 ?_
      refine r_eq (y := (nI (lv i))) ((hH.2.2.1 i (by omega)).1) ?_
      refine lv_goto (tgt := 38) hx hb dX10_favour_34 (by decide) ?_
      refine r_iaddN hx hb (a := a) (b := (lv i)) dX10_favour_38 ?_
      refine lv_istore_n (lv' := [(2, .int (nI (a + (lv i)))), (0, .ref (ad 0)), (1, .int (nI k)), (3, .int (nI i))]) hx hb dX10_favour_39 rfl hl (by decide) rfl (fun ls hl => ?_)
      refine lv_iinc (v := (nI (i + 1))) (lv' := [(3, .int (nI (i + 1))), (2, .int (nI (a + (lv i)))), (0, .ref (ad 0)), (1, .int (nI k))]) hx hb dX10_favour_40 hl (k := 3) rfl (nI_1 _) (by decide) rfl (fun ls hl => ?_)
      refine lv_goto (tgt := 4) hx hb dX10_favour_43 (by decide) ?_
      exact ih_4 (a + (lv i), (i + 1)) _ _ _ (by dsimp only; omega) ⟨_, rfl, lv_sub hl [2, 3, 1, 0] rfl, hW, ⟨by rw [fav, if_pos (by omega), ha], by omega⟩⟩
theorem gT_leavesAll : GoodIn gw (wsV RX10 150 RX10 yX10_leavesAll (Cond.code yX10_leavesAll cX10_leavesAll 3 (some .int) :: gw)) := gdV gw_1827 gw_1829 gw_42 gw_81 gw_1830
theorem hd_leavesAll : yX10_leavesAll.cls = RX10 ∧ yX10_leavesAll.cls ≠ "java/lang/invoke/MethodHandle" ∧ yX10_leavesAll.cls ≠ "java/lang/invoke/VarHandle" ∧ (parseMethodDescriptor yX10_leavesAll.desc).map (fun d => d.parameters.length) = some 0 := ⟨rfl, by decide +kernel, by decide +kernel, by decide +kernel⟩
theorem dX10_leavesAll_0 : decode cX10_leavesAll 0 = .ok (.iconst 0, 1) := by decide +kernel
theorem dX10_leavesAll_1 : decode cX10_leavesAll 1 = .ok (.istore_n 1, 1) := by decide +kernel
theorem dX10_leavesAll_2 : decode cX10_leavesAll 2 = .ok (.iconst 0, 1) := by decide +kernel
theorem dX10_leavesAll_3 : decode cX10_leavesAll 3 = .ok (.istore_n 2, 1) := by decide +kernel
theorem dX10_leavesAll_4 : decode cX10_leavesAll 4 = .ok (.iload_n 2, 1) := by decide +kernel
theorem dX10_leavesAll_5 : decode cX10_leavesAll 5 = .ok (.aload_n 0, 1) := by decide +kernel
theorem dX10_leavesAll_6 : decode cX10_leavesAll 6 = .ok (.getfield 9, 3) := by decide +kernel
theorem dX10_leavesAll_9 : decode cX10_leavesAll 9 = .ok (.iconst 0, 1) := by decide +kernel
theorem dX10_leavesAll_10 : decode cX10_leavesAll 10 = .ok (.iaload, 1) := by decide +kernel
theorem dX10_leavesAll_11 : decode cX10_leavesAll 11 = .ok (.if_icmp .ge 21, 3) := by decide +kernel
theorem dX10_leavesAll_14 : decode cX10_leavesAll 14 = .ok (.iload_n 1, 1) := by decide +kernel
theorem dX10_leavesAll_15 : decode cX10_leavesAll 15 = .ok (.aload_n 0, 1) := by decide +kernel
theorem dX10_leavesAll_16 : decode cX10_leavesAll 16 = .ok (.getfield 9, 3) := by decide +kernel
theorem dX10_leavesAll_19 : decode cX10_leavesAll 19 = .ok (.iload_n 2, 1) := by decide +kernel
theorem dX10_leavesAll_20 : decode cX10_leavesAll 20 = .ok (.invokestatic 86, 3) := by decide +kernel
theorem dX10_leavesAll_23 : decode cX10_leavesAll 23 = .ok (.iaload, 1) := by decide +kernel
theorem dX10_leavesAll_24 : decode cX10_leavesAll 24 = .ok (.iadd, 1) := by decide +kernel
theorem dX10_leavesAll_25 : decode cX10_leavesAll 25 = .ok (.istore_n 1, 1) := by decide +kernel
theorem dX10_leavesAll_26 : decode cX10_leavesAll 26 = .ok (.iinc 2 1, 3) := by decide +kernel
theorem dX10_leavesAll_29 : decode cX10_leavesAll 29 = .ok (.goto (-25), 3) := by decide +kernel
theorem dX10_leavesAll_32 : decode cX10_leavesAll 32 = .ok (.iload_n 1, 1) := by decide +kernel
theorem dX10_leavesAll_33 : decode cX10_leavesAll 33 = .ok (.ireturn, 1) := by decide +kernel
set_option maxHeartbeats 1000000 in
set_option maxRecDepth 20000 in
theorem m_leavesAll (l : Launch) (D : va_G) (aT : Nat → ClassId) (ad : Nat → Nat) (S : MSt) (h : Nat) (lv th ta : Nat → Nat) (hH : HeR (S 0) h lv th ta) : MdG l yX10_leavesAll cX10_leavesAll 3 .int 1 20 D aT ad [.ref (ad 0)] S (fun r => r = nI (sml lv h)) := by
  refine MdI.of (by decide +kernel) rfl (Nat.le_of_ble_eq_true rfl) ?_
  intro p e s m below meth c A ls C hml hl hA hr hlocks hW
  have hl : lv_has ls 3 [(0, .ref (ad 0))] := hl
  have hx := C.1
  have hb := C.2.1
  refine lv_iconst (v := nI 0) hx hb dX10_leavesAll_0 (by decide) ?_
  refine lv_istore_n (lv' := [(1, .int (nI 0)), (0, .ref (ad 0))]) hx hb dX10_leavesAll_1 rfl hl (by decide) rfl (fun ls hl => ?_)
  refine lv_iconst (v := nI 0) hx hb dX10_leavesAll_2 (by decide) ?_
  refine lv_istore_n (lv' := [(2, .int (nI 0)), (1, .int (nI 0)), (0, .ref (ad 0))]) hx hb dX10_leavesAll_3 rfl hl (by decide) rfl (fun ls hl => ?_)
  refine W_loopH (σ := Nat × Nat) (fun z_ => h - z_.2) (fun z_ H locs g => ∃ ls, g = F0 m 4 ls [] ∧ lv_has ls 3 [(0, .ref (ad 0)), (1, .int (nI z_.1)), (2, .int (nI z_.2))] ∧ MdB D aT ad S A s.heap H locs ∧ (z_.1 = sml lv z_.2 ∧ z_.2 ≤ h)) ?_ (0, 0) _ ⟨_, rfl, lv_sub hl [2, 1, 0] rfl, hW, ⟨rfl, Nat.zero_le _⟩⟩
  clear hW hl
  rintro ⟨a, i⟩ H locs g ⟨ls, rfl, hl, hW, ha, hih⟩ ih_4
  dsimp only at hl hW ha hih ⊢
  refine lv_iload_n hx hb dX10_leavesAll_4 rfl (lv_at hl 2 rfl) ?_
  refine lv_aload_n hx hb dX10_leavesAll_5 rfl (lv_at hl 0 rfl) ?_
  refine md_geta_m C hW dX10_leavesAll_6 ?_
  refine lv_iconst (v := nI 0) hx hb dX10_leavesAll_9 (by decide) ?_
  refine md_ald_m C hW (i := 0) (by omega) dX10_leavesAll_10 ?_
  refine r_eq (y := (nI h)) (hH.1) ?_
  refine r_geN hx hb (a := i) (b := h) (by have := hH.2.1; omega) (by have := hH.2.1; omega) (tgt := 32) dX10_leavesAll_11 (by decide) (fun c_11 => ?_) (fun c_11 => ?_)
  · refine lv_iload_n hx hb dX10_leavesAll_32 rfl (lv_at hl 1 rfl) ?_
    exact md_iret C hr hlocks rfl hW (⟨by rw [ha, show i = h by omega], rfl⟩) dX10_leavesAll_33
  · refine lv_iload_n hx hb dX10_leavesAll_14 rfl (lv_at hl 1 rfl) ?_
    refine lv_aload_n hx hb dX10_leavesAll_15 rfl (lv_at hl 0 rfl) ?_
    refine md_geta_m C hW dX10_leavesAll_16 ?_
    refine lv_iload_n hx hb dX10_leavesAll_19 rfl (lv_at hl 2 rfl) ?_
    refine md_calls C hml hl.1 (As := [.int (nI i)]) (rest := [.ref (ad 1), .int (nI a)]) (m_hedgeAt l i) gT_hedgeAt hd_hedgeAt rfl ⟨Nat.le_of_ble_eq_true rfl, Nat.le_of_ble_eq_true rfl⟩ ⟨Nat.le_refl _, Nat.le_refl _⟩ rfl (Nat.le_of_ble_eq_true rfl) dX10_leavesAll_20 (fun r_20 hq => ?_)
    subst hq
    refine md_ald_m C hW (i := (11 + 3 * i)) (by have := hH.2.1; omega) dX10_leavesAll_23 ?_
    refine r_eq (y := (nI (lv i))) ((hH.2.2.1 i (by omega)).1) ?_
    refine r_iaddN hx hb (a := a) (b := (lv i)) dX10_leavesAll_24 ?_
    refine lv_istore_n (lv' := [(1, .int (nI (a + (lv i)))), (0, .ref (ad 0)), (2, .int (nI i))]) hx hb dX10_leavesAll_25 rfl hl (by decide) rfl (fun ls hl => ?_)
    refine lv_iinc (v := (nI (i + 1))) (lv' := [(2, .int (nI (i + 1))), (1, .int (nI (a + (lv i)))), (0, .ref (ad 0))]) hx hb dX10_leavesAll_26 hl (k := 2) rfl (nI_1 _) (by decide) rfl (fun ls hl => ?_)
    refine lv_goto (tgt := 4) hx hb dX10_leavesAll_29 (by decide) ?_
    exact ih_4 (a + (lv i), (i + 1)) _ _ _ (by dsimp only; omega) ⟨_, rfl, lv_sub hl [2, 1, 0] rfl, hW, ⟨by rw [sml, ha], by omega⟩⟩
theorem gT_adds : GoodIn gw (wsV RX10 116 RX10 yX10_adds (Cond.code yX10_adds cX10_adds 5 (some .int) :: gw)) := gdV gw_1743 gw_1745 gw_26 gw_81 gw_1746
theorem hd_adds : yX10_adds.cls = RX10 ∧ yX10_adds.cls ≠ "java/lang/invoke/MethodHandle" ∧ yX10_adds.cls ≠ "java/lang/invoke/VarHandle" ∧ (parseMethodDescriptor yX10_adds.desc).map (fun d => d.parameters.length) = some 3 := ⟨rfl, by decide +kernel, by decide +kernel, by decide +kernel⟩
theorem dX10_adds_0 : decode cX10_adds 0 = .ok (.bipush 29, 2) := by decide +kernel
theorem dX10_adds_2 : decode cX10_adds 2 = .ok (.iconst 4, 1) := by decide +kernel
theorem dX10_adds_3 : decode cX10_adds 3 = .ok (.aload_n 0, 1) := by decide +kernel
theorem dX10_adds_4 : decode cX10_adds 4 = .ok (.getfield 9, 3) := by decide +kernel
theorem dX10_adds_7 : decode cX10_adds 7 = .ok (.iconst 2, 1) := by decide +kernel
theorem dX10_adds_8 : decode cX10_adds 8 = .ok (.iaload, 1) := by decide +kernel
theorem dX10_adds_9 : decode cX10_adds 9 = .ok (.imul, 1) := by decide +kernel
theorem dX10_adds_10 : decode cX10_adds 10 = .ok (.iadd, 1) := by decide +kernel
theorem dX10_adds_11 : decode cX10_adds 11 = .ok (.istore 4, 2) := by decide +kernel
theorem dX10_adds_13 : decode cX10_adds 13 = .ok (.aload_n 0, 1) := by decide +kernel
theorem dX10_adds_14 : decode cX10_adds 14 = .ok (.getfield 9, 3) := by decide +kernel
theorem dX10_adds_17 : decode cX10_adds 17 = .ok (.iload 4, 2) := by decide +kernel
theorem dX10_adds_19 : decode cX10_adds 19 = .ok (.aload_n 0, 1) := by decide +kernel
theorem dX10_adds_20 : decode cX10_adds 20 = .ok (.getfield 9, 3) := by decide +kernel
theorem dX10_adds_23 : decode cX10_adds 23 = .ok (.iconst 1, 1) := by decide +kernel
theorem dX10_adds_24 : decode cX10_adds 24 = .ok (.iaload, 1) := by decide +kernel
theorem dX10_adds_25 : decode cX10_adds 25 = .ok (.iastore, 1) := by decide +kernel
theorem dX10_adds_26 : decode cX10_adds 26 = .ok (.aload_n 0, 1) := by decide +kernel
theorem dX10_adds_27 : decode cX10_adds 27 = .ok (.getfield 9, 3) := by decide +kernel
theorem dX10_adds_30 : decode cX10_adds 30 = .ok (.iload 4, 2) := by decide +kernel
theorem dX10_adds_32 : decode cX10_adds 32 = .ok (.iconst 1, 1) := by decide +kernel
theorem dX10_adds_33 : decode cX10_adds 33 = .ok (.iadd, 1) := by decide +kernel
theorem dX10_adds_34 : decode cX10_adds 34 = .ok (.iload_n 1, 1) := by decide +kernel
theorem dX10_adds_35 : decode cX10_adds 35 = .ok (.iastore, 1) := by decide +kernel
theorem dX10_adds_36 : decode cX10_adds 36 = .ok (.aload_n 0, 1) := by decide +kernel
theorem dX10_adds_37 : decode cX10_adds 37 = .ok (.getfield 9, 3) := by decide +kernel
theorem dX10_adds_40 : decode cX10_adds 40 = .ok (.iload 4, 2) := by decide +kernel
theorem dX10_adds_42 : decode cX10_adds 42 = .ok (.iconst 2, 1) := by decide +kernel
theorem dX10_adds_43 : decode cX10_adds 43 = .ok (.iadd, 1) := by decide +kernel
theorem dX10_adds_44 : decode cX10_adds 44 = .ok (.iload_n 2, 1) := by decide +kernel
theorem dX10_adds_45 : decode cX10_adds 45 = .ok (.iastore, 1) := by decide +kernel
theorem dX10_adds_46 : decode cX10_adds 46 = .ok (.aload_n 0, 1) := by decide +kernel
theorem dX10_adds_47 : decode cX10_adds 47 = .ok (.getfield 9, 3) := by decide +kernel
theorem dX10_adds_50 : decode cX10_adds 50 = .ok (.iload 4, 2) := by decide +kernel
theorem dX10_adds_52 : decode cX10_adds 52 = .ok (.iconst 3, 1) := by decide +kernel
theorem dX10_adds_53 : decode cX10_adds 53 = .ok (.iadd, 1) := by decide +kernel
theorem dX10_adds_54 : decode cX10_adds 54 = .ok (.iload_n 3, 1) := by decide +kernel
theorem dX10_adds_55 : decode cX10_adds 55 = .ok (.iastore, 1) := by decide +kernel
theorem dX10_adds_56 : decode cX10_adds 56 = .ok (.aload_n 0, 1) := by decide +kernel
theorem dX10_adds_57 : decode cX10_adds 57 = .ok (.getfield 9, 3) := by decide +kernel
theorem dX10_adds_60 : decode cX10_adds 60 = .ok (.iconst 2, 1) := by decide +kernel
theorem dX10_adds_61 : decode cX10_adds 61 = .ok (.dup2, 1) := by decide +kernel
theorem dX10_adds_62 : decode cX10_adds 62 = .ok (.iaload, 1) := by decide +kernel
theorem dX10_adds_63 : decode cX10_adds 63 = .ok (.iconst 1, 1) := by decide +kernel
theorem dX10_adds_64 : decode cX10_adds 64 = .ok (.iadd, 1) := by decide +kernel
theorem dX10_adds_65 : decode cX10_adds 65 = .ok (.iastore, 1) := by decide +kernel
theorem dX10_adds_66 : decode cX10_adds 66 = .ok (.aload_n 0, 1) := by decide +kernel
theorem dX10_adds_67 : decode cX10_adds 67 = .ok (.getfield 9, 3) := by decide +kernel
theorem dX10_adds_70 : decode cX10_adds 70 = .ok (.iconst 1, 1) := by decide +kernel
theorem dX10_adds_71 : decode cX10_adds 71 = .ok (.dup2, 1) := by decide +kernel
theorem dX10_adds_72 : decode cX10_adds 72 = .ok (.iaload, 1) := by decide +kernel
theorem dX10_adds_73 : decode cX10_adds 73 = .ok (.iconst 1, 1) := by decide +kernel
theorem dX10_adds_74 : decode cX10_adds 74 = .ok (.iadd, 1) := by decide +kernel
theorem dX10_adds_75 : decode cX10_adds 75 = .ok (.iastore, 1) := by decide +kernel
theorem dX10_adds_76 : decode cX10_adds 76 = .ok (.aload_n 0, 1) := by decide +kernel
theorem dX10_adds_77 : decode cX10_adds 77 = .ok (.getfield 9, 3) := by decide +kernel
theorem dX10_adds_80 : decode cX10_adds 80 = .ok (.iload 4, 2) := by decide +kernel
theorem dX10_adds_82 : decode cX10_adds 82 = .ok (.iaload, 1) := by decide +kernel
theorem dX10_adds_83 : decode cX10_adds 83 = .ok (.ireturn, 1) := by decide +kernel
set_option maxHeartbeats 1000000 in
set_option maxRecDepth 20000 in
theorem m_adds (l : Launch) (D : va_G) (aT : Nat → ClassId) (ad : Nat → Nat) (S : MSt) (n : Nat) (p0 x w : Int32) (hn : S 0 2 = nI n) (h12 : n < 12) : MdI l yX10_adds cX10_adds 5 .int 0 0 D aT ad [.ref (ad 0), .int p0, .int x, .int w] S (fun r S1 => r = S 0 1 ∧ S1 = sr S 0 (addF (S 0) n p0 x w)) := by
  refine MdI.of (by decide +kernel) rfl (Nat.le_of_ble_eq_true rfl) ?_
  intro p e s m below meth c A ls C hml hl hA hr hlocks hW
  have hl : lv_has ls 5 [(0, .ref (ad 0)), (1, .int p0), (2, .int x), (3, .int w)] := hl
  have hx := C.1
  have hb := C.2.1
  refine lv_bipush (v := nI 29) hx hb dX10_adds_0 (by decide) ?_
  refine lv_iconst (v := nI 4) hx hb dX10_adds_2 (by decide) ?_
  refine lv_aload_n hx hb dX10_adds_3 rfl (lv_at hl 0 rfl) ?_
  refine md_geta_m C hW dX10_adds_4 ?_
  refine lv_iconst (v := nI 2) hx hb dX10_adds_7 (by decide) ?_
  refine md_ald_m C hW (i := 2) (by omega) dX10_adds_8 ?_
  refine r_eq (y := (nI n)) (hn) ?_
  refine r_imulN hx hb (a := 4) (b := n) dX10_adds_9 ?_
  refine r_iaddN hx hb (a := 29) (b := 4 * n) dX10_adds_10 ?_
  refine lv_istore (lv' := [(4, .int (nI (29 + 4 * n))), (0, .ref (ad 0)), (1, .int p0), (2, .int x), (3, .int w)]) hx hb dX10_adds_11 hl (by decide) rfl (fun ls hl => ?_)
  refine lv_aload_n hx hb dX10_adds_13 rfl (lv_at hl 1 rfl) ?_
  refine md_geta_m C hW dX10_adds_14 ?_
  refine lv_iload hx hb dX10_adds_17 (lv_at hl 0 rfl) ?_
  refine lv_aload_n hx hb dX10_adds_19 rfl (lv_at hl 1 rfl) ?_
  refine md_geta_m C hW dX10_adds_20 ?_
  refine lv_iconst (v := nI 1) hx hb dX10_adds_23 (by decide) ?_
  refine md_ald_m C hW (i := 1) (by omega) dX10_adds_24 ?_
  refine md_ast_m C hW (i := 29 + 4 * n) (by omega) dX10_adds_25 (fun H locs hW => ?_)
  refine lv_aload_n hx hb dX10_adds_26 rfl (lv_at hl 1 rfl) ?_
  refine md_geta_m C hW dX10_adds_27 ?_
  refine lv_iload hx hb dX10_adds_30 (lv_at hl 0 rfl) ?_
  refine lv_iconst (v := nI 1) hx hb dX10_adds_32 (by decide) ?_
  refine r_iaddN hx hb (a := 29 + 4 * n) (b := 1) dX10_adds_33 ?_
  refine lv_iload_n hx hb dX10_adds_34 rfl (lv_at hl 2 rfl) ?_
  refine md_ast_m C hW (i := 29 + 4 * n + 1) (by omega) dX10_adds_35 (fun H locs hW => ?_)
  refine lv_aload_n hx hb dX10_adds_36 rfl (lv_at hl 1 rfl) ?_
  refine md_geta_m C hW dX10_adds_37 ?_
  refine lv_iload hx hb dX10_adds_40 (lv_at hl 0 rfl) ?_
  refine lv_iconst (v := nI 2) hx hb dX10_adds_42 (by decide) ?_
  refine r_iaddN hx hb (a := 29 + 4 * n) (b := 2) dX10_adds_43 ?_
  refine lv_iload_n hx hb dX10_adds_44 rfl (lv_at hl 3 rfl) ?_
  refine md_ast_m C hW (i := 29 + 4 * n + 2) (by omega) dX10_adds_45 (fun H locs hW => ?_)
  refine lv_aload_n hx hb dX10_adds_46 rfl (lv_at hl 1 rfl) ?_
  refine md_geta_m C hW dX10_adds_47 ?_
  refine lv_iload hx hb dX10_adds_50 (lv_at hl 0 rfl) ?_
  refine lv_iconst (v := nI 3) hx hb dX10_adds_52 (by decide) ?_
  refine r_iaddN hx hb (a := 29 + 4 * n) (b := 3) dX10_adds_53 ?_
  refine lv_iload_n hx hb dX10_adds_54 rfl (lv_at hl 4 rfl) ?_
  refine md_ast_m C hW (i := 29 + 4 * n + 3) (by omega) dX10_adds_55 (fun H locs hW => ?_)
  refine lv_aload_n hx hb dX10_adds_56 rfl (lv_at hl 1 rfl) ?_
  refine md_geta_m C hW dX10_adds_57 ?_
  refine lv_iconst (v := nI 2) hx hb dX10_adds_60 (by decide) ?_
  refine lv_dup2_11 hx hb dX10_adds_61 rfl rfl ?_
  refine md_ald_m C hW (i := 2) (by omega) dX10_adds_62 ?_
  refine r_eq (y := (nI n)) (by simp only [sr, upd, ↓reduceIte]; (repeat rw [if_neg (by omega)]); exact hn) ?_
  refine lv_iconst (v := nI 1) hx hb dX10_adds_63 (by decide) ?_
  refine r_iaddN hx hb (a := n) (b := 1) dX10_adds_64 ?_
  refine md_ast_m C hW (i := 2) (by omega) dX10_adds_65 (fun H locs hW => ?_)
  refine lv_aload_n hx hb dX10_adds_66 rfl (lv_at hl 1 rfl) ?_
  refine md_geta_m C hW dX10_adds_67 ?_
  refine lv_iconst (v := nI 1) hx hb dX10_adds_70 (by decide) ?_
  refine lv_dup2_11 hx hb dX10_adds_71 rfl rfl ?_
  refine md_ald_m C hW (i := 1) (by omega) dX10_adds_72 ?_
  refine r_eq (y := (S 0 1)) (by simp only [sr, upd, ↓reduceIte]; (repeat rw [if_neg (by omega)]); first | done | rfl) ?_
  refine lv_iconst (v := nI 1) hx hb dX10_adds_73 (by decide) ?_
  refine lv_iadd hx hb dX10_adds_74 ?_
  refine md_ast_m C hW (i := 1) (by omega) dX10_adds_75 (fun H locs hW => ?_)
  refine lv_aload_n hx hb dX10_adds_76 rfl (lv_at hl 1 rfl) ?_
  refine md_geta_m C hW dX10_adds_77 ?_
  refine lv_iload hx hb dX10_adds_80 (lv_at hl 0 rfl) ?_
  refine md_ald_m C hW (i := 29 + 4 * n) (by omega) dX10_adds_82 ?_
  refine r_eq (y := (S 0 1)) (by simp only [sr, upd, ↓reduceIte]; (repeat rw [if_neg (by omega)]); first | done | rw [if_pos rfl] | rfl) ?_
  exact md_iret C hr hlocks rfl hW (⟨rfl, by simp only [sr_sr, sr_s]; rfl⟩) dX10_adds_83
theorem gT_drops : GoodIn gw (wsV RX10 128 RX10 yX10_drops (Cond.code yX10_drops cX10_drops 3 (none) :: gw)) := gdV gw_1783 gw_1785 gw_34 gw_81 gw_1786
theorem hd_drops : yX10_drops.cls = RX10 ∧ yX10_drops.cls ≠ "java/lang/invoke/MethodHandle" ∧ yX10_drops.cls ≠ "java/lang/invoke/VarHandle" ∧ (parseMethodDescriptor yX10_drops.desc).map (fun d => d.parameters.length) = some 1 := ⟨rfl, by decide +kernel, by decide +kernel, by decide +kernel⟩
theorem dX10_drops_0 : decode cX10_drops 0 = .ok (.bipush 29, 2) := by decide +kernel
theorem dX10_drops_2 : decode cX10_drops 2 = .ok (.iconst 4, 1) := by decide +kernel
theorem dX10_drops_3 : decode cX10_drops 3 = .ok (.iload_n 1, 1) := by decide +kernel
theorem dX10_drops_4 : decode cX10_drops 4 = .ok (.imul, 1) := by decide +kernel
theorem dX10_drops_5 : decode cX10_drops 5 = .ok (.iadd, 1) := by decide +kernel
theorem dX10_drops_6 : decode cX10_drops 6 = .ok (.istore_n 2, 1) := by decide +kernel
theorem dX10_drops_7 : decode cX10_drops 7 = .ok (.iload_n 2, 1) := by decide +kernel
theorem dX10_drops_8 : decode cX10_drops 8 = .ok (.bipush 73, 2) := by decide +kernel
theorem dX10_drops_10 : decode cX10_drops 10 = .ok (.if_icmp .ge 23, 3) := by decide +kernel
theorem dX10_drops_13 : decode cX10_drops 13 = .ok (.aload_n 0, 1) := by decide +kernel
theorem dX10_drops_14 : decode cX10_drops 14 = .ok (.getfield 9, 3) := by decide +kernel
theorem dX10_drops_17 : decode cX10_drops 17 = .ok (.iload_n 2, 1) := by decide +kernel
theorem dX10_drops_18 : decode cX10_drops 18 = .ok (.aload_n 0, 1) := by decide +kernel
theorem dX10_drops_19 : decode cX10_drops 19 = .ok (.getfield 9, 3) := by decide +kernel
theorem dX10_drops_22 : decode cX10_drops 22 = .ok (.iload_n 2, 1) := by decide +kernel
theorem dX10_drops_23 : decode cX10_drops 23 = .ok (.iconst 4, 1) := by decide +kernel
theorem dX10_drops_24 : decode cX10_drops 24 = .ok (.iadd, 1) := by decide +kernel
theorem dX10_drops_25 : decode cX10_drops 25 = .ok (.iaload, 1) := by decide +kernel
theorem dX10_drops_26 : decode cX10_drops 26 = .ok (.iastore, 1) := by decide +kernel
theorem dX10_drops_27 : decode cX10_drops 27 = .ok (.iinc 2 1, 3) := by decide +kernel
theorem dX10_drops_30 : decode cX10_drops 30 = .ok (.goto (-23), 3) := by decide +kernel
theorem dX10_drops_33 : decode cX10_drops 33 = .ok (.bipush 73, 2) := by decide +kernel
theorem dX10_drops_35 : decode cX10_drops 35 = .ok (.istore_n 2, 1) := by decide +kernel
theorem dX10_drops_36 : decode cX10_drops 36 = .ok (.iload_n 2, 1) := by decide +kernel
theorem dX10_drops_37 : decode cX10_drops 37 = .ok (.bipush 77, 2) := by decide +kernel
theorem dX10_drops_39 : decode cX10_drops 39 = .ok (.if_icmp .ge 16, 3) := by decide +kernel
theorem dX10_drops_42 : decode cX10_drops 42 = .ok (.aload_n 0, 1) := by decide +kernel
theorem dX10_drops_43 : decode cX10_drops 43 = .ok (.getfield 9, 3) := by decide +kernel
theorem dX10_drops_46 : decode cX10_drops 46 = .ok (.iload_n 2, 1) := by decide +kernel
theorem dX10_drops_47 : decode cX10_drops 47 = .ok (.iconst 0, 1) := by decide +kernel
theorem dX10_drops_48 : decode cX10_drops 48 = .ok (.iastore, 1) := by decide +kernel
theorem dX10_drops_49 : decode cX10_drops 49 = .ok (.iinc 2 1, 3) := by decide +kernel
theorem dX10_drops_52 : decode cX10_drops 52 = .ok (.goto (-16), 3) := by decide +kernel
theorem dX10_drops_55 : decode cX10_drops 55 = .ok (.aload_n 0, 1) := by decide +kernel
theorem dX10_drops_56 : decode cX10_drops 56 = .ok (.getfield 9, 3) := by decide +kernel
theorem dX10_drops_59 : decode cX10_drops 59 = .ok (.iconst 2, 1) := by decide +kernel
theorem dX10_drops_60 : decode cX10_drops 60 = .ok (.dup2, 1) := by decide +kernel
theorem dX10_drops_61 : decode cX10_drops 61 = .ok (.iaload, 1) := by decide +kernel
theorem dX10_drops_62 : decode cX10_drops 62 = .ok (.iconst 1, 1) := by decide +kernel
theorem dX10_drops_63 : decode cX10_drops 63 = .ok (.isub, 1) := by decide +kernel
theorem dX10_drops_64 : decode cX10_drops 64 = .ok (.iastore, 1) := by decide +kernel
theorem dX10_drops_65 : decode cX10_drops 65 = .ok (.return_, 1) := by decide +kernel
set_option maxHeartbeats 1000000 in
set_option maxRecDepth 20000 in
theorem m_drops (l : Launch) (D : va_G) (aT : Nat → ClassId) (ad : Nat → Nat) (S : MSt) (n k : Nat) (hn : S 0 2 = nI n) (h12 : n ≤ 12) (hk : k < n) : MdV l yX10_drops cX10_drops 3 0 0 D aT ad [.ref (ad 0), .int (nI k)] S (fun S1 => S1 = sr S 0 (dropF (S 0) k n)) := by
  refine MdV.of (by decide +kernel) rfl (Nat.le_of_ble_eq_true rfl) ?_
  intro p e s m below meth c A ls C hml hl hA hr hlocks hW
  have hl : lv_has ls 3 [(0, .ref (ad 0)), (1, .int (nI k))] := hl
  have hx := C.1
  have hb := C.2.1
  refine lv_bipush (v := nI 29) hx hb dX10_drops_0 (by decide) ?_
  refine lv_iconst (v := nI 4) hx hb dX10_drops_2 (by decide) ?_
  refine lv_iload_n hx hb dX10_drops_3 rfl (lv_at hl 1 rfl) ?_
  refine r_imulN hx hb (a := 4) (b := k) dX10_drops_4 ?_
  refine r_iaddN hx hb (a := 29) (b := 4 * k) dX10_drops_5 ?_
  refine lv_istore_n (lv' := [(2, .int (nI (29 + 4 * k))), (0, .ref (ad 0)), (1, .int (nI k))]) hx hb dX10_drops_6 rfl hl (by decide) rfl (fun ls hl => ?_)
  refine W_loopH (σ := Nat) (fun z_ => 73 - z_) (fun z_ H locs g => ∃ ls, g = F0 m 7 ls [] ∧ lv_has ls 3 [(0, .ref (ad 0)), (1, .int (nI k)), (2, .int (nI z_))] ∧ MdB D aT ad (sr S 0 (drpF (S 0) k z_)) A s.heap H locs ∧ (29 + 4 * k ≤ z_ ∧ z_ ≤ 73)) ?_ (29 + 4 * k) _ ⟨_, rfl, lv_sub hl [1, 2, 0] rfl, (by rw [drpF_0, sr_self]; exact hW), ⟨Nat.le_refl _, by omega⟩⟩
  clear hW hl
  rintro i H locs g ⟨ls, rfl, hl, hW, hi1, hi2⟩ ih_7
  refine lv_iload_n hx hb dX10_drops_7 rfl (lv_at hl 2 rfl) ?_
  refine lv_bipush (v := nI 73) hx hb dX10_drops_8 (by decide) ?_
  refine r_geN hx hb (a := i) (b := 73) (by omega) (by omega) (tgt := 33) dX10_drops_10 (by decide) (fun c_10 => ?_) (fun c_10 => ?_)
  · refine lv_bipush (v := nI 73) hx hb dX10_drops_33 (by decide) ?_
    refine lv_istore_n (lv' := [(2, .int (nI 73)), (0, .ref (ad 0)), (1, .int (nI k))]) hx hb dX10_drops_35 rfl hl (by decide) rfl (fun ls hl => ?_)
    refine W_loopH (σ := Nat) (fun z_ => 77 - z_) (fun z_ H locs g => ∃ ls, g = F0 m 36 ls [] ∧ lv_has ls 3 [(0, .ref (ad 0)), (1, .int (nI k)), (2, .int (nI z_))] ∧ MdB D aT ad (sr S 0 (drzF (S 0) k z_)) A s.heap H locs ∧ (73 ≤ z_ ∧ z_ ≤ 77)) ?_ 73 _ ⟨_, rfl, lv_sub hl [1, 2, 0] rfl, (by rw [drzF_0]; rw [show i = 73 by omega] at hW; exact hW), ⟨by omega, by omega⟩⟩
    clear hW hl
    rintro j H locs g ⟨ls, rfl, hl, hW, hj1, hj2⟩ ih_36
    refine lv_iload_n hx hb dX10_drops_36 rfl (lv_at hl 2 rfl) ?_
    refine lv_bipush (v := nI 77) hx hb dX10_drops_37 (by decide) ?_
    refine r_geN hx hb (a := j) (b := 77) (by omega) (by omega) (tgt := 55) dX10_drops_39 (by decide) (fun c_39 => ?_) (fun c_39 => ?_)
    · refine lv_aload_n hx hb dX10_drops_55 rfl (lv_at hl 0 rfl) ?_
      refine md_geta_m C hW dX10_drops_56 ?_
      refine lv_iconst (v := nI 2) hx hb dX10_drops_59 (by decide) ?_
      refine lv_dup2_11 hx hb dX10_drops_60 rfl rfl ?_
      refine md_ald_m C hW (i := 2) (by omega) dX10_drops_61 ?_
      refine r_eq (y := (nI n)) (by show drzF (S 0) k j 2 = nI n; unfold drzF drpF; rw [if_neg (by omega), if_neg (by omega)]; exact hn) ?_
      refine lv_iconst (v := nI 1) hx hb dX10_drops_62 (by decide) ?_
      refine r_isubN hx hb (a := n) (b := 1) (by omega) dX10_drops_63 ?_
      refine md_ast_m C hW (i := 2) (by omega) dX10_drops_64 (fun H locs hW => ?_)
      exact md_vret C hr hlocks hW (by rw [sr_sr, sr_s, show j = 77 by omega]; rfl) dX10_drops_65
    · refine lv_aload_n hx hb dX10_drops_42 rfl (lv_at hl 0 rfl) ?_
      refine md_geta_m C hW dX10_drops_43 ?_
      refine lv_iload_n hx hb dX10_drops_46 rfl (lv_at hl 2 rfl) ?_
      refine lv_iconst (v := nI 0) hx hb dX10_drops_47 (by decide) ?_
      refine md_ast_m C hW (i := j) (by omega) dX10_drops_48 (fun H locs hW => ?_)
      refine lv_iinc (v := (nI (j + 1))) (lv' := [(2, .int (nI (j + 1))), (0, .ref (ad 0)), (1, .int (nI k))]) hx hb dX10_drops_49 hl (k := 2) rfl (nI_1 _) (by decide) rfl (fun ls hl => ?_)
      refine lv_goto (tgt := 36) hx hb dX10_drops_52 (by decide) ?_
      exact ih_36 (j + 1) _ _ _ (by omega) ⟨_, rfl, lv_sub hl [1, 2, 0] rfl, (by rw [sr_sr, sr_s, drzF_1 _ _ _ hj1] at hW; exact hW), ⟨by omega, by omega⟩⟩
  · refine lv_aload_n hx hb dX10_drops_13 rfl (lv_at hl 0 rfl) ?_
    refine md_geta_m C hW dX10_drops_14 ?_
    refine lv_iload_n hx hb dX10_drops_17 rfl (lv_at hl 2 rfl) ?_
    refine lv_aload_n hx hb dX10_drops_18 rfl (lv_at hl 0 rfl) ?_
    refine md_geta_m C hW dX10_drops_19 ?_
    refine lv_iload_n hx hb dX10_drops_22 rfl (lv_at hl 2 rfl) ?_
    refine lv_iconst (v := nI 4) hx hb dX10_drops_23 (by decide) ?_
    refine r_iaddN hx hb (a := i) (b := 4) dX10_drops_24 ?_
    refine md_ald_m C hW (i := i + 4) (by omega) dX10_drops_25 ?_
    refine md_ast_m C hW (i := i) (by omega) dX10_drops_26 (fun H locs hW => ?_)
    refine lv_iinc (v := (nI (i + 1))) (lv' := [(2, .int (nI (i + 1))), (0, .ref (ad 0)), (1, .int (nI k))]) hx hb dX10_drops_27 hl (k := 2) rfl (nI_1 _) (by decide) rfl (fun ls hl => ?_)
    refine lv_goto (tgt := 7) hx hb dX10_drops_30 (by decide) ?_
    exact ih_7 (i + 1) _ _ _ (by omega) ⟨_, rfl, lv_sub hl [1, 2, 0] rfl, (by rw [sr_sr, sr_s, drpF_1 _ _ _ hi1] at hW; exact hW), ⟨by omega, by omega⟩⟩
theorem gT_starts : GoodIn gw (wsV RX10 104 RX10 yX10_starts (Cond.code yX10_starts cX10_starts 2 (none) :: gw)) := gdV gw_1710 gw_1712 gw_21 gw_81 gw_1713
theorem hd_starts : yX10_starts.cls = RX10 ∧ yX10_starts.cls ≠ "java/lang/invoke/MethodHandle" ∧ yX10_starts.cls ≠ "java/lang/invoke/VarHandle" ∧ (parseMethodDescriptor yX10_starts.desc).map (fun d => d.parameters.length) = some 0 := ⟨rfl, by decide +kernel, by decide +kernel, by decide +kernel⟩
theorem dX10_starts_0 : decode cX10_starts 0 = .ok (.aload_n 0, 1) := by decide +kernel
theorem dX10_starts_1 : decode cX10_starts 1 = .ok (.iconst 0, 1) := by decide +kernel
theorem dX10_starts_2 : decode cX10_starts 2 = .ok (.putfield 57, 3) := by decide +kernel
theorem dX10_starts_5 : decode cX10_starts 5 = .ok (.iconst 0, 1) := by decide +kernel
theorem dX10_starts_6 : decode cX10_starts 6 = .ok (.istore_n 1, 1) := by decide +kernel
theorem dX10_starts_7 : decode cX10_starts 7 = .ok (.iload_n 1, 1) := by decide +kernel
theorem dX10_starts_8 : decode cX10_starts 8 = .ok (.bipush 77, 2) := by decide +kernel
theorem dX10_starts_10 : decode cX10_starts 10 = .ok (.if_icmp .ge 21, 3) := by decide +kernel
theorem dX10_starts_13 : decode cX10_starts 13 = .ok (.aload_n 0, 1) := by decide +kernel
theorem dX10_starts_14 : decode cX10_starts 14 = .ok (.getfield 13, 3) := by decide +kernel
theorem dX10_starts_17 : decode cX10_starts 17 = .ok (.iload_n 1, 1) := by decide +kernel
theorem dX10_starts_18 : decode cX10_starts 18 = .ok (.aload_n 0, 1) := by decide +kernel
theorem dX10_starts_19 : decode cX10_starts 19 = .ok (.getfield 9, 3) := by decide +kernel
theorem dX10_starts_22 : decode cX10_starts 22 = .ok (.iload_n 1, 1) := by decide +kernel
theorem dX10_starts_23 : decode cX10_starts 23 = .ok (.iaload, 1) := by decide +kernel
theorem dX10_starts_24 : decode cX10_starts 24 = .ok (.iastore, 1) := by decide +kernel
theorem dX10_starts_25 : decode cX10_starts 25 = .ok (.iinc 1 1, 3) := by decide +kernel
theorem dX10_starts_28 : decode cX10_starts 28 = .ok (.goto (-21), 3) := by decide +kernel
theorem dX10_starts_31 : decode cX10_starts 31 = .ok (.return_, 1) := by decide +kernel
set_option maxHeartbeats 1000000 in
set_option maxRecDepth 20000 in
theorem m_starts (l : Launch) (D : va_G) (aT : Nat → ClassId) (ad : Nat → Nat) (S : MSt) : MdV l yX10_starts cX10_starts 2 0 0 D aT ad [.ref (ad 0)] S (fun S1 => S1 = sr (ss S 8 (nI 0)) 1 (cpyF (S 1) (S 0) 77)) := by
  refine MdV.of (by decide +kernel) rfl (Nat.le_of_ble_eq_true rfl) ?_
  intro p e s m below meth c A ls C hml hl hA hr hlocks hW
  have hl : lv_has ls 2 [(0, .ref (ad 0))] := hl
  have hx := C.1
  have hb := C.2.1
  refine lv_aload_n hx hb dX10_starts_0 rfl (lv_at hl 0 rfl) ?_
  refine lv_iconst (v := nI 0) hx hb dX10_starts_1 (by decide) ?_
  refine md_put_thrown C hW dX10_starts_2 (fun H locs hW => ?_)
  refine lv_iconst (v := nI 0) hx hb dX10_starts_5 (by decide) ?_
  refine lv_istore_n (lv' := [(1, .int (nI 0)), (0, .ref (ad 0))]) hx hb dX10_starts_6 rfl hl (by decide) rfl (fun ls hl => ?_)
  refine W_loopH (σ := Nat) (fun z_ => 77 - z_) (fun z_ H locs g => ∃ ls, g = F0 m 7 ls [] ∧ lv_has ls 2 [(0, .ref (ad 0)), (1, .int (nI z_))] ∧ MdB D aT ad (sr (ss S 8 (nI 0)) 1 (cpyF (S 1) (S 0) z_)) A s.heap H locs ∧ (z_ ≤ 77)) ?_ 0 _ ⟨_, rfl, lv_sub hl [1, 0] rfl, (by rw [cpyF_0, show S 1 = (ss S 8 (nI 0)) 1 from rfl, sr_self]; exact hW), Nat.zero_le _⟩
  clear hW hl
  rintro i H locs g ⟨ls, rfl, hl, hW, hi⟩ ih_7
  refine lv_iload_n hx hb dX10_starts_7 rfl (lv_at hl 1 rfl) ?_
  refine lv_bipush (v := nI 77) hx hb dX10_starts_8 (by decide) ?_
  refine r_geN hx hb (a := i) (b := 77) (by omega) (by omega) (tgt := 31) dX10_starts_10 (by decide) (fun c_10 => ?_) (fun c_10 => ?_)
  · exact md_vret C hr hlocks hW (by rw [show i = 77 by omega]) dX10_starts_31
  · refine lv_aload_n hx hb dX10_starts_13 rfl (lv_at hl 0 rfl) ?_
    refine md_geta_aside C hW dX10_starts_14 ?_
    refine lv_iload_n hx hb dX10_starts_17 rfl (lv_at hl 1 rfl) ?_
    refine lv_aload_n hx hb dX10_starts_18 rfl (lv_at hl 0 rfl) ?_
    refine md_geta_m C hW dX10_starts_19 ?_
    refine lv_iload_n hx hb dX10_starts_22 rfl (lv_at hl 1 rfl) ?_
    refine md_ald_m C hW (i := i) (by omega) dX10_starts_23 ?_
    refine r_eq (y := (S 0 i)) (rfl) ?_
    refine md_ast_aside C hW (i := i) (by omega) dX10_starts_24 (fun H locs hW => ?_)
    refine lv_iinc (v := (nI (i + 1))) (lv' := [(1, .int (nI (i + 1))), (0, .ref (ad 0))]) hx hb dX10_starts_25 hl (k := 1) rfl (nI_1 _) (by decide) rfl (fun ls hl => ?_)
    refine lv_goto (tgt := 7) hx hb dX10_starts_28 (by decide) ?_
    exact ih_7 (i + 1) _ _ _ (by omega) ⟨_, rfl, lv_sub hl [1, 0] rfl, (by rw [sr_sr, sr_s, cpyF_1] at hW; exact hW), (by omega)⟩
theorem gT_changed : GoodIn gw (wsV RX10 111 RX10 yX10_changed (Cond.code yX10_changed cX10_changed 3 (some .int) :: gw)) := gdV gw_1730 gw_1732 gw_24 gw_81 gw_1733
theorem hd_changed : yX10_changed.cls = RX10 ∧ yX10_changed.cls ≠ "java/lang/invoke/MethodHandle" ∧ yX10_changed.cls ≠ "java/lang/invoke/VarHandle" ∧ (parseMethodDescriptor yX10_changed.desc).map (fun d => d.parameters.length) = some 1 := ⟨rfl, by decide +kernel, by decide +kernel, by decide +kernel⟩
theorem dX10_changed_0 : decode cX10_changed 0 = .ok (.aload_n 0, 1) := by decide +kernel
theorem dX10_changed_1 : decode cX10_changed 1 = .ok (.getfield 57, 3) := by decide +kernel
theorem dX10_changed_4 : decode cX10_changed 4 = .ok (.ifCond .le 5, 3) := by decide +kernel
theorem dX10_changed_7 : decode cX10_changed 7 = .ok (.iload_n 1, 1) := by decide +kernel
theorem dX10_changed_8 : decode cX10_changed 8 = .ok (.ireturn, 1) := by decide +kernel
theorem dX10_changed_9 : decode cX10_changed 9 = .ok (.aload_n 0, 1) := by decide +kernel
theorem dX10_changed_10 : decode cX10_changed 10 = .ok (.getfield 60, 3) := by decide +kernel
theorem dX10_changed_13 : decode cX10_changed 13 = .ok (.bipush 8, 2) := by decide +kernel
theorem dX10_changed_15 : decode cX10_changed 15 = .ok (.if_icmp .ne 43, 3) := by decide +kernel
theorem dX10_changed_18 : decode cX10_changed 18 = .ok (.iconst 0, 1) := by decide +kernel
theorem dX10_changed_19 : decode cX10_changed 19 = .ok (.istore_n 2, 1) := by decide +kernel
theorem dX10_changed_20 : decode cX10_changed 20 = .ok (.iload_n 2, 1) := by decide +kernel
theorem dX10_changed_21 : decode cX10_changed 21 = .ok (.sipush 539, 3) := by decide +kernel
theorem dX10_changed_24 : decode cX10_changed 24 = .ok (.if_icmp .ge 24, 3) := by decide +kernel
theorem dX10_changed_27 : decode cX10_changed 27 = .ok (.aload_n 0, 1) := by decide +kernel
theorem dX10_changed_28 : decode cX10_changed 28 = .ok (.getfield 19, 3) := by decide +kernel
theorem dX10_changed_31 : decode cX10_changed 31 = .ok (.iload_n 2, 1) := by decide +kernel
theorem dX10_changed_32 : decode cX10_changed 32 = .ok (.aload_n 0, 1) := by decide +kernel
theorem dX10_changed_33 : decode cX10_changed 33 = .ok (.getfield 19, 3) := by decide +kernel
theorem dX10_changed_36 : decode cX10_changed 36 = .ok (.iload_n 2, 1) := by decide +kernel
theorem dX10_changed_37 : decode cX10_changed 37 = .ok (.bipush 77, 2) := by decide +kernel
theorem dX10_changed_39 : decode cX10_changed 39 = .ok (.iadd, 1) := by decide +kernel
theorem dX10_changed_40 : decode cX10_changed 40 = .ok (.iaload, 1) := by decide +kernel
theorem dX10_changed_41 : decode cX10_changed 41 = .ok (.iastore, 1) := by decide +kernel
theorem dX10_changed_42 : decode cX10_changed 42 = .ok (.iinc 2 1, 3) := by decide +kernel
theorem dX10_changed_45 : decode cX10_changed 45 = .ok (.goto (-25), 3) := by decide +kernel
theorem dX10_changed_48 : decode cX10_changed 48 = .ok (.aload_n 0, 1) := by decide +kernel
theorem dX10_changed_49 : decode cX10_changed 49 = .ok (.dup, 1) := by decide +kernel
theorem dX10_changed_50 : decode cX10_changed 50 = .ok (.getfield 60, 3) := by decide +kernel
theorem dX10_changed_53 : decode cX10_changed 53 = .ok (.iconst 1, 1) := by decide +kernel
theorem dX10_changed_54 : decode cX10_changed 54 = .ok (.isub, 1) := by decide +kernel
theorem dX10_changed_55 : decode cX10_changed 55 = .ok (.putfield 60, 3) := by decide +kernel
theorem dX10_changed_58 : decode cX10_changed 58 = .ok (.iconst 0, 1) := by decide +kernel
theorem dX10_changed_59 : decode cX10_changed 59 = .ok (.istore_n 2, 1) := by decide +kernel
theorem dX10_changed_60 : decode cX10_changed 60 = .ok (.iload_n 2, 1) := by decide +kernel
theorem dX10_changed_61 : decode cX10_changed 61 = .ok (.bipush 77, 2) := by decide +kernel
theorem dX10_changed_63 : decode cX10_changed 63 = .ok (.if_icmp .ge 29, 3) := by decide +kernel
theorem dX10_changed_66 : decode cX10_changed 66 = .ok (.aload_n 0, 1) := by decide +kernel
theorem dX10_changed_67 : decode cX10_changed 67 = .ok (.getfield 19, 3) := by decide +kernel
theorem dX10_changed_70 : decode cX10_changed 70 = .ok (.bipush 77, 2) := by decide +kernel
theorem dX10_changed_72 : decode cX10_changed 72 = .ok (.aload_n 0, 1) := by decide +kernel
theorem dX10_changed_73 : decode cX10_changed 73 = .ok (.getfield 60, 3) := by decide +kernel
theorem dX10_changed_76 : decode cX10_changed 76 = .ok (.imul, 1) := by decide +kernel
theorem dX10_changed_77 : decode cX10_changed 77 = .ok (.iload_n 2, 1) := by decide +kernel
theorem dX10_changed_78 : decode cX10_changed 78 = .ok (.iadd, 1) := by decide +kernel
theorem dX10_changed_79 : decode cX10_changed 79 = .ok (.aload_n 0, 1) := by decide +kernel
theorem dX10_changed_80 : decode cX10_changed 80 = .ok (.getfield 13, 3) := by decide +kernel
theorem dX10_changed_83 : decode cX10_changed 83 = .ok (.iload_n 2, 1) := by decide +kernel
theorem dX10_changed_84 : decode cX10_changed 84 = .ok (.iaload, 1) := by decide +kernel
theorem dX10_changed_85 : decode cX10_changed 85 = .ok (.iastore, 1) := by decide +kernel
theorem dX10_changed_86 : decode cX10_changed 86 = .ok (.iinc 2 1, 3) := by decide +kernel
theorem dX10_changed_89 : decode cX10_changed 89 = .ok (.goto (-29), 3) := by decide +kernel
theorem dX10_changed_92 : decode cX10_changed 92 = .ok (.aload_n 0, 1) := by decide +kernel
theorem dX10_changed_93 : decode cX10_changed 93 = .ok (.dup, 1) := by decide +kernel
theorem dX10_changed_94 : decode cX10_changed 94 = .ok (.getfield 60, 3) := by decide +kernel
theorem dX10_changed_97 : decode cX10_changed 97 = .ok (.iconst 1, 1) := by decide +kernel
theorem dX10_changed_98 : decode cX10_changed 98 = .ok (.iadd, 1) := by decide +kernel
theorem dX10_changed_99 : decode cX10_changed 99 = .ok (.putfield 60, 3) := by decide +kernel
theorem dX10_changed_102 : decode cX10_changed 102 = .ok (.iload_n 1, 1) := by decide +kernel
theorem dX10_changed_103 : decode cX10_changed 103 = .ok (.ireturn, 1) := by decide +kernel
set_option maxHeartbeats 1000000 in
set_option maxRecDepth 20000 in
theorem m_changed (l : Launch) (D : va_G) (aT : Nat → ClassId) (ad : Nat → Nat) (S : MSt) (t : Int32) (tt ch : Nat) (htt : S 13 8 = nI tt) (hlt : tt < 1024) (hch : S 13 5 = nI ch) (hc8 : ch ≤ 8) : MdI l yX10_changed cX10_changed 3 .int 0 0 D aT ad [.ref (ad 0), .int t] S (fun r S1 => r = t ∧ S1 = if tt = 0 then ss (sr S 3 (pstF (S 3) (S 1) ch)) 5 (nI (min ch 7 + 1)) else S) := by
  refine MdI.of (by decide +kernel) rfl (Nat.le_of_ble_eq_true rfl) ?_
  intro p e s m below meth c A ls C hml hl hA hr hlocks hW
  have hl : lv_has ls 3 [(0, .ref (ad 0)), (1, .int t)] := hl
  have hx := C.1
  have hb := C.2.1
  refine lv_aload_n hx hb dX10_changed_0 rfl (lv_at hl 0 rfl) ?_
  refine md_get_thrown C hW dX10_changed_1 ?_
  refine r_eq (y := (nI tt)) (htt) ?_
  refine r_ifleN hx hb (a := tt) (by omega) (tgt := 9) dX10_changed_4 (by decide) (fun c_4 => ?_) (fun c_4 => ?_)
  · refine lv_aload_n hx hb dX10_changed_9 rfl (lv_at hl 0 rfl) ?_
    refine md_get_changes C hW dX10_changed_10 ?_
    refine r_eq (y := (nI ch)) (hch) ?_
    refine lv_bipush (v := nI 8) hx hb dX10_changed_13 (by decide) ?_
    refine r_neN hx hb (a := ch) (b := 8) (by omega) (by omega) (tgt := 58) dX10_changed_15 (by decide) (fun c_15 => ?_) (fun c_15 => ?_)
    · refine lv_iconst (v := nI 0) hx hb dX10_changed_58 (by decide) ?_
      refine lv_istore_n (lv' := [(2, .int (nI 0)), (0, .ref (ad 0)), (1, .int t)]) hx hb dX10_changed_59 rfl hl (by decide) rfl (fun ls hl => ?_)
      refine W_loopH (σ := Nat) (fun z_ => 77 - z_) (fun z_ H locs g => ∃ ls, g = F0 m 60 ls [] ∧ lv_has ls 3 [(0, .ref (ad 0)), (1, .int t), (2, .int (nI z_))] ∧ MdB D aT ad (sr S 3 (putF (S 3) (S 1) (77 * ch) z_)) A s.heap H locs ∧ (z_ ≤ 77)) ?_ 0 _ ⟨_, rfl, lv_sub hl [1, 2, 0] rfl, (by rw [putF_0, sr_self]; exact hW), Nat.zero_le _⟩
      clear hW hl
      rintro j H locs g ⟨ls, rfl, hl, hW, hj⟩ ih_60
      refine lv_iload_n hx hb dX10_changed_60 rfl (lv_at hl 2 rfl) ?_
      refine lv_bipush (v := nI 77) hx hb dX10_changed_61 (by decide) ?_
      refine r_geN hx hb (a := j) (b := 77) (by omega) (by omega) (tgt := 92) dX10_changed_63 (by decide) (fun c_63 => ?_) (fun c_63 => ?_)
      · refine lv_aload_n hx hb dX10_changed_92 rfl (lv_at hl 0 rfl) ?_
        refine lv_dup hx hb dX10_changed_93 rfl ?_
        refine md_get_changes C hW dX10_changed_94 ?_
        refine r_eq (y := (nI ch)) (hch) ?_
        refine lv_iconst (v := nI 1) hx hb dX10_changed_97 (by decide) ?_
        refine r_iaddN hx hb (a := ch) (b := 1) dX10_changed_98 ?_
        refine md_put_changes C hW dX10_changed_99 (fun H locs hW => ?_)
        refine lv_iload_n hx hb dX10_changed_102 rfl (lv_at hl 1 rfl) ?_
        exact md_iret C hr hlocks rfl hW (⟨rfl, by rw [if_pos c_4, pstF, if_neg c_15, show min ch 7 = ch by omega, show j = 77 by omega]⟩) dX10_changed_103
      · refine lv_aload_n hx hb dX10_changed_66 rfl (lv_at hl 0 rfl) ?_
        refine md_geta_past C hW dX10_changed_67 ?_
        refine lv_bipush (v := nI 77) hx hb dX10_changed_70 (by decide) ?_
        refine lv_aload_n hx hb dX10_changed_72 rfl (lv_at hl 0 rfl) ?_
        refine md_get_changes C hW dX10_changed_73 ?_
        refine r_eq (y := (nI ch)) (hch) ?_
        refine r_imulN hx hb (a := 77) (b := ch) dX10_changed_76 ?_
        refine lv_iload_n hx hb dX10_changed_77 rfl (lv_at hl 2 rfl) ?_
        refine r_iaddN hx hb (a := 77 * ch) (b := j) dX10_changed_78 ?_
        refine lv_aload_n hx hb dX10_changed_79 rfl (lv_at hl 0 rfl) ?_
        refine md_geta_aside C hW dX10_changed_80 ?_
        refine lv_iload_n hx hb dX10_changed_83 rfl (lv_at hl 2 rfl) ?_
        refine md_ald_aside C hW (i := j) (by omega) dX10_changed_84 ?_
        refine r_eq (y := (S 1 j)) (rfl) ?_
        refine md_ast_past C hW (i := 77 * ch + j) (by omega) dX10_changed_85 (fun H locs hW => ?_)
        refine lv_iinc (v := (nI (j + 1))) (lv' := [(2, .int (nI (j + 1))), (0, .ref (ad 0)), (1, .int t)]) hx hb dX10_changed_86 hl (k := 2) rfl (nI_1 _) (by decide) rfl (fun ls hl => ?_)
        refine lv_goto (tgt := 60) hx hb dX10_changed_89 (by decide) ?_
        exact ih_60 (j + 1) _ _ _ (by omega) ⟨_, rfl, lv_sub hl [1, 2, 0] rfl, (by rw [sr_sr, sr_s, putF_1] at hW; exact hW), (by omega)⟩
    · refine lv_iconst (v := nI 0) hx hb dX10_changed_18 (by decide) ?_
      refine lv_istore_n (lv' := [(2, .int (nI 0)), (0, .ref (ad 0)), (1, .int t)]) hx hb dX10_changed_19 rfl hl (by decide) rfl (fun ls hl => ?_)
      refine W_loopH (σ := Nat) (fun z_ => 539 - z_) (fun z_ H locs g => ∃ ls, g = F0 m 20 ls [] ∧ lv_has ls 3 [(0, .ref (ad 0)), (1, .int t), (2, .int (nI z_))] ∧ MdB D aT ad (sr S 3 (shF (S 3) z_)) A s.heap H locs ∧ (z_ ≤ 539)) ?_ 0 _ ⟨_, rfl, lv_sub hl [1, 2, 0] rfl, (by rw [shF_0, sr_self]; exact hW), Nat.zero_le _⟩
      clear hW hl
      rintro i H locs g ⟨ls, rfl, hl, hW, hi⟩ ih_20
      refine lv_iload_n hx hb dX10_changed_20 rfl (lv_at hl 2 rfl) ?_
      refine lv_sipush (v := nI 539) hx hb dX10_changed_21 (by decide) ?_
      refine r_geN hx hb (a := i) (b := 539) (by omega) (by omega) (tgt := 48) dX10_changed_24 (by decide) (fun c_24 => ?_) (fun c_24 => ?_)
      · refine lv_aload_n hx hb dX10_changed_48 rfl (lv_at hl 0 rfl) ?_
        refine lv_dup hx hb dX10_changed_49 rfl ?_
        refine md_get_changes C hW dX10_changed_50 ?_
        refine r_eq (y := (nI ch)) (hch) ?_
        refine lv_iconst (v := nI 1) hx hb dX10_changed_53 (by decide) ?_
        refine r_isubN hx hb (a := ch) (b := 1) (by omega) dX10_changed_54 ?_
        refine md_put_changes C hW dX10_changed_55 (fun H locs hW => ?_)
        have hW : MdB D aT ad (ss (sr S 3 (shF (S 3) i)) 5 (nI 7)) A s.heap H locs := by rw [show nI 7 = nI (ch - 1) by rw [c_15]]; exact hW
        refine lv_iconst (v := nI 0) hx hb dX10_changed_58 (by decide) ?_
        refine lv_istore_n (lv' := [(2, .int (nI 0)), (0, .ref (ad 0)), (1, .int t)]) hx hb dX10_changed_59 rfl hl (by decide) rfl (fun ls hl => ?_)
        refine W_loopH (σ := Nat) (fun z_ => 77 - z_) (fun z_ H locs g => ∃ ls, g = F0 m 60 ls [] ∧ lv_has ls 3 [(0, .ref (ad 0)), (1, .int t), (2, .int (nI z_))] ∧ MdB D aT ad (ss (sr S 3 (putF (shF (S 3) 539) (S 1) (77 * 7) z_)) 5 (nI 7)) A s.heap H locs ∧ (z_ ≤ 77)) ?_ 0 _ ⟨_, rfl, lv_sub hl [1, 2, 0] rfl, (by rw [putF_0]; rw [show i = 539 by omega] at hW; exact hW), Nat.zero_le _⟩
        clear hW hl
        rintro j H locs g ⟨ls, rfl, hl, hW, hj⟩ ih_60
        refine lv_iload_n hx hb dX10_changed_60 rfl (lv_at hl 2 rfl) ?_
        refine lv_bipush (v := nI 77) hx hb dX10_changed_61 (by decide) ?_
        refine r_geN hx hb (a := j) (b := 77) (by omega) (by omega) (tgt := 92) dX10_changed_63 (by decide) (fun c_63 => ?_) (fun c_63 => ?_)
        · refine lv_aload_n hx hb dX10_changed_92 rfl (lv_at hl 0 rfl) ?_
          refine lv_dup hx hb dX10_changed_93 rfl ?_
          refine md_get_changes C hW dX10_changed_94 ?_
          refine r_eq (y := (nI 7)) (ss_s _ _ _) ?_
          refine lv_iconst (v := nI 1) hx hb dX10_changed_97 (by decide) ?_
          refine r_iaddN hx hb (a := 7) (b := 1) dX10_changed_98 ?_
          refine md_put_changes C hW dX10_changed_99 (fun H locs hW => ?_)
          refine lv_iload_n hx hb dX10_changed_102 rfl (lv_at hl 1 rfl) ?_
          exact md_iret C hr hlocks rfl hW (⟨rfl, by rw [if_pos c_4, pstF, if_pos c_15, ss_ss, c_15, show j = 77 by omega]; rfl⟩) dX10_changed_103
        · refine lv_aload_n hx hb dX10_changed_66 rfl (lv_at hl 0 rfl) ?_
          refine md_geta_past C hW dX10_changed_67 ?_
          refine lv_bipush (v := nI 77) hx hb dX10_changed_70 (by decide) ?_
          refine lv_aload_n hx hb dX10_changed_72 rfl (lv_at hl 0 rfl) ?_
          refine md_get_changes C hW dX10_changed_73 ?_
          refine r_eq (y := (nI 7)) (ss_s _ _ _) ?_
          refine r_imulN hx hb (a := 77) (b := 7) dX10_changed_76 ?_
          refine lv_iload_n hx hb dX10_changed_77 rfl (lv_at hl 2 rfl) ?_
          refine r_iaddN hx hb (a := 77 * 7) (b := j) dX10_changed_78 ?_
          refine lv_aload_n hx hb dX10_changed_79 rfl (lv_at hl 0 rfl) ?_
          refine md_geta_aside C hW dX10_changed_80 ?_
          refine lv_iload_n hx hb dX10_changed_83 rfl (lv_at hl 2 rfl) ?_
          refine md_ald_aside C hW (i := j) (by omega) dX10_changed_84 ?_
          refine r_eq (y := (S 1 j)) (rfl) ?_
          refine md_ast_past C hW (i := 77 * 7 + j) (by omega) dX10_changed_85 (fun H locs hW => ?_)
          refine lv_iinc (v := (nI (j + 1))) (lv' := [(2, .int (nI (j + 1))), (0, .ref (ad 0)), (1, .int t)]) hx hb dX10_changed_86 hl (k := 2) rfl (nI_1 _) (by decide) rfl (fun ls hl => ?_)
          refine lv_goto (tgt := 60) hx hb dX10_changed_89 (by decide) ?_
          exact ih_60 (j + 1) _ _ _ (by omega) ⟨_, rfl, lv_sub hl [1, 2, 0] rfl, (by rw [sr_ss _ _ _ _ _ (by decide), sr_sr, ss_n _ _ _ _ (by decide), sr_s, putF_1] at hW; exact hW), (by omega)⟩
      · refine lv_aload_n hx hb dX10_changed_27 rfl (lv_at hl 0 rfl) ?_
        refine md_geta_past C hW dX10_changed_28 ?_
        refine lv_iload_n hx hb dX10_changed_31 rfl (lv_at hl 2 rfl) ?_
        refine lv_aload_n hx hb dX10_changed_32 rfl (lv_at hl 0 rfl) ?_
        refine md_geta_past C hW dX10_changed_33 ?_
        refine lv_iload_n hx hb dX10_changed_36 rfl (lv_at hl 2 rfl) ?_
        refine lv_bipush (v := nI 77) hx hb dX10_changed_37 (by decide) ?_
        refine r_iaddN hx hb (a := i) (b := 77) dX10_changed_39 ?_
        refine md_ald_past C hW (i := i + 77) (by omega) dX10_changed_40 ?_
        refine md_ast_past C hW (i := i) (by omega) dX10_changed_41 (fun H locs hW => ?_)
        refine lv_iinc (v := (nI (i + 1))) (lv' := [(2, .int (nI (i + 1))), (0, .ref (ad 0)), (1, .int t)]) hx hb dX10_changed_42 hl (k := 2) rfl (nI_1 _) (by decide) rfl (fun ls hl => ?_)
        refine lv_goto (tgt := 20) hx hb dX10_changed_45 (by decide) ?_
        exact ih_20 (i + 1) _ _ _ (by omega) ⟨_, rfl, lv_sub hl [1, 2, 0] rfl, (by rw [sr_sr, sr_s, shF_1] at hW; exact hW), (by omega)⟩
  · refine lv_iload_n hx hb dX10_changed_7 rfl (lv_at hl 1 rfl) ?_
    exact md_iret C hr hlocks rfl hW (⟨rfl, by rw [if_neg (by omega)]⟩) dX10_changed_8
end
section
/-- places behind and ahead of a motion that is taken out -/
def sk (k j : Nat) : Nat := if j < k then j else j + 1
def un (k i : Nat) : Nat := if i < k then i else i - 1
def drP (pr : Nat → Option Nat) (k : Nat) : Nat → Option Nat := fun j => (pr (sk k j)).map (un k)
theorem sk_un {k i : Nat} (h : i ≠ k) : sk k (un k i) = i := by
  unfold sk un; split <;> (try split) <;> omega
theorem un_sk {k j : Nat} : un k (sk k j) = j := by
  unfold sk un; split <;> (try split) <;> omega
theorem sk_inj {k i j : Nat} (h : sk k i = sk k j) : i = j := by
  unfold sk at h; split at h <;> split at h <;> omega
theorem sk_lt {k j n : Nat} (h : j < n - 1) : sk k j < n := by
  unfold sk; split <;> omega
theorem drP_ok {pr : Nat → Option Nat} {n k : Nat} (h : ParOk pr n) (ht : ∀ j, j < n → pr j ≠ some k) : ParOk (drP pr k) (n - 1) := by
  intro j i hj hp
  unfold drP at hp
  cases hq : pr (sk k j) with
  | none => rw [hq] at hp; cases hp
  | some q =>
    rw [hq] at hp
    have h1 := h _ _ (sk_lt hj) hq
    have h2 : q ≠ k := fun z => ht _ (sk_lt hj) (by rw [hq, z])
    have h3 : un k q = i := Option.some.inj hp
    unfold sk at h1
    unfold un at h3
    split at h1 <;> split at h3 <;> omega
theorem drP_dep {pr : Nat → Option Nat} {n k : Nat} (h : ParOk pr n) (ht : ∀ j, j < n → pr j ≠ some k) : ∀ j, j < n - 1 → dep (drP pr k) j = dep pr (sk k j) := by
  intro j
  induction j using Nat.strongRecOn with
  | _ j ih =>
    intro hj
    cases hq : pr (sk k j) with
    | none => rw [dep_none hq, dep_none (by unfold drP; rw [hq]; rfl)]
    | some q =>
      have hp : drP pr k j = some (un k q) := by unfold drP; rw [hq]; rfl
      have h2 : q ≠ k := fun z => ht _ (sk_lt hj) (by rw [hq, z])
      have h4 := drP_ok h ht j _ hj hp
      rw [dep_some h (sk_lt hj) hq, dep_some (drP_ok h ht) hj hp, ih _ h4 (by omega), sk_un h2]
theorem drP_anc {pr : Nat → Option Nat} {n k r : Nat} (h : ParOk pr n) (ht : ∀ j, j < n → pr j ≠ some k) : ∀ j, j < n - 1 → anc (drP pr k) r j = anc pr (sk k r) (sk k j) := by
  intro j
  induction j using Nat.strongRecOn with
  | _ j ih =>
    intro hj
    by_cases hr : j = r
    · subst hr; rw [anc_self, anc_self]
    · rw [anc_O (drP_ok h ht) hj hr, anc_O h (sk_lt hj) (fun z => hr (sk_inj z))]
      cases hq : pr (sk k j) with
      | none => rw [show drP pr k j = none by unfold drP; rw [hq]; rfl]; rfl
      | some q =>
        have hp : drP pr k j = some (un k q) := by unfold drP; rw [hq]; rfl
        have h2 : q ≠ k := fun z => ht _ (sk_lt hj) (by rw [hq, z])
        have h4 := drP_ok h ht j _ hj hp
        rw [hp]
        show anc (drP pr k) r (un k q) = anc pr (sk k r) q
        rw [ih _ h4 (by omega), sk_un h2]
theorem dropF_lo {m : Nat → Int32} {k n j : Nat} (h : j < 29 + 4 * k) (h2 : j ≠ 2) (h7 : j < 73) : dropF m k n j = m j := by
  unfold dropF drzF drpF
  rw [if_neg h2, if_neg (by omega), if_neg (by omega)]
theorem dropF_hi {m : Nat → Int32} {k n j : Nat} (h : 29 + 4 * k ≤ j) (h7 : j < 73) : dropF m k n j = m (j + 4) := by
  unfold dropF drzF drpF
  rw [if_neg (by omega), if_neg (by omega), if_pos (by omega)]
theorem dropF_at {m : Nat → Int32} {k n j w : Nat} (hj : 29 + 4 * j + w < 73) (hw : w < 4) : dropF m k n (29 + 4 * j + w) = m (29 + 4 * sk k j + w) := by
  unfold sk
  split
  · exact dropF_lo (by omega) (by omega) hj
  · rw [dropF_hi (by omega) hj]; congr 1; omega
theorem FoR.drop {m : Nat → Int32} {n : Nat} {idn : Nat → Nat} {pr : Nat → Option Nat} {tn : Nat → Nat} (h : FoR m n idn pr tn) {k : Nat} (hk : k < n) (ht : ∀ j, j < n → pr j ≠ some k) : FoR (dropF m k n) (n - 1) (fun j => idn (sk k j)) (drP pr k) (fun j => tn (sk k j)) := by
  obtain ⟨h1, h2, h3, h4, h5, h6, h7⟩ := h
  refine ⟨by unfold dropF; rw [if_pos rfl], by omega, fun j hj => ?_, fun j hj => ?_, drP_ok h5 ht, fun i j hi hj => h6 _ _ (by unfold sk; split <;> split <;> omega) (sk_lt hj), fun j hj => ?_⟩
  · have := dropF_at (m := m) (k := k) (n := n) (j := j) (w := 0) (by omega) (by omega)
    simp only [Nat.add_zero] at this
    rw [this]; exact h3 _ (sk_lt hj)
  · rw [dropF_at (by omega) (by omega), h4 _ (sk_lt hj)]
    congr 1
    unfold drP
    cases hq : pr (sk k j) with
    | none => rfl
    | some q =>
      have h2 : q ≠ k := fun z => ht _ (sk_lt hj) (by rw [hq, z])
      simp only [Option.map_some]
      rw [sk_un h2]
  · rw [dropF_at (by omega) (by omega)]; exact h7 _ (sk_lt hj)
theorem FoR.cong {m m' : Nat → Int32} {n : Nat} {idn : Nat → Nat} {pr : Nat → Option Nat} {tn : Nat → Nat} (h : FoR m n idn pr tn) (e : ∀ j, (j = 2 ∨ ∃ k w, k < 12 ∧ w < 3 ∧ j = 29 + 4 * k + w) → m' j = m j) : FoR m' n idn pr tn := by
  obtain ⟨h1, h2, h3, h4, h5, h6, h7⟩ := h
  refine ⟨by rw [e 2 (Or.inl rfl)]; exact h1, h2, fun j hj => ?_, fun j hj => ?_, h5, h6, fun j hj => ?_⟩
  · rw [show 29 + 4 * j = 29 + 4 * j + 0 from rfl, e _ (Or.inr ⟨j, 0, by omega, by omega, rfl⟩)]; exact h3 j hj
  · rw [e _ (Or.inr ⟨j, 1, by omega, by omega, rfl⟩)]; exact h4 j hj
  · rw [e _ (Or.inr ⟨j, 2, by omega, by omega, rfl⟩)]; exact h7 j hj
theorem HeR.cong {m m' : Nat → Int32} {h : Nat} {lv th ta : Nat → Nat} (H : HeR m h lv th ta) (e : ∀ j, (j = 0 ∨ (11 ≤ j ∧ j < 29)) → m' j = m j) : HeR m' h lv th ta := by
  obtain ⟨h1, h2, h3, h4, h5⟩ := H
  refine ⟨by rw [e 0 (Or.inl rfl)]; exact h1, h2, fun j hj => ?_, fun j hj => ?_, fun j hj => ?_⟩
  · rw [e _ (Or.inr (by omega))]; exact h3 j hj
  · rw [e _ (Or.inr (by omega))]; exact h4 j hj
  · rw [e _ (Or.inr (by omega))]; exact h5 j hj
/-- what a row says of its motions, read off it -/
def nM (m : Nat → Int32) : Nat := (m 2).toNatClampNeg
def idM (m : Nat → Int32) (k : Nat) : Nat := (m (29 + 4 * k)).toNatClampNeg
def prM (m : Nat → Int32) (k : Nat) : Option Nat := if m (29 + 4 * k + 1) = -1 then none else fnd (fun k => m (29 + 4 * k)) (m (29 + 4 * k + 1)) (nM m)
def tnM (m : Nat → Int32) (k : Nat) : Nat := (m (29 + 4 * k + 2)).toNatClampNeg
def FoW (m : Nat → Int32) : Prop := FoR m (nM m) (idM m) (prM m) (tnM m)
theorem FoR.n_eq {m : Nat → Int32} {n : Nat} {idn : Nat → Nat} {pr : Nat → Option Nat} {tn : Nat → Nat} (h : FoR m n idn pr tn) : nM m = n := by
  unfold nM; rw [h.1, nI_clamp (by have := h.2.1; omega)]
theorem FoR.pr_eq {m : Nat → Int32} {n : Nat} {idn : Nat → Nat} {pr : Nat → Option Nat} {tn : Nat → Nat} (h : FoR m n idn pr tn) {k : Nat} (hk : k < n) : prM m k = pr k := by
  unfold prM
  rw [h.n_eq]
  have e := h.2.2.2.1 k hk
  cases hq : pr k with
  | none => rw [e, hq]; exact if_pos rfl
  | some j =>
    have hj := h.par hk hq
    have h1 : ¬ m (29 + 4 * k + 1) = -1 := by
      rw [e, hq]
      intro z
      exact nI_m1 (q := idn j) (by have := (h.2.2.1 j hj).2; omega) z.symm
    rw [if_neg h1, e, hq]
    exact h.find hj
theorem FoR.w {m : Nat → Int32} {n : Nat} {idn : Nat → Nat} {pr : Nat → Option Nat} {tn : Nat → Nat} (h : FoR m n idn pr tn) : FoW m := by
  have hn := h.n_eq
  have hid : ∀ k, k < n → idM m k = idn k := fun k hk => by unfold idM; rw [(h.2.2.1 k hk).1, nI_clamp (by have := (h.2.2.1 k hk).2; omega)]
  have htn : ∀ k, k < n → tnM m k = tn k := fun k hk => by unfold tnM; rw [(h.2.2.2.2.2.2 k hk).1, nI_clamp (by have := (h.2.2.2.2.2.2 k hk).2; omega)]
  unfold FoW
  rw [hn]
  obtain ⟨h1, h2, h3, h4, h5, h6, h7⟩ := id h
  refine ⟨h1, h2, fun k hk => by rw [hid k hk]; exact h3 k hk, fun k hk => ?_, fun k j hk hp => h5 k j hk (by rw [← h.pr_eq hk]; exact hp), fun j k hj hk => by rw [hid j (by omega), hid k hk]; exact h6 j k hj hk, fun k hk => by rw [htn k hk]; exact h7 k hk⟩
  rw [h4 k hk, h.pr_eq hk]
  cases hq : pr k with
  | none => rfl
  | some j => simp only [Option.map_some]; rw [hid j (h.par hk hq)]
theorem FoW.n12 {m : Nat → Int32} (h : FoW m) : nM m ≤ 12 := h.2.1
theorem dep_cong {pr pr' : Nat → Option Nat} {n : Nat} (h : ParOk pr n) (e : ∀ k, k < n → pr' k = pr k) : ∀ k, k < n → dep pr' k = dep pr k := by
  intro k
  induction k using Nat.strongRecOn with
  | _ k ih =>
    intro hk
    have h' : ParOk pr' n := fun k j hk hp => h k j hk (by rw [← e k hk]; exact hp)
    cases hq : pr k with
    | none => rw [dep_none hq, dep_none (by rw [e k hk]; exact hq)]
    | some j =>
      have hj := h k j hk hq
      rw [dep_some h hk hq, dep_some h' hk (by rw [e k hk]; exact hq), ih j hj (by omega)]
theorem anc_cong {pr pr' : Nat → Option Nat} {n r : Nat} (h : ParOk pr n) (e : ∀ k, k < n → pr' k = pr k) : ∀ k, k < n → anc pr' r k = anc pr r k := by
  intro k
  induction k using Nat.strongRecOn with
  | _ k ih =>
    intro hk
    have h' : ParOk pr' n := fun k j hk hp => h k j hk (by rw [← e k hk]; exact hp)
    by_cases hr : k = r
    · subst hr; rw [anc_self, anc_self]
    · rw [anc_O h' hk hr, anc_O h hk hr, e k hk]
      cases hq : pr k with
      | none => rfl
      | some j => exact ih j (h k j hk hq) (by have := h k j hk hq; omega)
theorem FoW.drop {m : Nat → Int32} (h : FoW m) {k : Nat} (hk : k < nM m) (ht : ∀ j, j < nM m → prM m j ≠ some k) : FoW (dropF m k (nM m)) ∧ nM (dropF m k (nM m)) = nM m - 1 ∧ (∀ j, j < nM m - 1 → dep (prM (dropF m k (nM m))) j = dep (prM m) (sk k j)) ∧ ∀ r j, j < nM m - 1 → anc (prM (dropF m k (nM m))) r j = anc (prM m) (sk k r) (sk k j) := by
  have h1 := FoR.drop h hk ht
  have e : ∀ j, j < nM m - 1 → prM (dropF m k (nM m)) j = drP (prM m) k j := fun j hj => h1.pr_eq hj
  refine ⟨h1.w, h1.n_eq, fun j hj => ?_, fun r j hj => ?_⟩
  · rw [dep_cong (drP_ok h.ok ht) e j hj]; exact drP_dep h.ok ht j hj
  · rw [anc_cong (drP_ok h.ok ht) e j hj]; exact drP_anc h.ok ht j hj
/-- the row and the count behind pruning: the places r + 1 .. r + i are still to be looked at -/
def prnF (r dp : Nat) : Nat → (Nat → Int32) → Nat → (Nat → Int32) × Nat
  | 0, m, c => (m, c)
  | i + 1, m, c => if anc (prM m) r (r + (i + 1)) && decide (dp < dep (prM m) (r + (i + 1))) then prnF r dp i (dropF m (r + (i + 1)) (nM m)) (c + 1) else prnF r dp i m c
/-- what is already looked at holds nothing to be pruned -/
def prnOk (r dp i : Nat) (m : Nat → Int32) : Prop := FoW m ∧ r + i < nM m ∧ ∀ j, r + i < j → j < nM m → ¬ (anc (prM m) r j = true ∧ dp < dep (prM m) j)
theorem prn_tip {r dp i : Nat} {m : Nat → Int32} (h : prnOk r dp (i + 1) m) (h1 : anc (prM m) r (r + (i + 1)) = true) (h2 : dp < dep (prM m) (r + (i + 1))) : ∀ j, j < nM m → prM m j ≠ some (r + (i + 1)) := by
  obtain ⟨hw, hlt, hc⟩ := h
  intro j hj hp
  have h3 := hw.ok j _ hj hp
  refine hc j h3 hj ⟨?_, ?_⟩
  · rw [anc_O hw.ok hj (by omega), hp]; exact h1
  · rw [dep_some hw.ok hj hp]; omega
theorem prn_skip {r dp i : Nat} {m : Nat → Int32} (h : prnOk r dp (i + 1) m) (h1 : ¬ (anc (prM m) r (r + (i + 1)) = true ∧ dp < dep (prM m) (r + (i + 1)))) : prnOk r dp i m := by
  obtain ⟨hw, hlt, hc⟩ := h
  refine ⟨hw, by omega, fun j hj1 hj2 => ?_⟩
  rcases Nat.lt_or_ge (r + (i + 1)) j with q | q
  · exact hc j q hj2
  · rw [show j = r + (i + 1) by omega]; exact h1
theorem prn_drop {r dp i : Nat} {m : Nat → Int32} (h : prnOk r dp (i + 1) m) (h1 : anc (prM m) r (r + (i + 1)) = true) (h2 : dp < dep (prM m) (r + (i + 1))) : prnOk r dp i (dropF m (r + (i + 1)) (nM m)) := by
  have ht := prn_tip h h1 h2
  obtain ⟨hw, hlt, hc⟩ := h
  obtain ⟨e1, e2, e3, e4⟩ := hw.drop hlt ht
  refine ⟨e1, by rw [e2]; omega, fun j hj1 hj2 => ?_⟩
  rw [e2] at hj2
  rw [e3 j hj2, e4 r j hj2]
  have hs : sk (r + (i + 1)) j = j + 1 := by unfold sk; rw [if_neg (by omega)]
  have hr : sk (r + (i + 1)) r = r := by unfold sk; rw [if_pos (by omega)]
  rw [hs, hr]
  exact hc (j + 1) (by omega) (by omega)
theorem rg_nat {a b : Int64} {x : Int32} (h : rgB a b x = true) (ha : a.toInt = 0 ∨ a.toInt = 1) (hb : b.toInt < 1024) : ∃ v : Nat, x = nI v ∧ (v : Int) ≤ b.toInt ∧ a.toInt ≤ (v : Int) := by
  unfold rgB at h
  have h1 := of_decide_eq_true h
  have e1 := Int64.le_iff_toInt_le.mp h1.1
  have e2 := Int64.le_iff_toInt_le.mp h1.2
  rw [Int32.toInt_toInt64] at e1 e2
  refine ⟨x.toInt.toNat, ?_, by omega, by omega⟩
  apply Int32.toInt_inj.mp
  rw [nI_toInt (by omega)]
  omega
end
section
def prnR (m : Nat → Int32) (q v : Nat) : (Nat → Int32) × Nat := prnF q (dep (prM m) q + v) (nM m - 1 - q) m 0
theorem prnF_no {r dp i c : Nat} {m : Nat → Int32} (h : (anc (prM m) r (r + (i + 1)) && decide (dp < dep (prM m) (r + (i + 1)))) = false) : prnF r dp (i + 1) m c = prnF r dp i m c := by
  rw [prnF, h]; rfl
theorem prnF_yes {r dp i c : Nat} {m : Nat → Int32} (h1 : anc (prM m) r (r + (i + 1)) = true) (h2 : dp < dep (prM m) (r + (i + 1))) : prnF r dp (i + 1) m c = prnF r dp i (dropF m (r + (i + 1)) (nM m)) (c + 1) := by
  rw [prnF, h1, decide_eq_true h2]; rfl
theorem prnOk_0 {m : Nat → Int32} (h : FoW m) {q dp : Nat} (hq : q < nM m) : prnOk q dp (nM m - 1 - q) m := ⟨h, by omega, fun j h1 h2 => by omega⟩
theorem tip_ex {pr : Nat → Option Nat} {n r : Nat} (h : ParOk pr n) (hr : r < n) : ∃ t, t < n ∧ anc pr r t = true ∧ tipB pr t n = true := by
  -- the greatest place of the branch is a tip
  have key : ∀ d k, k < n → n - k ≤ d → anc pr r k = true → ∃ t, t < n ∧ anc pr r t = true ∧ tipB pr t n = true := by
    intro d
    induction d with
    | zero => intro k h1 h2; omega
    | succ d ih =>
      intro k hk hd ha
      by_cases ht : tipB pr k n = true
      · exact ⟨k, hk, ha, ht⟩
      · have hc : ∀ i, tipB pr k i = false → ∃ j, j < i ∧ pr j = some k := by
          intro i
          induction i with
          | zero => intro h; cases h
          | succ i ih2 =>
            intro h
            unfold tipB at h
            by_cases hb : pr i = some k
            · exact ⟨i, by omega, hb⟩
            · rw [Bool.and_eq_false_iff] at h
              rcases h with h | h
              · obtain ⟨j, h1, h2⟩ := ih2 h; exact ⟨j, by omega, h2⟩
              · simp [hb] at h
        obtain ⟨j, hj, hp⟩ := hc n (by simpa using ht)
        have hkj := h j k hj hp
        refine ih j hj (by omega) ?_
        by_cases hjr : j = r
        · rw [hjr, anc_self]
        · rw [anc_O h hj hjr, hp]; exact ha
  exact key n r hr (by omega) (anc_self _ _)
theorem ltp_ex {pr : Nat → Option Nat} {n r : Nat} (h : ParOk pr n) (hr : r < n) : ∃ t, ltp pr n r n = some t ∧ t < n := by
  obtain ⟨t, h1, h2, h3⟩ := tip_ex h hr
  have key : ∀ i, t < i → ∃ q, ltp pr n r i = some q := by
    intro i
    induction i with
    | zero => intro h; omega
    | succ i ih =>
      intro hi
      unfold ltp
      by_cases hc : (anc pr r i && tipB pr i n) = true
      · rw [if_pos hc]; exact ⟨i, rfl⟩
      · rw [if_neg hc]
        refine ih ?_
        rcases Nat.lt_or_ge t i with q | q
        · exact q
        · have e : t = i := by omega
          subst e
          exact absurd (by rw [h2, h3]; rfl) hc
  obtain ⟨q, hq⟩ := key n h1
  exact ⟨q, hq, ltp_lt hq⟩
/-- half of a weight, at least 1 -/
def hlfF (w : Int32) : Int32 := if nI 1 < w / nI 2 then w / nI 2 else nI 1
def snM (m : Nat → Int32) : Nat := (m 3).toNatClampNeg
/-- the row behind a carried tip -/
def carF (m : Nat → Int32) (k : Nat) : Nat → Int32 := match prM m k with
  | none => upd (upd (upd m 10 (m 10 + nI 1)) (4 + snM m) (m (4 + snM m) + nI 1)) 8 (m 8 + m (29 + 4 * k + 3))
  | some p => upd (upd m 10 (m 10 + nI 1)) (29 + 4 * p + 3) (m (29 + 4 * p + 3) + m (29 + 4 * k + 3))
theorem gT_hedgeIt : GoodIn gw (wsV RX10 107 RX10 yX10_hedgeIt (Cond.code yX10_hedgeIt cX10_hedgeIt 5 (some .int) :: gw)) := gdV gw_1714 gw_1716 gw_22 gw_81 gw_1717
theorem hd_hedgeIt : yX10_hedgeIt.cls = RX10 ∧ yX10_hedgeIt.cls ≠ "java/lang/invoke/MethodHandle" ∧ yX10_hedgeIt.cls ≠ "java/lang/invoke/VarHandle" ∧ (parseMethodDescriptor yX10_hedgeIt.desc).map (fun d => d.parameters.length) = some 3 := ⟨rfl, by decide +kernel, by decide +kernel, by decide +kernel⟩
theorem dX10_hedgeIt_0 : decode cX10_hedgeIt 0 = .ok (.iload_n 1, 1) := by decide +kernel
theorem dX10_hedgeIt_1 : decode cX10_hedgeIt 1 = .ok (.i2l, 1) := by decide +kernel
theorem dX10_hedgeIt_2 : decode cX10_hedgeIt 2 = .ok (.lconst 1, 1) := by decide +kernel
theorem dX10_hedgeIt_3 : decode cX10_hedgeIt 3 = .ok (.ldc2_w 97, 3) := by decide +kernel
theorem dX10_hedgeIt_6 : decode cX10_hedgeIt 6 = .ok (.invokestatic 63, 3) := by decide +kernel
theorem dX10_hedgeIt_9 : decode cX10_hedgeIt 9 = .ok (.ifCond .eq 27, 3) := by decide +kernel
theorem dX10_hedgeIt_12 : decode cX10_hedgeIt 12 = .ok (.iload_n 2, 1) := by decide +kernel
theorem dX10_hedgeIt_13 : decode cX10_hedgeIt 13 = .ok (.i2l, 1) := by decide +kernel
theorem dX10_hedgeIt_14 : decode cX10_hedgeIt 14 = .ok (.lconst 0, 1) := by decide +kernel
theorem dX10_hedgeIt_15 : decode cX10_hedgeIt 15 = .ok (.ldc2_w 99, 3) := by decide +kernel
theorem dX10_hedgeIt_18 : decode cX10_hedgeIt 18 = .ok (.invokestatic 63, 3) := by decide +kernel
theorem dX10_hedgeIt_21 : decode cX10_hedgeIt 21 = .ok (.ifCond .eq 15, 3) := by decide +kernel
theorem dX10_hedgeIt_24 : decode cX10_hedgeIt 24 = .ok (.iload_n 3, 1) := by decide +kernel
theorem dX10_hedgeIt_25 : decode cX10_hedgeIt 25 = .ok (.i2l, 1) := by decide +kernel
theorem dX10_hedgeIt_26 : decode cX10_hedgeIt 26 = .ok (.lconst 0, 1) := by decide +kernel
theorem dX10_hedgeIt_27 : decode cX10_hedgeIt 27 = .ok (.ldc2_w 99, 3) := by decide +kernel
theorem dX10_hedgeIt_30 : decode cX10_hedgeIt 30 = .ok (.invokestatic 63, 3) := by decide +kernel
theorem dX10_hedgeIt_33 : decode cX10_hedgeIt 33 = .ok (.ifCond .ne 9, 3) := by decide +kernel
theorem dX10_hedgeIt_36 : decode cX10_hedgeIt 36 = .ok (.aload_n 0, 1) := by decide +kernel
theorem dX10_hedgeIt_37 : decode cX10_hedgeIt 37 = .ok (.iconst 1, 1) := by decide +kernel
theorem dX10_hedgeIt_38 : decode cX10_hedgeIt 38 = .ok (.invokevirtual 101, 3) := by decide +kernel
theorem dX10_hedgeIt_41 : decode cX10_hedgeIt 41 = .ok (.ireturn, 1) := by decide +kernel
theorem dX10_hedgeIt_42 : decode cX10_hedgeIt 42 = .ok (.aload_n 0, 1) := by decide +kernel
theorem dX10_hedgeIt_43 : decode cX10_hedgeIt 43 = .ok (.getfield 9, 3) := by decide +kernel
theorem dX10_hedgeIt_46 : decode cX10_hedgeIt 46 = .ok (.iconst 0, 1) := by decide +kernel
theorem dX10_hedgeIt_47 : decode cX10_hedgeIt 47 = .ok (.iaload, 1) := by decide +kernel
theorem dX10_hedgeIt_48 : decode cX10_hedgeIt 48 = .ok (.bipush 6, 2) := by decide +kernel
theorem dX10_hedgeIt_50 : decode cX10_hedgeIt 50 = .ok (.if_icmp .ne 9, 3) := by decide +kernel
theorem dX10_hedgeIt_53 : decode cX10_hedgeIt 53 = .ok (.aload_n 0, 1) := by decide +kernel
theorem dX10_hedgeIt_54 : decode cX10_hedgeIt 54 = .ok (.iconst 2, 1) := by decide +kernel
theorem dX10_hedgeIt_55 : decode cX10_hedgeIt 55 = .ok (.invokevirtual 101, 3) := by decide +kernel
theorem dX10_hedgeIt_58 : decode cX10_hedgeIt 58 = .ok (.ireturn, 1) := by decide +kernel
theorem dX10_hedgeIt_59 : decode cX10_hedgeIt 59 = .ok (.aload_n 0, 1) := by decide +kernel
theorem dX10_hedgeIt_60 : decode cX10_hedgeIt 60 = .ok (.getfield 9, 3) := by decide +kernel
theorem dX10_hedgeIt_63 : decode cX10_hedgeIt 63 = .ok (.iconst 0, 1) := by decide +kernel
theorem dX10_hedgeIt_64 : decode cX10_hedgeIt 64 = .ok (.iaload, 1) := by decide +kernel
theorem dX10_hedgeIt_65 : decode cX10_hedgeIt 65 = .ok (.invokestatic 86, 3) := by decide +kernel
theorem dX10_hedgeIt_68 : decode cX10_hedgeIt 68 = .ok (.istore 4, 2) := by decide +kernel
theorem dX10_hedgeIt_70 : decode cX10_hedgeIt 70 = .ok (.aload_n 0, 1) := by decide +kernel
theorem dX10_hedgeIt_71 : decode cX10_hedgeIt 71 = .ok (.getfield 9, 3) := by decide +kernel
theorem dX10_hedgeIt_74 : decode cX10_hedgeIt 74 = .ok (.iload 4, 2) := by decide +kernel
theorem dX10_hedgeIt_76 : decode cX10_hedgeIt 76 = .ok (.iload_n 1, 1) := by decide +kernel
theorem dX10_hedgeIt_77 : decode cX10_hedgeIt 77 = .ok (.iastore, 1) := by decide +kernel
theorem dX10_hedgeIt_78 : decode cX10_hedgeIt 78 = .ok (.aload_n 0, 1) := by decide +kernel
theorem dX10_hedgeIt_79 : decode cX10_hedgeIt 79 = .ok (.getfield 9, 3) := by decide +kernel
theorem dX10_hedgeIt_82 : decode cX10_hedgeIt 82 = .ok (.iload 4, 2) := by decide +kernel
theorem dX10_hedgeIt_84 : decode cX10_hedgeIt 84 = .ok (.iconst 1, 1) := by decide +kernel
theorem dX10_hedgeIt_85 : decode cX10_hedgeIt 85 = .ok (.iadd, 1) := by decide +kernel
theorem dX10_hedgeIt_86 : decode cX10_hedgeIt 86 = .ok (.iload_n 2, 1) := by decide +kernel
theorem dX10_hedgeIt_87 : decode cX10_hedgeIt 87 = .ok (.iastore, 1) := by decide +kernel
theorem dX10_hedgeIt_88 : decode cX10_hedgeIt 88 = .ok (.aload_n 0, 1) := by decide +kernel
theorem dX10_hedgeIt_89 : decode cX10_hedgeIt 89 = .ok (.getfield 9, 3) := by decide +kernel
theorem dX10_hedgeIt_92 : decode cX10_hedgeIt 92 = .ok (.iload 4, 2) := by decide +kernel
theorem dX10_hedgeIt_94 : decode cX10_hedgeIt 94 = .ok (.iconst 2, 1) := by decide +kernel
theorem dX10_hedgeIt_95 : decode cX10_hedgeIt 95 = .ok (.iadd, 1) := by decide +kernel
theorem dX10_hedgeIt_96 : decode cX10_hedgeIt 96 = .ok (.iload_n 3, 1) := by decide +kernel
theorem dX10_hedgeIt_97 : decode cX10_hedgeIt 97 = .ok (.iastore, 1) := by decide +kernel
theorem dX10_hedgeIt_98 : decode cX10_hedgeIt 98 = .ok (.aload_n 0, 1) := by decide +kernel
theorem dX10_hedgeIt_99 : decode cX10_hedgeIt 99 = .ok (.getfield 9, 3) := by decide +kernel
theorem dX10_hedgeIt_102 : decode cX10_hedgeIt 102 = .ok (.iconst 0, 1) := by decide +kernel
theorem dX10_hedgeIt_103 : decode cX10_hedgeIt 103 = .ok (.dup2, 1) := by decide +kernel
theorem dX10_hedgeIt_104 : decode cX10_hedgeIt 104 = .ok (.iaload, 1) := by decide +kernel
theorem dX10_hedgeIt_105 : decode cX10_hedgeIt 105 = .ok (.iconst 1, 1) := by decide +kernel
theorem dX10_hedgeIt_106 : decode cX10_hedgeIt 106 = .ok (.iadd, 1) := by decide +kernel
theorem dX10_hedgeIt_107 : decode cX10_hedgeIt 107 = .ok (.iastore, 1) := by decide +kernel
theorem dX10_hedgeIt_108 : decode cX10_hedgeIt 108 = .ok (.aload_n 0, 1) := by decide +kernel
theorem dX10_hedgeIt_109 : decode cX10_hedgeIt 109 = .ok (.getfield 9, 3) := by decide +kernel
theorem dX10_hedgeIt_112 : decode cX10_hedgeIt 112 = .ok (.iconst 0, 1) := by decide +kernel
theorem dX10_hedgeIt_113 : decode cX10_hedgeIt 113 = .ok (.iaload, 1) := by decide +kernel
theorem dX10_hedgeIt_114 : decode cX10_hedgeIt 114 = .ok (.iconst 1, 1) := by decide +kernel
theorem dX10_hedgeIt_115 : decode cX10_hedgeIt 115 = .ok (.isub, 1) := by decide +kernel
theorem dX10_hedgeIt_116 : decode cX10_hedgeIt 116 = .ok (.ireturn, 1) := by decide +kernel
set_option maxHeartbeats 1000000 in
set_option maxRecDepth 20000 in
theorem m_hedgeIt (l : Launch) (D : va_G) (aT : Nat → ClassId) (ad : Nat → Nat) (S : MSt) (x y z : Int32) (h : Nat) (hn : S 0 0 = nI h) (h6 : h ≤ 6) : MdI l yX10_hedgeIt cX10_hedgeIt 5 .int 1 25 D aT ad [.ref (ad 0), .int x, .int y, .int z] S (fun r S1 => ((rgB 1 99 x && rgB 0 9 y && rgB 0 9 z) = false ∧ r = -1 ∧ S1 = ss S 8 (nI 1)) ∨ ((rgB 1 99 x && rgB 0 9 y && rgB 0 9 z) = true ∧ h = 6 ∧ r = -1 ∧ S1 = ss S 8 (nI 2)) ∨ ((rgB 1 99 x && rgB 0 9 y && rgB 0 9 z) = true ∧ h < 6 ∧ r = nI h ∧ S1 = sr S 0 (hedgeF (S 0) h x y z))) := by
  refine MdI.of (by decide +kernel) rfl (Nat.le_of_ble_eq_true rfl) ?_
  intro p e s m below meth c A ls C hml hl hA hr hlocks hW
  have hl : lv_has ls 5 [(0, .ref (ad 0)), (1, .int x), (2, .int y), (3, .int z)] := hl
  have hx := C.1
  have hb := C.2.1
  refine lv_iload_n hx hb dX10_hedgeIt_0 rfl (lv_at hl 1 rfl) ?_
  refine lv_i2l (v := (x).toInt64) hx hb dX10_hedgeIt_1 rfl ?_
  refine lv_lconst (v := 1) hx hb dX10_hedgeIt_2 (by decide) ?_
  refine lv_ldc2 hx hb C.2.2.2.1 (C.2.2.1 _ gw_1718) dX10_hedgeIt_3 ?_
  refine md_calls C hml hl.1 (As := [.long ((x).toInt64), .long 1, .long 99]) (rest := []) (m_in l ((x).toInt64) 1 99) gT_in hd_in rfl ⟨Nat.le_of_ble_eq_true rfl, Nat.le_of_ble_eq_true rfl⟩ ⟨Nat.le_refl _, Nat.le_refl _⟩ rfl (Nat.le_of_ble_eq_true rfl) dX10_hedgeIt_6 (fun r_6 hq => ?_)
  subst hq
  refine r_bI_eq hx hb (b := (rgB 1 99 x)) (tgt := 36) dX10_hedgeIt_9 (by decide) (fun c_9 => ?_) (fun c_9 => ?_)
  · refine lv_aload_n hx hb dX10_hedgeIt_36 rfl (lv_at hl 0 rfl) ?_
    refine lv_iconst (v := nI 1) hx hb dX10_hedgeIt_37 (by decide) ?_
    refine md_calli C hml hl.1 (As := [.int (nI 1)]) (rest := []) (m_throwing l D aT ad S 1) gT_throwing hd_throwing rfl ⟨Nat.le_of_ble_eq_true rfl, Nat.le_of_ble_eq_true rfl⟩ ⟨Nat.le_refl _, Nat.le_refl _⟩ hW hA rfl (Nat.le_of_ble_eq_true rfl) dX10_hedgeIt_38 (fun r_38 S_38 H locs hq hW => ?_)
    obtain ⟨rfl, rfl⟩ := hq
    exact md_iret C hr hlocks rfl hW (Or.inl ⟨by simp [c_9], rfl, rfl⟩) dX10_hedgeIt_41
  · refine lv_iload_n hx hb dX10_hedgeIt_12 rfl (lv_at hl 2 rfl) ?_
    refine lv_i2l (v := (y).toInt64) hx hb dX10_hedgeIt_13 rfl ?_
    refine lv_lconst (v := 0) hx hb dX10_hedgeIt_14 (by decide) ?_
    refine lv_ldc2 hx hb C.2.2.2.1 (C.2.2.1 _ gw_1722) dX10_hedgeIt_15 ?_
    refine md_calls C hml hl.1 (As := [.long ((y).toInt64), .long 0, .long 9]) (rest := []) (m_in l ((y).toInt64) 0 9) gT_in hd_in rfl ⟨Nat.le_of_ble_eq_true rfl, Nat.le_of_ble_eq_true rfl⟩ ⟨Nat.le_refl _, Nat.le_refl _⟩ rfl (Nat.le_of_ble_eq_true rfl) dX10_hedgeIt_18 (fun r_18 hq => ?_)
    subst hq
    refine r_bI_eq hx hb (b := (rgB 0 9 y)) (tgt := 36) dX10_hedgeIt_21 (by decide) (fun c_21 => ?_) (fun c_21 => ?_)
    · refine lv_aload_n hx hb dX10_hedgeIt_36 rfl (lv_at hl 0 rfl) ?_
      refine lv_iconst (v := nI 1) hx hb dX10_hedgeIt_37 (by decide) ?_
      refine md_calli C hml hl.1 (As := [.int (nI 1)]) (rest := []) (m_throwing l D aT ad S 1) gT_throwing hd_throwing rfl ⟨Nat.le_of_ble_eq_true rfl, Nat.le_of_ble_eq_true rfl⟩ ⟨Nat.le_refl _, Nat.le_refl _⟩ hW hA rfl (Nat.le_of_ble_eq_true rfl) dX10_hedgeIt_38 (fun r_38 S_38 H locs hq hW => ?_)
      obtain ⟨rfl, rfl⟩ := hq
      exact md_iret C hr hlocks rfl hW (Or.inl ⟨by simp [c_9, c_21], rfl, rfl⟩) dX10_hedgeIt_41
    · refine lv_iload_n hx hb dX10_hedgeIt_24 rfl (lv_at hl 3 rfl) ?_
      refine lv_i2l (v := (z).toInt64) hx hb dX10_hedgeIt_25 rfl ?_
      refine lv_lconst (v := 0) hx hb dX10_hedgeIt_26 (by decide) ?_
      refine lv_ldc2 hx hb C.2.2.2.1 (C.2.2.1 _ gw_1722) dX10_hedgeIt_27 ?_
      refine md_calls C hml hl.1 (As := [.long ((z).toInt64), .long 0, .long 9]) (rest := []) (m_in l ((z).toInt64) 0 9) gT_in hd_in rfl ⟨Nat.le_of_ble_eq_true rfl, Nat.le_of_ble_eq_true rfl⟩ ⟨Nat.le_refl _, Nat.le_refl _⟩ rfl (Nat.le_of_ble_eq_true rfl) dX10_hedgeIt_30 (fun r_30 hq => ?_)
      subst hq
      refine r_bI_ne hx hb (b := (rgB 0 9 z)) (tgt := 42) dX10_hedgeIt_33 (by decide) (fun c_33 => ?_) (fun c_33 => ?_)
      · refine lv_aload_n hx hb dX10_hedgeIt_42 rfl (lv_at hl 0 rfl) ?_
        refine md_geta_m C hW dX10_hedgeIt_43 ?_
        refine lv_iconst (v := nI 0) hx hb dX10_hedgeIt_46 (by decide) ?_
        refine md_ald_m C hW (i := 0) (by omega) dX10_hedgeIt_47 ?_
        refine r_eq (y := (nI h)) (hn) ?_
        refine lv_bipush (v := nI 6) hx hb dX10_hedgeIt_48 (by decide) ?_
        refine r_neN hx hb (a := h) (b := 6) (by omega) (by omega) (tgt := 59) dX10_hedgeIt_50 (by decide) (fun c_50 => ?_) (fun c_50 => ?_)
        · refine lv_aload_n hx hb dX10_hedgeIt_59 rfl (lv_at hl 0 rfl) ?_
          refine md_geta_m C hW dX10_hedgeIt_60 ?_
          refine lv_iconst (v := nI 0) hx hb dX10_hedgeIt_63 (by decide) ?_
          refine md_ald_m C hW (i := 0) (by omega) dX10_hedgeIt_64 ?_
          refine r_eq (y := (nI h)) (hn) ?_
          refine md_calls C hml hl.1 (As := [.int (nI h)]) (rest := []) (m_hedgeAt l h) gT_hedgeAt hd_hedgeAt rfl ⟨Nat.le_of_ble_eq_true rfl, Nat.le_of_ble_eq_true rfl⟩ ⟨Nat.le_refl _, Nat.le_refl _⟩ rfl (Nat.le_of_ble_eq_true rfl) dX10_hedgeIt_65 (fun r_65 hq => ?_)
          subst hq
          refine lv_istore (lv' := [(4, .int (nI (11 + 3 * h))), (0, .ref (ad 0)), (1, .int x), (2, .int y), (3, .int z)]) hx hb dX10_hedgeIt_68 hl (by decide) rfl (fun ls hl => ?_)
          refine lv_aload_n hx hb dX10_hedgeIt_70 rfl (lv_at hl 1 rfl) ?_
          refine md_geta_m C hW dX10_hedgeIt_71 ?_
          refine lv_iload hx hb dX10_hedgeIt_74 (lv_at hl 0 rfl) ?_
          refine lv_iload_n hx hb dX10_hedgeIt_76 rfl (lv_at hl 2 rfl) ?_
          refine md_ast_m C hW (i := (11 + 3 * h)) (by omega) dX10_hedgeIt_77 (fun H locs hW => ?_)
          refine lv_aload_n hx hb dX10_hedgeIt_78 rfl (lv_at hl 1 rfl) ?_
          refine md_geta_m C hW dX10_hedgeIt_79 ?_
          refine lv_iload hx hb dX10_hedgeIt_82 (lv_at hl 0 rfl) ?_
          refine lv_iconst (v := nI 1) hx hb dX10_hedgeIt_84 (by decide) ?_
          refine r_iaddN hx hb (a := (11 + 3 * h)) (b := 1) dX10_hedgeIt_85 ?_
          refine lv_iload_n hx hb dX10_hedgeIt_86 rfl (lv_at hl 3 rfl) ?_
          refine md_ast_m C hW (i := 11 + 3 * h + 1) (by omega) dX10_hedgeIt_87 (fun H locs hW => ?_)
          refine lv_aload_n hx hb dX10_hedgeIt_88 rfl (lv_at hl 1 rfl) ?_
          refine md_geta_m C hW dX10_hedgeIt_89 ?_
          refine lv_iload hx hb dX10_hedgeIt_92 (lv_at hl 0 rfl) ?_
          refine lv_iconst (v := nI 2) hx hb dX10_hedgeIt_94 (by decide) ?_
          refine r_iaddN hx hb (a := (11 + 3 * h)) (b := 2) dX10_hedgeIt_95 ?_
          refine lv_iload_n hx hb dX10_hedgeIt_96 rfl (lv_at hl 4 rfl) ?_
          refine md_ast_m C hW (i := 11 + 3 * h + 2) (by omega) dX10_hedgeIt_97 (fun H locs hW => ?_)
          refine lv_aload_n hx hb dX10_hedgeIt_98 rfl (lv_at hl 1 rfl) ?_
          refine md_geta_m C hW dX10_hedgeIt_99 ?_
          refine lv_iconst (v := nI 0) hx hb dX10_hedgeIt_102 (by decide) ?_
          refine lv_dup2_11 hx hb dX10_hedgeIt_103 rfl rfl ?_
          refine md_ald_m C hW (i := 0) (by omega) dX10_hedgeIt_104 ?_
          refine r_eq (y := (nI h)) (by simp only [sr, upd, ↓reduceIte]; (repeat rw [if_neg (by omega)]); exact hn) ?_
          refine lv_iconst (v := nI 1) hx hb dX10_hedgeIt_105 (by decide) ?_
          refine r_iaddN hx hb (a := h) (b := 1) dX10_hedgeIt_106 ?_
          refine md_ast_m C hW (i := 0) (by omega) dX10_hedgeIt_107 (fun H locs hW => ?_)
          refine lv_aload_n hx hb dX10_hedgeIt_108 rfl (lv_at hl 1 rfl) ?_
          refine md_geta_m C hW dX10_hedgeIt_109 ?_
          refine lv_iconst (v := nI 0) hx hb dX10_hedgeIt_112 (by decide) ?_
          refine md_ald_m C hW (i := 0) (by omega) dX10_hedgeIt_113 ?_
          refine r_eq (y := (nI (h + 1))) (by simp only [sr, upd, ↓reduceIte]; (repeat rw [if_neg (by omega)]); first | done | rfl) ?_
          refine lv_iconst (v := nI 1) hx hb dX10_hedgeIt_114 (by decide) ?_
          refine r_isubN hx hb (a := (h + 1)) (b := 1) (by omega) dX10_hedgeIt_115 ?_
          exact md_iret C hr hlocks rfl hW (Or.inr (Or.inr ⟨by simp [c_9, c_21, c_33], by omega, rfl, by simp only [sr_sr, sr_s]; rfl⟩)) dX10_hedgeIt_116
        · refine lv_aload_n hx hb dX10_hedgeIt_53 rfl (lv_at hl 0 rfl) ?_
          refine lv_iconst (v := nI 2) hx hb dX10_hedgeIt_54 (by decide) ?_
          refine md_calli C hml hl.1 (As := [.int (nI 2)]) (rest := []) (m_throwing l D aT ad S 2) gT_throwing hd_throwing rfl ⟨Nat.le_of_ble_eq_true rfl, Nat.le_of_ble_eq_true rfl⟩ ⟨Nat.le_refl _, Nat.le_refl _⟩ hW hA rfl (Nat.le_of_ble_eq_true rfl) dX10_hedgeIt_55 (fun r_55 S_55 H locs hq hW => ?_)
          obtain ⟨rfl, rfl⟩ := hq
          exact md_iret C hr hlocks rfl hW (Or.inr (Or.inl ⟨by simp [c_9, c_21, c_33], c_50, rfl, rfl⟩)) dX10_hedgeIt_58
      · refine lv_aload_n hx hb dX10_hedgeIt_36 rfl (lv_at hl 0 rfl) ?_
        refine lv_iconst (v := nI 1) hx hb dX10_hedgeIt_37 (by decide) ?_
        refine md_calli C hml hl.1 (As := [.int (nI 1)]) (rest := []) (m_throwing l D aT ad S 1) gT_throwing hd_throwing rfl ⟨Nat.le_of_ble_eq_true rfl, Nat.le_of_ble_eq_true rfl⟩ ⟨Nat.le_refl _, Nat.le_refl _⟩ hW hA rfl (Nat.le_of_ble_eq_true rfl) dX10_hedgeIt_38 (fun r_38 S_38 H locs hq hW => ?_)
        obtain ⟨rfl, rfl⟩ := hq
        exact md_iret C hr hlocks rfl hW (Or.inl ⟨by simp [c_9, c_21, c_33], rfl, rfl⟩) dX10_hedgeIt_41
theorem gT_mainIt : GoodIn gw (wsV RX10 119 RX10 yX10_mainIt (Cond.code yX10_mainIt cX10_mainIt 3 (some .int) :: gw)) := gdV gw_1738 gw_1740 gw_25 gw_81 gw_1741
theorem hd_mainIt : yX10_mainIt.cls = RX10 ∧ yX10_mainIt.cls ≠ "java/lang/invoke/MethodHandle" ∧ yX10_mainIt.cls ≠ "java/lang/invoke/VarHandle" ∧ (parseMethodDescriptor yX10_mainIt.desc).map (fun d => d.parameters.length) = some 2 := ⟨rfl, by decide +kernel, by decide +kernel, by decide +kernel⟩
theorem dX10_mainIt_0 : decode cX10_mainIt 0 = .ok (.iload_n 1, 1) := by decide +kernel
theorem dX10_mainIt_1 : decode cX10_mainIt 1 = .ok (.i2l, 1) := by decide +kernel
theorem dX10_mainIt_2 : decode cX10_mainIt 2 = .ok (.lconst 0, 1) := by decide +kernel
theorem dX10_mainIt_3 : decode cX10_mainIt 3 = .ok (.ldc2_w 99, 3) := by decide +kernel
theorem dX10_mainIt_6 : decode cX10_mainIt 6 = .ok (.invokestatic 63, 3) := by decide +kernel
theorem dX10_mainIt_9 : decode cX10_mainIt 9 = .ok (.ifCond .eq 15, 3) := by decide +kernel
theorem dX10_mainIt_12 : decode cX10_mainIt 12 = .ok (.iload_n 2, 1) := by decide +kernel
theorem dX10_mainIt_13 : decode cX10_mainIt 13 = .ok (.i2l, 1) := by decide +kernel
theorem dX10_mainIt_14 : decode cX10_mainIt 14 = .ok (.lconst 1, 1) := by decide +kernel
theorem dX10_mainIt_15 : decode cX10_mainIt 15 = .ok (.ldc2_w 114, 3) := by decide +kernel
theorem dX10_mainIt_18 : decode cX10_mainIt 18 = .ok (.invokestatic 63, 3) := by decide +kernel
theorem dX10_mainIt_21 : decode cX10_mainIt 21 = .ok (.ifCond .ne 9, 3) := by decide +kernel
theorem dX10_mainIt_24 : decode cX10_mainIt 24 = .ok (.aload_n 0, 1) := by decide +kernel
theorem dX10_mainIt_25 : decode cX10_mainIt 25 = .ok (.iconst 1, 1) := by decide +kernel
theorem dX10_mainIt_26 : decode cX10_mainIt 26 = .ok (.invokevirtual 101, 3) := by decide +kernel
theorem dX10_mainIt_29 : decode cX10_mainIt 29 = .ok (.ireturn, 1) := by decide +kernel
theorem dX10_mainIt_30 : decode cX10_mainIt 30 = .ok (.aload_n 0, 1) := by decide +kernel
theorem dX10_mainIt_31 : decode cX10_mainIt 31 = .ok (.getfield 9, 3) := by decide +kernel
theorem dX10_mainIt_34 : decode cX10_mainIt 34 = .ok (.iconst 2, 1) := by decide +kernel
theorem dX10_mainIt_35 : decode cX10_mainIt 35 = .ok (.iaload, 1) := by decide +kernel
theorem dX10_mainIt_36 : decode cX10_mainIt 36 = .ok (.bipush 12, 2) := by decide +kernel
theorem dX10_mainIt_38 : decode cX10_mainIt 38 = .ok (.if_icmp .ne 11, 3) := by decide +kernel
theorem dX10_mainIt_41 : decode cX10_mainIt 41 = .ok (.aload_n 0, 1) := by decide +kernel
theorem dX10_mainIt_42 : decode cX10_mainIt 42 = .ok (.iconst 2, 1) := by decide +kernel
theorem dX10_mainIt_43 : decode cX10_mainIt 43 = .ok (.invokevirtual 101, 3) := by decide +kernel
theorem dX10_mainIt_46 : decode cX10_mainIt 46 = .ok (.goto 10, 3) := by decide +kernel
theorem dX10_mainIt_49 : decode cX10_mainIt 49 = .ok (.aload_n 0, 1) := by decide +kernel
theorem dX10_mainIt_50 : decode cX10_mainIt 50 = .ok (.iconst (-1), 1) := by decide +kernel
theorem dX10_mainIt_51 : decode cX10_mainIt 51 = .ok (.iload_n 1, 1) := by decide +kernel
theorem dX10_mainIt_52 : decode cX10_mainIt 52 = .ok (.iload_n 2, 1) := by decide +kernel
theorem dX10_mainIt_53 : decode cX10_mainIt 53 = .ok (.invokevirtual 116, 3) := by decide +kernel
theorem dX10_mainIt_56 : decode cX10_mainIt 56 = .ok (.ireturn, 1) := by decide +kernel
set_option maxHeartbeats 1000000 in
set_option maxRecDepth 20000 in
theorem m_mainIt (l : Launch) (D : va_G) (aT : Nat → ClassId) (ad : Nat → Nat) (S : MSt) (x y : Int32) (n : Nat) (hn : S 0 2 = nI n) (h12 : n ≤ 12) : MdI l yX10_mainIt cX10_mainIt 3 .int 1 25 D aT ad [.ref (ad 0), .int x, .int y] S (fun r S1 => ((rgB 0 9 x && rgB 1 20 y) = false ∧ r = -1 ∧ S1 = ss S 8 (nI 1)) ∨ ((rgB 0 9 x && rgB 1 20 y) = true ∧ n = 12 ∧ r = -1 ∧ S1 = ss S 8 (nI 2)) ∨ ((rgB 0 9 x && rgB 1 20 y) = true ∧ n < 12 ∧ r = S 0 1 ∧ S1 = sr S 0 (addF (S 0) n (-1) x y))) := by
  refine MdI.of (by decide +kernel) rfl (Nat.le_of_ble_eq_true rfl) ?_
  intro p e s m below meth c A ls C hml hl hA hr hlocks hW
  have hl : lv_has ls 3 [(0, .ref (ad 0)), (1, .int x), (2, .int y)] := hl
  have hx := C.1
  have hb := C.2.1
  refine lv_iload_n hx hb dX10_mainIt_0 rfl (lv_at hl 1 rfl) ?_
  refine lv_i2l (v := (x).toInt64) hx hb dX10_mainIt_1 rfl ?_
  refine lv_lconst (v := 0) hx hb dX10_mainIt_2 (by decide) ?_
  refine lv_ldc2 hx hb C.2.2.2.1 (C.2.2.1 _ gw_1722) dX10_mainIt_3 ?_
  refine md_calls C hml hl.1 (As := [.long ((x).toInt64), .long 0, .long 9]) (rest := []) (m_in l ((x).toInt64) 0 9) gT_in hd_in rfl ⟨Nat.le_of_ble_eq_true rfl, Nat.le_of_ble_eq_true rfl⟩ ⟨Nat.le_refl _, Nat.le_refl _⟩ rfl (Nat.le_of_ble_eq_true rfl) dX10_mainIt_6 (fun r_6 hq => ?_)
  subst hq
  refine r_bI_eq hx hb (b := (rgB 0 9 x)) (tgt := 24) dX10_mainIt_9 (by decide) (fun c_9 => ?_) (fun c_9 => ?_)
  · refine lv_aload_n hx hb dX10_mainIt_24 rfl (lv_at hl 0 rfl) ?_
    refine lv_iconst (v := nI 1) hx hb dX10_mainIt_25 (by decide) ?_
    refine md_calli C hml hl.1 (As := [.int (nI 1)]) (rest := []) (m_throwing l D aT ad S 1) gT_throwing hd_throwing rfl ⟨Nat.le_of_ble_eq_true rfl, Nat.le_of_ble_eq_true rfl⟩ ⟨Nat.le_refl _, Nat.le_refl _⟩ hW hA rfl (Nat.le_of_ble_eq_true rfl) dX10_mainIt_26 (fun r_26 S_26 H locs hq hW => ?_)
    obtain ⟨rfl, rfl⟩ := hq
    exact md_iret C hr hlocks rfl hW (Or.inl ⟨by simp [c_9], rfl, rfl⟩) dX10_mainIt_29
  · refine lv_iload_n hx hb dX10_mainIt_12 rfl (lv_at hl 2 rfl) ?_
    refine lv_i2l (v := (y).toInt64) hx hb dX10_mainIt_13 rfl ?_
    refine lv_lconst (v := 1) hx hb dX10_mainIt_14 (by decide) ?_
    refine lv_ldc2 hx hb C.2.2.2.1 (C.2.2.1 _ gw_1742) dX10_mainIt_15 ?_
    refine md_calls C hml hl.1 (As := [.long ((y).toInt64), .long 1, .long 20]) (rest := []) (m_in l ((y).toInt64) 1 20) gT_in hd_in rfl ⟨Nat.le_of_ble_eq_true rfl, Nat.le_of_ble_eq_true rfl⟩ ⟨Nat.le_refl _, Nat.le_refl _⟩ rfl (Nat.le_of_ble_eq_true rfl) dX10_mainIt_18 (fun r_18 hq => ?_)
    subst hq
    refine r_bI_ne hx hb (b := (rgB 1 20 y)) (tgt := 30) dX10_mainIt_21 (by decide) (fun c_21 => ?_) (fun c_21 => ?_)
    · refine lv_aload_n hx hb dX10_mainIt_30 rfl (lv_at hl 0 rfl) ?_
      refine md_geta_m C hW dX10_mainIt_31 ?_
      refine lv_iconst (v := nI 2) hx hb dX10_mainIt_34 (by decide) ?_
      refine md_ald_m C hW (i := 2) (by omega) dX10_mainIt_35 ?_
      refine r_eq (y := (nI n)) (hn) ?_
      refine lv_bipush (v := nI 12) hx hb dX10_mainIt_36 (by decide) ?_
      refine r_neN hx hb (a := n) (b := 12) (by omega) (by omega) (tgt := 49) dX10_mainIt_38 (by decide) (fun c_38 => ?_) (fun c_38 => ?_)
      · refine lv_aload_n hx hb dX10_mainIt_49 rfl (lv_at hl 0 rfl) ?_
        refine lv_iconst (v := (-1)) hx hb dX10_mainIt_50 (by decide) ?_
        refine lv_iload_n hx hb dX10_mainIt_51 rfl (lv_at hl 1 rfl) ?_
        refine lv_iload_n hx hb dX10_mainIt_52 rfl (lv_at hl 2 rfl) ?_
        refine md_calli C hml hl.1 (As := [.int (-1), .int x, .int y]) (rest := []) (m_adds l D aT ad S n ((-1)) (x) (y) hn (by omega)) gT_adds hd_adds rfl ⟨Nat.le_of_ble_eq_true rfl, Nat.le_of_ble_eq_true rfl⟩ ⟨Nat.le_refl _, Nat.le_refl _⟩ hW hA rfl (Nat.le_of_ble_eq_true rfl) dX10_mainIt_53 (fun r_53 S_53 H locs hq hW => ?_)
        obtain ⟨rfl, rfl⟩ := hq
        exact md_iret C hr hlocks rfl hW (Or.inr (Or.inr ⟨by simp [c_9, c_21], by omega, rfl, rfl⟩)) dX10_mainIt_56
      · refine lv_aload_n hx hb dX10_mainIt_41 rfl (lv_at hl 0 rfl) ?_
        refine lv_iconst (v := nI 2) hx hb dX10_mainIt_42 (by decide) ?_
        refine md_calli C hml hl.1 (As := [.int (nI 2)]) (rest := []) (m_throwing l D aT ad S 2) gT_throwing hd_throwing rfl ⟨Nat.le_of_ble_eq_true rfl, Nat.le_of_ble_eq_true rfl⟩ ⟨Nat.le_refl _, Nat.le_refl _⟩ hW hA rfl (Nat.le_of_ble_eq_true rfl) dX10_mainIt_43 (fun r_43 S_43 H locs hq hW => ?_)
        obtain ⟨rfl, rfl⟩ := hq
        refine lv_goto (tgt := 56) hx hb dX10_mainIt_46 (by decide) ?_
        exact md_iret C hr hlocks rfl hW (Or.inr (Or.inl ⟨by simp [c_9, c_21], c_38, rfl, rfl⟩)) dX10_mainIt_56
    · refine lv_aload_n hx hb dX10_mainIt_24 rfl (lv_at hl 0 rfl) ?_
      refine lv_iconst (v := nI 1) hx hb dX10_mainIt_25 (by decide) ?_
      refine md_calli C hml hl.1 (As := [.int (nI 1)]) (rest := []) (m_throwing l D aT ad S 1) gT_throwing hd_throwing rfl ⟨Nat.le_of_ble_eq_true rfl, Nat.le_of_ble_eq_true rfl⟩ ⟨Nat.le_refl _, Nat.le_refl _⟩ hW hA rfl (Nat.le_of_ble_eq_true rfl) dX10_mainIt_26 (fun r_26 S_26 H locs hq hW => ?_)
      obtain ⟨rfl, rfl⟩ := hq
      exact md_iret C hr hlocks rfl hW (Or.inl ⟨by simp [c_9, c_21], rfl, rfl⟩) dX10_mainIt_29
theorem gT_amendIt : GoodIn gw (wsV RX10 122 RX10 yX10_amendIt (Cond.code yX10_amendIt cX10_amendIt 4 (some .int) :: gw)) := gdV gw_1751 gw_1753 gw_27 gw_81 gw_1754
theorem hd_amendIt : yX10_amendIt.cls = RX10 ∧ yX10_amendIt.cls ≠ "java/lang/invoke/MethodHandle" ∧ yX10_amendIt.cls ≠ "java/lang/invoke/VarHandle" ∧ (parseMethodDescriptor yX10_amendIt.desc).map (fun d => d.parameters.length) = some 3 := ⟨rfl, by decide +kernel, by decide +kernel, by decide +kernel⟩
theorem dX10_amendIt_0 : decode cX10_amendIt 0 = .ok (.aload_n 0, 1) := by decide +kernel
theorem dX10_amendIt_1 : decode cX10_amendIt 1 = .ok (.iload_n 1, 1) := by decide +kernel
theorem dX10_amendIt_2 : decode cX10_amendIt 2 = .ok (.invokevirtual 71, 3) := by decide +kernel
theorem dX10_amendIt_5 : decode cX10_amendIt 5 = .ok (.iconst (-1), 1) := by decide +kernel
theorem dX10_amendIt_6 : decode cX10_amendIt 6 = .ok (.if_icmp .ne 9, 3) := by decide +kernel
theorem dX10_amendIt_9 : decode cX10_amendIt 9 = .ok (.aload_n 0, 1) := by decide +kernel
theorem dX10_amendIt_10 : decode cX10_amendIt 10 = .ok (.iconst 1, 1) := by decide +kernel
theorem dX10_amendIt_11 : decode cX10_amendIt 11 = .ok (.invokevirtual 101, 3) := by decide +kernel
theorem dX10_amendIt_14 : decode cX10_amendIt 14 = .ok (.ireturn, 1) := by decide +kernel
theorem dX10_amendIt_15 : decode cX10_amendIt 15 = .ok (.iload_n 2, 1) := by decide +kernel
theorem dX10_amendIt_16 : decode cX10_amendIt 16 = .ok (.i2l, 1) := by decide +kernel
theorem dX10_amendIt_17 : decode cX10_amendIt 17 = .ok (.lconst 0, 1) := by decide +kernel
theorem dX10_amendIt_18 : decode cX10_amendIt 18 = .ok (.ldc2_w 99, 3) := by decide +kernel
theorem dX10_amendIt_21 : decode cX10_amendIt 21 = .ok (.invokestatic 63, 3) := by decide +kernel
theorem dX10_amendIt_24 : decode cX10_amendIt 24 = .ok (.ifCond .eq 15, 3) := by decide +kernel
theorem dX10_amendIt_27 : decode cX10_amendIt 27 = .ok (.iload_n 3, 1) := by decide +kernel
theorem dX10_amendIt_28 : decode cX10_amendIt 28 = .ok (.i2l, 1) := by decide +kernel
theorem dX10_amendIt_29 : decode cX10_amendIt 29 = .ok (.lconst 1, 1) := by decide +kernel
theorem dX10_amendIt_30 : decode cX10_amendIt 30 = .ok (.ldc2_w 114, 3) := by decide +kernel
theorem dX10_amendIt_33 : decode cX10_amendIt 33 = .ok (.invokestatic 63, 3) := by decide +kernel
theorem dX10_amendIt_36 : decode cX10_amendIt 36 = .ok (.ifCond .ne 9, 3) := by decide +kernel
theorem dX10_amendIt_39 : decode cX10_amendIt 39 = .ok (.aload_n 0, 1) := by decide +kernel
theorem dX10_amendIt_40 : decode cX10_amendIt 40 = .ok (.iconst 2, 1) := by decide +kernel
theorem dX10_amendIt_41 : decode cX10_amendIt 41 = .ok (.invokevirtual 101, 3) := by decide +kernel
theorem dX10_amendIt_44 : decode cX10_amendIt 44 = .ok (.ireturn, 1) := by decide +kernel
theorem dX10_amendIt_45 : decode cX10_amendIt 45 = .ok (.aload_n 0, 1) := by decide +kernel
theorem dX10_amendIt_46 : decode cX10_amendIt 46 = .ok (.getfield 9, 3) := by decide +kernel
theorem dX10_amendIt_49 : decode cX10_amendIt 49 = .ok (.iconst 2, 1) := by decide +kernel
theorem dX10_amendIt_50 : decode cX10_amendIt 50 = .ok (.iaload, 1) := by decide +kernel
theorem dX10_amendIt_51 : decode cX10_amendIt 51 = .ok (.bipush 12, 2) := by decide +kernel
theorem dX10_amendIt_53 : decode cX10_amendIt 53 = .ok (.if_icmp .ne 11, 3) := by decide +kernel
theorem dX10_amendIt_56 : decode cX10_amendIt 56 = .ok (.aload_n 0, 1) := by decide +kernel
theorem dX10_amendIt_57 : decode cX10_amendIt 57 = .ok (.iconst 3, 1) := by decide +kernel
theorem dX10_amendIt_58 : decode cX10_amendIt 58 = .ok (.invokevirtual 101, 3) := by decide +kernel
theorem dX10_amendIt_61 : decode cX10_amendIt 61 = .ok (.goto 10, 3) := by decide +kernel
theorem dX10_amendIt_64 : decode cX10_amendIt 64 = .ok (.aload_n 0, 1) := by decide +kernel
theorem dX10_amendIt_65 : decode cX10_amendIt 65 = .ok (.iload_n 1, 1) := by decide +kernel
theorem dX10_amendIt_66 : decode cX10_amendIt 66 = .ok (.iload_n 2, 1) := by decide +kernel
theorem dX10_amendIt_67 : decode cX10_amendIt 67 = .ok (.iload_n 3, 1) := by decide +kernel
theorem dX10_amendIt_68 : decode cX10_amendIt 68 = .ok (.invokevirtual 116, 3) := by decide +kernel
theorem dX10_amendIt_71 : decode cX10_amendIt 71 = .ok (.ireturn, 1) := by decide +kernel
set_option maxHeartbeats 1000000 in
set_option maxRecDepth 20000 in
theorem m_amendIt (l : Launch) (D : va_G) (aT : Nat → ClassId) (ad : Nat → Nat) (S : MSt) (x y z : Int32) (n : Nat) (hn : S 0 2 = nI n) (h12 : n ≤ 12) : MdI l yX10_amendIt cX10_amendIt 4 .int 2 44 D aT ad [.ref (ad 0), .int x, .int y, .int z] S (fun r S1 => (fnd (fun k => S 0 (29 + 4 * k)) x n = none ∧ r = -1 ∧ S1 = ss S 8 (nI 1)) ∨ (∃ q, fnd (fun k => S 0 (29 + 4 * k)) x n = some q ∧ (rgB 0 9 y && rgB 1 20 z) = false ∧ r = -1 ∧ S1 = ss S 8 (nI 2)) ∨ (∃ q, fnd (fun k => S 0 (29 + 4 * k)) x n = some q ∧ (rgB 0 9 y && rgB 1 20 z) = true ∧ n = 12 ∧ r = -1 ∧ S1 = ss S 8 (nI 3)) ∨ (∃ q, fnd (fun k => S 0 (29 + 4 * k)) x n = some q ∧ (rgB 0 9 y && rgB 1 20 z) = true ∧ n < 12 ∧ r = S 0 1 ∧ S1 = sr S 0 (addF (S 0) n x y z))) := by
  refine MdI.of (by decide +kernel) rfl (Nat.le_of_ble_eq_true rfl) ?_
  intro p e s m below meth c A ls C hml hl hA hr hlocks hW
  have hl : lv_has ls 4 [(0, .ref (ad 0)), (1, .int x), (2, .int y), (3, .int z)] := hl
  have hx := C.1
  have hb := C.2.1
  refine lv_aload_n hx hb dX10_amendIt_0 rfl (lv_at hl 0 rfl) ?_
  refine lv_iload_n hx hb dX10_amendIt_1 rfl (lv_at hl 1 rfl) ?_
  refine md_callg C hml hl.1 (As := [.int x]) (rest := []) (m_find l D aT ad S (x) n hn h12) gT_find hd_find rfl ⟨Nat.le_of_ble_eq_true rfl, Nat.le_of_ble_eq_true rfl⟩ ⟨Nat.le_refl _, Nat.le_refl _⟩ hW hA rfl (Nat.le_of_ble_eq_true rfl) dX10_amendIt_2 (fun r_2 H locs hq hW => ?_)
  subst hq
  refine lv_iconst (v := (-1)) hx hb dX10_amendIt_5 (by decide) ?_
  refine r_oi_ne hx hb (o := (fnd (fun k => S 0 (29 + 4 * k)) (x) n)) (fun j hj => by have := (fnd_some hj).1; omega) (tgt := 15) dX10_amendIt_6 (by decide) (fun j_6 c_6 => ?_) (fun c_6 => ?_)
  · refine lv_iload_n hx hb dX10_amendIt_15 rfl (lv_at hl 2 rfl) ?_
    refine lv_i2l (v := (y).toInt64) hx hb dX10_amendIt_16 rfl ?_
    refine lv_lconst (v := 0) hx hb dX10_amendIt_17 (by decide) ?_
    refine lv_ldc2 hx hb C.2.2.2.1 (C.2.2.1 _ gw_1722) dX10_amendIt_18 ?_
    refine md_calls C hml hl.1 (As := [.long ((y).toInt64), .long 0, .long 9]) (rest := []) (m_in l ((y).toInt64) 0 9) gT_in hd_in rfl ⟨Nat.le_of_ble_eq_true rfl, Nat.le_of_ble_eq_true rfl⟩ ⟨Nat.le_refl _, Nat.le_refl _⟩ rfl (Nat.le_of_ble_eq_true rfl) dX10_amendIt_21 (fun r_21 hq => ?_)
    subst hq
    refine r_bI_eq hx hb (b := (rgB 0 9 y)) (tgt := 39) dX10_amendIt_24 (by decide) (fun c_24 => ?_) (fun c_24 => ?_)
    · refine lv_aload_n hx hb dX10_amendIt_39 rfl (lv_at hl 0 rfl) ?_
      refine lv_iconst (v := nI 2) hx hb dX10_amendIt_40 (by decide) ?_
      refine md_calli C hml hl.1 (As := [.int (nI 2)]) (rest := []) (m_throwing l D aT ad S 2) gT_throwing hd_throwing rfl ⟨Nat.le_of_ble_eq_true rfl, Nat.le_of_ble_eq_true rfl⟩ ⟨Nat.le_refl _, Nat.le_refl _⟩ hW hA rfl (Nat.le_of_ble_eq_true rfl) dX10_amendIt_41 (fun r_41 S_41 H locs hq hW => ?_)
      obtain ⟨rfl, rfl⟩ := hq
      exact md_iret C hr hlocks rfl hW (Or.inr (Or.inl ⟨j_6, c_6, by simp [c_24], rfl, rfl⟩)) dX10_amendIt_44
    · refine lv_iload_n hx hb dX10_amendIt_27 rfl (lv_at hl 3 rfl) ?_
      refine lv_i2l (v := (z).toInt64) hx hb dX10_amendIt_28 rfl ?_
      refine lv_lconst (v := 1) hx hb dX10_amendIt_29 (by decide) ?_
      refine lv_ldc2 hx hb C.2.2.2.1 (C.2.2.1 _ gw_1742) dX10_amendIt_30 ?_
      refine md_calls C hml hl.1 (As := [.long ((z).toInt64), .long 1, .long 20]) (rest := []) (m_in l ((z).toInt64) 1 20) gT_in hd_in rfl ⟨Nat.le_of_ble_eq_true rfl, Nat.le_of_ble_eq_true rfl⟩ ⟨Nat.le_refl _, Nat.le_refl _⟩ rfl (Nat.le_of_ble_eq_true rfl) dX10_amendIt_33 (fun r_33 hq => ?_)
      subst hq
      refine r_bI_ne hx hb (b := (rgB 1 20 z)) (tgt := 45) dX10_amendIt_36 (by decide) (fun c_36 => ?_) (fun c_36 => ?_)
      · refine lv_aload_n hx hb dX10_amendIt_45 rfl (lv_at hl 0 rfl) ?_
        refine md_geta_m C hW dX10_amendIt_46 ?_
        refine lv_iconst (v := nI 2) hx hb dX10_amendIt_49 (by decide) ?_
        refine md_ald_m C hW (i := 2) (by omega) dX10_amendIt_50 ?_
        refine r_eq (y := (nI n)) (hn) ?_
        refine lv_bipush (v := nI 12) hx hb dX10_amendIt_51 (by decide) ?_
        refine r_neN hx hb (a := n) (b := 12) (by omega) (by omega) (tgt := 64) dX10_amendIt_53 (by decide) (fun c_53 => ?_) (fun c_53 => ?_)
        · refine lv_aload_n hx hb dX10_amendIt_64 rfl (lv_at hl 0 rfl) ?_
          refine lv_iload_n hx hb dX10_amendIt_65 rfl (lv_at hl 1 rfl) ?_
          refine lv_iload_n hx hb dX10_amendIt_66 rfl (lv_at hl 2 rfl) ?_
          refine lv_iload_n hx hb dX10_amendIt_67 rfl (lv_at hl 3 rfl) ?_
          refine md_calli C hml hl.1 (As := [.int x, .int y, .int z]) (rest := []) (m_adds l D aT ad S n (x) (y) (z) hn (by omega)) gT_adds hd_adds rfl ⟨Nat.le_of_ble_eq_true rfl, Nat.le_of_ble_eq_true rfl⟩ ⟨Nat.le_refl _, Nat.le_refl _⟩ hW hA rfl (Nat.le_of_ble_eq_true rfl) dX10_amendIt_68 (fun r_68 S_68 H locs hq hW => ?_)
          obtain ⟨rfl, rfl⟩ := hq
          exact md_iret C hr hlocks rfl hW (Or.inr (Or.inr (Or.inr ⟨j_6, c_6, by simp [c_24, c_36], by omega, rfl, rfl⟩))) dX10_amendIt_71
        · refine lv_aload_n hx hb dX10_amendIt_56 rfl (lv_at hl 0 rfl) ?_
          refine lv_iconst (v := nI 3) hx hb dX10_amendIt_57 (by decide) ?_
          refine md_calli C hml hl.1 (As := [.int (nI 3)]) (rest := []) (m_throwing l D aT ad S 3) gT_throwing hd_throwing rfl ⟨Nat.le_of_ble_eq_true rfl, Nat.le_of_ble_eq_true rfl⟩ ⟨Nat.le_refl _, Nat.le_refl _⟩ hW hA rfl (Nat.le_of_ble_eq_true rfl) dX10_amendIt_58 (fun r_58 S_58 H locs hq hW => ?_)
          obtain ⟨rfl, rfl⟩ := hq
          refine lv_goto (tgt := 71) hx hb dX10_amendIt_61 (by decide) ?_
          exact md_iret C hr hlocks rfl hW (Or.inr (Or.inr (Or.inl ⟨j_6, c_6, by simp [c_24, c_36], c_53, rfl, rfl⟩))) dX10_amendIt_71
      · refine lv_aload_n hx hb dX10_amendIt_39 rfl (lv_at hl 0 rfl) ?_
        refine lv_iconst (v := nI 2) hx hb dX10_amendIt_40 (by decide) ?_
        refine md_calli C hml hl.1 (As := [.int (nI 2)]) (rest := []) (m_throwing l D aT ad S 2) gT_throwing hd_throwing rfl ⟨Nat.le_of_ble_eq_true rfl, Nat.le_of_ble_eq_true rfl⟩ ⟨Nat.le_refl _, Nat.le_refl _⟩ hW hA rfl (Nat.le_of_ble_eq_true rfl) dX10_amendIt_41 (fun r_41 S_41 H locs hq hW => ?_)
        obtain ⟨rfl, rfl⟩ := hq
        exact md_iret C hr hlocks rfl hW (Or.inr (Or.inl ⟨j_6, c_6, by simp [c_24, c_36], rfl, rfl⟩)) dX10_amendIt_44
  · refine lv_aload_n hx hb dX10_amendIt_9 rfl (lv_at hl 0 rfl) ?_
    refine lv_iconst (v := nI 1) hx hb dX10_amendIt_10 (by decide) ?_
    refine md_calli C hml hl.1 (As := [.int (nI 1)]) (rest := []) (m_throwing l D aT ad S 1) gT_throwing hd_throwing rfl ⟨Nat.le_of_ble_eq_true rfl, Nat.le_of_ble_eq_true rfl⟩ ⟨Nat.le_refl _, Nat.le_refl _⟩ hW hA rfl (Nat.le_of_ble_eq_true rfl) dX10_amendIt_11 (fun r_11 S_11 H locs hq hW => ?_)
    obtain ⟨rfl, rfl⟩ := hq
    exact md_iret C hr hlocks rfl hW (Or.inl ⟨c_6, rfl, rfl⟩) dX10_amendIt_14
theorem gT_pruneIt : GoodIn gw (wsV RX10 132 RX10 yX10_pruneIt (Cond.code yX10_pruneIt cX10_pruneIt 7 (some .int) :: gw)) := gdV gw_1767 gw_1769 gw_30 gw_81 gw_1770
theorem hd_pruneIt : yX10_pruneIt.cls = RX10 ∧ yX10_pruneIt.cls ≠ "java/lang/invoke/MethodHandle" ∧ yX10_pruneIt.cls ≠ "java/lang/invoke/VarHandle" ∧ (parseMethodDescriptor yX10_pruneIt.desc).map (fun d => d.parameters.length) = some 2 := ⟨rfl, by decide +kernel, by decide +kernel, by decide +kernel⟩
theorem dX10_pruneIt_0 : decode cX10_pruneIt 0 = .ok (.aload_n 0, 1) := by decide +kernel
theorem dX10_pruneIt_1 : decode cX10_pruneIt 1 = .ok (.iload_n 1, 1) := by decide +kernel
theorem dX10_pruneIt_2 : decode cX10_pruneIt 2 = .ok (.invokevirtual 71, 3) := by decide +kernel
theorem dX10_pruneIt_5 : decode cX10_pruneIt 5 = .ok (.istore_n 3, 1) := by decide +kernel
theorem dX10_pruneIt_6 : decode cX10_pruneIt 6 = .ok (.iload_n 3, 1) := by decide +kernel
theorem dX10_pruneIt_7 : decode cX10_pruneIt 7 = .ok (.iconst (-1), 1) := by decide +kernel
theorem dX10_pruneIt_8 : decode cX10_pruneIt 8 = .ok (.if_icmp .ne 9, 3) := by decide +kernel
theorem dX10_pruneIt_11 : decode cX10_pruneIt 11 = .ok (.aload_n 0, 1) := by decide +kernel
theorem dX10_pruneIt_12 : decode cX10_pruneIt 12 = .ok (.iconst 1, 1) := by decide +kernel
theorem dX10_pruneIt_13 : decode cX10_pruneIt 13 = .ok (.invokevirtual 101, 3) := by decide +kernel
theorem dX10_pruneIt_16 : decode cX10_pruneIt 16 = .ok (.ireturn, 1) := by decide +kernel
theorem dX10_pruneIt_17 : decode cX10_pruneIt 17 = .ok (.iload_n 2, 1) := by decide +kernel
theorem dX10_pruneIt_18 : decode cX10_pruneIt 18 = .ok (.i2l, 1) := by decide +kernel
theorem dX10_pruneIt_19 : decode cX10_pruneIt 19 = .ok (.lconst 0, 1) := by decide +kernel
theorem dX10_pruneIt_20 : decode cX10_pruneIt 20 = .ok (.ldc2_w 99, 3) := by decide +kernel
theorem dX10_pruneIt_23 : decode cX10_pruneIt 23 = .ok (.invokestatic 63, 3) := by decide +kernel
theorem dX10_pruneIt_26 : decode cX10_pruneIt 26 = .ok (.ifCond .ne 9, 3) := by decide +kernel
theorem dX10_pruneIt_29 : decode cX10_pruneIt 29 = .ok (.aload_n 0, 1) := by decide +kernel
theorem dX10_pruneIt_30 : decode cX10_pruneIt 30 = .ok (.iconst 2, 1) := by decide +kernel
theorem dX10_pruneIt_31 : decode cX10_pruneIt 31 = .ok (.invokevirtual 101, 3) := by decide +kernel
theorem dX10_pruneIt_34 : decode cX10_pruneIt 34 = .ok (.ireturn, 1) := by decide +kernel
theorem dX10_pruneIt_35 : decode cX10_pruneIt 35 = .ok (.aload_n 0, 1) := by decide +kernel
theorem dX10_pruneIt_36 : decode cX10_pruneIt 36 = .ok (.iload_n 3, 1) := by decide +kernel
theorem dX10_pruneIt_37 : decode cX10_pruneIt 37 = .ok (.invokevirtual 125, 3) := by decide +kernel
theorem dX10_pruneIt_40 : decode cX10_pruneIt 40 = .ok (.iload_n 2, 1) := by decide +kernel
theorem dX10_pruneIt_41 : decode cX10_pruneIt 41 = .ok (.iadd, 1) := by decide +kernel
theorem dX10_pruneIt_42 : decode cX10_pruneIt 42 = .ok (.istore 4, 2) := by decide +kernel
theorem dX10_pruneIt_44 : decode cX10_pruneIt 44 = .ok (.iconst 0, 1) := by decide +kernel
theorem dX10_pruneIt_45 : decode cX10_pruneIt 45 = .ok (.istore 5, 2) := by decide +kernel
theorem dX10_pruneIt_47 : decode cX10_pruneIt 47 = .ok (.aload_n 0, 1) := by decide +kernel
theorem dX10_pruneIt_48 : decode cX10_pruneIt 48 = .ok (.getfield 9, 3) := by decide +kernel
theorem dX10_pruneIt_51 : decode cX10_pruneIt 51 = .ok (.iconst 2, 1) := by decide +kernel
theorem dX10_pruneIt_52 : decode cX10_pruneIt 52 = .ok (.iaload, 1) := by decide +kernel
theorem dX10_pruneIt_53 : decode cX10_pruneIt 53 = .ok (.iconst 1, 1) := by decide +kernel
theorem dX10_pruneIt_54 : decode cX10_pruneIt 54 = .ok (.isub, 1) := by decide +kernel
theorem dX10_pruneIt_55 : decode cX10_pruneIt 55 = .ok (.istore 6, 2) := by decide +kernel
theorem dX10_pruneIt_57 : decode cX10_pruneIt 57 = .ok (.iload 6, 2) := by decide +kernel
theorem dX10_pruneIt_59 : decode cX10_pruneIt 59 = .ok (.iload_n 3, 1) := by decide +kernel
theorem dX10_pruneIt_60 : decode cX10_pruneIt 60 = .ok (.if_icmp .le 39, 3) := by decide +kernel
theorem dX10_pruneIt_63 : decode cX10_pruneIt 63 = .ok (.aload_n 0, 1) := by decide +kernel
theorem dX10_pruneIt_64 : decode cX10_pruneIt 64 = .ok (.iload 6, 2) := by decide +kernel
theorem dX10_pruneIt_66 : decode cX10_pruneIt 66 = .ok (.iload_n 3, 1) := by decide +kernel
theorem dX10_pruneIt_67 : decode cX10_pruneIt 67 = .ok (.invokevirtual 78, 3) := by decide +kernel
theorem dX10_pruneIt_70 : decode cX10_pruneIt 70 = .ok (.ifCond .eq 23, 3) := by decide +kernel
theorem dX10_pruneIt_73 : decode cX10_pruneIt 73 = .ok (.aload_n 0, 1) := by decide +kernel
theorem dX10_pruneIt_74 : decode cX10_pruneIt 74 = .ok (.iload 6, 2) := by decide +kernel
theorem dX10_pruneIt_76 : decode cX10_pruneIt 76 = .ok (.invokevirtual 125, 3) := by decide +kernel
theorem dX10_pruneIt_79 : decode cX10_pruneIt 79 = .ok (.iload 4, 2) := by decide +kernel
theorem dX10_pruneIt_81 : decode cX10_pruneIt 81 = .ok (.if_icmp .le 12, 3) := by decide +kernel
theorem dX10_pruneIt_84 : decode cX10_pruneIt 84 = .ok (.aload_n 0, 1) := by decide +kernel
theorem dX10_pruneIt_85 : decode cX10_pruneIt 85 = .ok (.iload 6, 2) := by decide +kernel
theorem dX10_pruneIt_87 : decode cX10_pruneIt 87 = .ok (.invokevirtual 128, 3) := by decide +kernel
theorem dX10_pruneIt_90 : decode cX10_pruneIt 90 = .ok (.iinc 5 1, 3) := by decide +kernel
theorem dX10_pruneIt_93 : decode cX10_pruneIt 93 = .ok (.iinc 6 (-1), 3) := by decide +kernel
theorem dX10_pruneIt_96 : decode cX10_pruneIt 96 = .ok (.goto (-39), 3) := by decide +kernel
theorem dX10_pruneIt_99 : decode cX10_pruneIt 99 = .ok (.iload 5, 2) := by decide +kernel
theorem dX10_pruneIt_101 : decode cX10_pruneIt 101 = .ok (.ireturn, 1) := by decide +kernel
set_option maxHeartbeats 2000000 in
set_option maxRecDepth 20000 in
theorem m_pruneIt (l : Launch) (D : va_G) (aT : Nat → ClassId) (ad : Nat → Nat) (S : MSt) (x y : Int32) (hF : FoW (S 0)) : MdI l yX10_pruneIt cX10_pruneIt 7 .int 4 88 D aT ad [.ref (ad 0), .int x, .int y] S (fun r S1 => (fnd (fun k => S 0 (29 + 4 * k)) x (nM (S 0)) = none ∧ r = -1 ∧ S1 = ss S 8 (nI 1)) ∨ (∃ q, fnd (fun k => S 0 (29 + 4 * k)) x (nM (S 0)) = some q ∧ rgB 0 9 y = false ∧ r = -1 ∧ S1 = ss S 8 (nI 2)) ∨ (∃ q v, fnd (fun k => S 0 (29 + 4 * k)) x (nM (S 0)) = some q ∧ y = nI v ∧ v ≤ 9 ∧ rgB 0 9 y = true ∧ r = nI (prnR (S 0) q v).2 ∧ S1 = sr S 0 (prnR (S 0) q v).1)) := by
  refine MdI.of (by decide +kernel) rfl (Nat.le_of_ble_eq_true rfl) ?_
  intro p e s m below meth c A ls C hml hl hA hr hlocks hW
  have hl : lv_has ls 7 [(0, .ref (ad 0)), (1, .int x), (2, .int y)] := hl
  have hx := C.1
  have hb := C.2.1
  refine lv_aload_n hx hb dX10_pruneIt_0 rfl (lv_at hl 0 rfl) ?_
  refine lv_iload_n hx hb dX10_pruneIt_1 rfl (lv_at hl 1 rfl) ?_
  refine md_callg C hml hl.1 (As := [.int x]) (rest := []) (m_find l D aT ad S (x) (nM (S 0)) hF.1 hF.2.1) gT_find hd_find rfl ⟨Nat.le_of_ble_eq_true rfl, Nat.le_of_ble_eq_true rfl⟩ ⟨Nat.le_refl _, Nat.le_refl _⟩ hW hA rfl (Nat.le_of_ble_eq_true rfl) dX10_pruneIt_2 (fun r_2 H locs hq hW => ?_)
  subst hq
  refine lv_istore_n (lv' := [(3, .int (oi (fnd (fun k => S 0 (29 + 4 * k)) (x) (nM (S 0))))), (0, .ref (ad 0)), (1, .int x), (2, .int y)]) hx hb dX10_pruneIt_5 rfl hl (by decide) rfl (fun ls hl => ?_)
  refine lv_iload_n hx hb dX10_pruneIt_6 rfl (lv_at hl 0 rfl) ?_
  refine lv_iconst (v := (-1)) hx hb dX10_pruneIt_7 (by decide) ?_
  refine r_oi_ne hx hb (o := (fnd (fun k => S 0 (29 + 4 * k)) (x) (nM (S 0)))) (fun j hj => by have := (fnd_some hj).1; have := hF.n12; omega) (tgt := 17) dX10_pruneIt_8 (by decide) (fun j_8 c_8 => ?_) (fun c_8 => ?_)
  · have hl : lv_has ls 7 [(3, .int (nI j_8)), (0, .ref (ad 0)), (1, .int x), (2, .int y)] := by rw [c_8] at hl; exact hl
    have hq := (fnd_some c_8).1
    have h12 := hF.n12
    refine lv_iload_n hx hb dX10_pruneIt_17 rfl (lv_at hl 3 rfl) ?_
    refine lv_i2l (v := (y).toInt64) hx hb dX10_pruneIt_18 rfl ?_
    refine lv_lconst (v := 0) hx hb dX10_pruneIt_19 (by decide) ?_
    refine lv_ldc2 hx hb C.2.2.2.1 (C.2.2.1 _ gw_1722) dX10_pruneIt_20 ?_
    refine md_calls C hml hl.1 (As := [.long ((y).toInt64), .long 0, .long 9]) (rest := []) (m_in l ((y).toInt64) 0 9) gT_in hd_in rfl ⟨Nat.le_of_ble_eq_true rfl, Nat.le_of_ble_eq_true rfl⟩ ⟨Nat.le_refl _, Nat.le_refl _⟩ rfl (Nat.le_of_ble_eq_true rfl) dX10_pruneIt_23 (fun r_23 hq => ?_)
    subst hq
    refine r_bI_ne hx hb (b := (rgB 0 9 y)) (tgt := 35) dX10_pruneIt_26 (by decide) (fun c_26 => ?_) (fun c_26 => ?_)
    · obtain ⟨v, rfl, hv9, -⟩ := rg_nat c_26 (Or.inl (by decide)) (by decide)
      have hv9 : v ≤ 9 := by have : (9 : Int64).toInt = 9 := by decide
                             omega
      refine lv_aload_n hx hb dX10_pruneIt_35 rfl (lv_at hl 1 rfl) ?_
      refine lv_iload_n hx hb dX10_pruneIt_36 rfl (lv_at hl 0 rfl) ?_
      refine md_callg C hml hl.1 (As := [.int (nI j_8)]) (rest := []) (m_deep l D aT ad S (nM (S 0)) (idM (S 0)) (prM (S 0)) (tnM (S 0)) hF j_8 (hq)) gT_deep hd_deep rfl ⟨Nat.le_of_ble_eq_true rfl, Nat.le_of_ble_eq_true rfl⟩ ⟨Nat.le_refl _, Nat.le_refl _⟩ hW hA rfl (Nat.le_of_ble_eq_true rfl) dX10_pruneIt_37 (fun r_37 H locs hq hW => ?_)
      subst hq
      refine lv_iload_n hx hb dX10_pruneIt_40 rfl (lv_at hl 3 rfl) ?_
      refine r_iaddN hx hb (a := (dep (prM (S 0)) j_8)) (b := v) dX10_pruneIt_41 ?_
      refine lv_istore (lv' := [(4, .int (nI ((dep (prM (S 0)) j_8) + v))), (3, .int (nI j_8)), (0, .ref (ad 0)), (1, .int x), (2, .int (nI v))]) hx hb dX10_pruneIt_42 hl (by decide) rfl (fun ls hl => ?_)
      refine lv_iconst (v := nI 0) hx hb dX10_pruneIt_44 (by decide) ?_
      refine lv_istore (lv' := [(5, .int (nI 0)), (4, .int (nI ((dep (prM (S 0)) j_8) + v))), (3, .int (nI j_8)), (0, .ref (ad 0)), (1, .int x), (2, .int (nI v))]) hx hb dX10_pruneIt_45 hl (by decide) rfl (fun ls hl => ?_)
      refine lv_aload_n hx hb dX10_pruneIt_47 rfl (lv_at hl 3 rfl) ?_
      refine md_geta_m C hW dX10_pruneIt_48 ?_
      refine lv_iconst (v := nI 2) hx hb dX10_pruneIt_51 (by decide) ?_
      refine md_ald_m C hW (i := 2) (by omega) dX10_pruneIt_52 ?_
      refine r_eq (y := (nI (nM (S 0)))) (hF.1) ?_
      refine lv_iconst (v := nI 1) hx hb dX10_pruneIt_53 (by decide) ?_
      refine r_isubN hx hb (a := (nM (S 0))) (b := 1) (by omega) dX10_pruneIt_54 ?_
      refine r_eq (congrArg nI (by omega : (nM (S 0)) - 1 = j_8 + (nM (S 0) - 1 - j_8))) ?_
      refine lv_istore (lv' := [(6, .int (nI (j_8 + (nM (S 0) - 1 - j_8)))), (5, .int (nI 0)), (4, .int (nI ((dep (prM (S 0)) j_8) + v))), (3, .int (nI j_8)), (0, .ref (ad 0)), (1, .int x), (2, .int (nI v))]) hx hb dX10_pruneIt_55 hl (by decide) rfl (fun ls hl => ?_)
      refine W_loopH (σ := (Nat → Int32) × Nat × Nat) (fun z_ => z_.2.2) (fun z_ H locs g => ∃ ls, g = F0 m 57 ls [] ∧ lv_has ls 7 [(0, .ref (ad 0)), (2, .int (nI v)), (3, .int (nI j_8)), (4, .int (nI (dep (prM (S 0)) j_8 + v))), (5, .int (nI z_.2.1)), (6, .int (nI (j_8 + z_.2.2)))] ∧ MdB D aT ad (sr S 0 z_.1) A s.heap H locs ∧ (prnOk j_8 (dep (prM (S 0)) j_8 + v) z_.2.2 z_.1 ∧ prnF j_8 (dep (prM (S 0)) j_8 + v) z_.2.2 z_.1 z_.2.1 = prnR (S 0) j_8 v)) ?_ ((S 0), 0, (nM (S 0) - 1 - j_8)) _ ⟨_, rfl, lv_sub hl [4, 6, 3, 2, 1, 0] rfl, (by rw [sr_self]; exact hW), ⟨prnOk_0 hF hq, rfl⟩⟩
      clear hW hl
      rintro ⟨mm, c0, i⟩ H locs g ⟨ls, rfl, hl, hW, hok, he⟩ ih_57
      dsimp only at hl hW hok he ⊢
      refine lv_iload hx hb dX10_pruneIt_57 (lv_at hl 5 rfl) ?_
      refine lv_iload_n hx hb dX10_pruneIt_59 rfl (lv_at hl 2 rfl) ?_
      refine r_leN hx hb (a := j_8 + i) (b := j_8) (by have := hok.2.1; have := hok.1.n12; omega) (by have := hok.2.1; have := hok.1.n12; omega) (tgt := 99) dX10_pruneIt_60 (by decide) (fun c_60 => ?_) (fun c_60 => ?_)
      · refine lv_iload hx hb dX10_pruneIt_99 (lv_at hl 4 rfl) ?_
        exact md_iret C hr hlocks rfl hW (Or.inr (Or.inr ⟨j_8, v, c_8, rfl, hv9, c_26, by rw [← he, show i = 0 by omega]; rfl, by rw [← he, show i = 0 by omega]; rfl⟩)) dX10_pruneIt_101
      · obtain ⟨i, rfl⟩ : ∃ i2, i = i2 + 1 := ⟨i - 1, by omega⟩
        have hdl := dep_le hok.1.ok _ hok.2.1
        refine lv_aload_n hx hb dX10_pruneIt_63 rfl (lv_at hl 0 rfl) ?_
        refine lv_iload hx hb dX10_pruneIt_64 (lv_at hl 5 rfl) ?_
        refine lv_iload_n hx hb dX10_pruneIt_66 rfl (lv_at hl 2 rfl) ?_
        refine md_callg C hml hl.1 (As := [.int (nI (j_8 + (i + 1))), .int (nI j_8)]) (rest := []) (m_isIn l D aT ad (sr S 0 mm) (nM mm) (idM mm) (prM mm) (tnM mm) hok.1 (j_8 + (i + 1)) j_8 (hok.2.1) (by have := hok.2.1; omega)) gT_isIn hd_isIn rfl ⟨Nat.le_of_ble_eq_true rfl, Nat.le_of_ble_eq_true rfl⟩ ⟨Nat.le_refl _, Nat.le_refl _⟩ hW hA rfl (Nat.le_of_ble_eq_true rfl) dX10_pruneIt_67 (fun r_67 H locs hq hW => ?_)
        subst hq
        refine r_bI_eq hx hb (b := (anc (prM mm) j_8 (j_8 + (i + 1)))) (tgt := 93) dX10_pruneIt_70 (by decide) (fun c_70 => ?_) (fun c_70 => ?_)
        · refine lv_iinc (v := (nI (j_8 + i))) (lv' := [(6, .int (nI (j_8 + i))), (0, .ref (ad 0)), (2, .int (nI v)), (3, .int (nI j_8)), (4, .int (nI (dep (prM (S 0)) j_8 + v))), (5, .int (nI c0))]) hx hb dX10_pruneIt_93 hl (k := 5) rfl (pk_m1 _) (by decide) rfl (fun ls hl => ?_)
          refine lv_goto (tgt := 57) hx hb dX10_pruneIt_96 (by decide) ?_
          exact ih_57 (mm, c0, i) _ _ _ (by dsimp only; omega) ⟨_, rfl, lv_sub hl [1, 2, 3, 4, 5, 0] rfl, hW, ⟨prn_skip hok (fun z => by rw [c_70] at z; exact absurd z.1 (by decide)), by rw [← he, prnF_no (by rw [Bool.and_eq_false_iff]; exact Or.inl c_70)]⟩⟩
        · refine lv_aload_n hx hb dX10_pruneIt_73 rfl (lv_at hl 0 rfl) ?_
          refine lv_iload hx hb dX10_pruneIt_74 (lv_at hl 5 rfl) ?_
          refine md_callg C hml hl.1 (As := [.int (nI (j_8 + (i + 1)))]) (rest := []) (m_deep l D aT ad (sr S 0 mm) (nM mm) (idM mm) (prM mm) (tnM mm) hok.1 (j_8 + (i + 1)) (hok.2.1)) gT_deep hd_deep rfl ⟨Nat.le_of_ble_eq_true rfl, Nat.le_of_ble_eq_true rfl⟩ ⟨Nat.le_refl _, Nat.le_refl _⟩ hW hA rfl (Nat.le_of_ble_eq_true rfl) dX10_pruneIt_76 (fun r_76 H locs hq hW => ?_)
          subst hq
          refine lv_iload hx hb dX10_pruneIt_79 (lv_at hl 3 rfl) ?_
          refine r_leN hx hb (a := (dep (prM mm) (j_8 + (i + 1)))) (b := dep (prM (S 0)) j_8 + v) (by have := hok.2.1; have := hok.1.n12; have := dep_le hF.ok _ hq; omega) (by have := hok.2.1; have := hok.1.n12; have := dep_le hF.ok _ hq; omega) (tgt := 93) dX10_pruneIt_81 (by decide) (fun c_81 => ?_) (fun c_81 => ?_)
          · refine lv_iinc (v := (nI (j_8 + i))) (lv' := [(6, .int (nI (j_8 + i))), (0, .ref (ad 0)), (2, .int (nI v)), (3, .int (nI j_8)), (4, .int (nI (dep (prM (S 0)) j_8 + v))), (5, .int (nI c0))]) hx hb dX10_pruneIt_93 hl (k := 5) rfl (pk_m1 _) (by decide) rfl (fun ls hl => ?_)
            refine lv_goto (tgt := 57) hx hb dX10_pruneIt_96 (by decide) ?_
            exact ih_57 (mm, c0, i) _ _ _ (by dsimp only; omega) ⟨_, rfl, lv_sub hl [1, 2, 3, 4, 5, 0] rfl, hW, ⟨prn_skip hok (fun z => Nat.lt_irrefl _ (Nat.lt_of_lt_of_le z.2 c_81)), by rw [← he, prnF_no (by rw [Bool.and_eq_false_iff]; exact Or.inr (decide_eq_false (by omega)))]⟩⟩
          · refine lv_aload_n hx hb dX10_pruneIt_84 rfl (lv_at hl 0 rfl) ?_
            refine lv_iload hx hb dX10_pruneIt_85 (lv_at hl 5 rfl) ?_
            refine md_callv C hml hl.1 (As := [.int (nI (j_8 + (i + 1)))]) (rest := []) (m_drops l D aT ad (sr S 0 mm) (nM mm) (j_8 + (i + 1)) hok.1.1 hok.1.2.1 hok.2.1) gT_drops hd_drops rfl ⟨Nat.le_of_ble_eq_true rfl, Nat.le_of_ble_eq_true rfl⟩ ⟨Nat.le_refl _, Nat.le_refl _⟩ hW hA rfl (Nat.le_of_ble_eq_true rfl) dX10_pruneIt_87 (fun S_87 H locs hq hW => ?_)
            subst hq
            refine lv_iinc (v := (nI (c0 + 1))) (lv' := [(5, .int (nI (c0 + 1))), (0, .ref (ad 0)), (2, .int (nI v)), (3, .int (nI j_8)), (4, .int (nI (dep (prM (S 0)) j_8 + v))), (6, .int (nI (j_8 + (i + 1))))]) hx hb dX10_pruneIt_90 hl (k := 4) rfl (nI_1 _) (by decide) rfl (fun ls hl => ?_)
            refine lv_iinc (v := (nI (j_8 + i))) (lv' := [(6, .int (nI (j_8 + i))), (5, .int (nI (c0 + 1))), (0, .ref (ad 0)), (2, .int (nI v)), (3, .int (nI j_8)), (4, .int (nI (dep (prM (S 0)) j_8 + v)))]) hx hb dX10_pruneIt_93 hl (k := 5) rfl (pk_m1 _) (by decide) rfl (fun ls hl => ?_)
            refine lv_goto (tgt := 57) hx hb dX10_pruneIt_96 (by decide) ?_
            exact ih_57 ((dropF mm (j_8 + (i + 1)) (nM mm)), (c0 + 1), i) _ _ _ (by dsimp only; omega) ⟨_, rfl, lv_sub hl [2, 3, 4, 5, 1, 0] rfl, (by rw [sr_sr] at hW; exact hW), ⟨prn_drop hok c_70 c_81, by rw [← he, prnF_yes c_70 c_81]⟩⟩
    · refine lv_aload_n hx hb dX10_pruneIt_29 rfl (lv_at hl 1 rfl) ?_
      refine lv_iconst (v := nI 2) hx hb dX10_pruneIt_30 (by decide) ?_
      refine md_calli C hml hl.1 (As := [.int (nI 2)]) (rest := []) (m_throwing l D aT ad S 2) gT_throwing hd_throwing rfl ⟨Nat.le_of_ble_eq_true rfl, Nat.le_of_ble_eq_true rfl⟩ ⟨Nat.le_refl _, Nat.le_refl _⟩ hW hA rfl (Nat.le_of_ble_eq_true rfl) dX10_pruneIt_31 (fun r_31 S_31 H locs hq hW => ?_)
      obtain ⟨rfl, rfl⟩ := hq
      exact md_iret C hr hlocks rfl hW (Or.inr (Or.inl ⟨j_8, c_8, c_26, rfl, rfl⟩)) dX10_pruneIt_34
  · have hl : lv_has ls 7 [(3, .int (-1)), (0, .ref (ad 0)), (1, .int x), (2, .int y)] := by rw [c_8] at hl; exact hl
    refine lv_aload_n hx hb dX10_pruneIt_11 rfl (lv_at hl 1 rfl) ?_
    refine lv_iconst (v := nI 1) hx hb dX10_pruneIt_12 (by decide) ?_
    refine md_calli C hml hl.1 (As := [.int (nI 1)]) (rest := []) (m_throwing l D aT ad S 1) gT_throwing hd_throwing rfl ⟨Nat.le_of_ble_eq_true rfl, Nat.le_of_ble_eq_true rfl⟩ ⟨Nat.le_refl _, Nat.le_refl _⟩ hW hA rfl (Nat.le_of_ble_eq_true rfl) dX10_pruneIt_13 (fun r_13 S_13 H locs hq hW => ?_)
    obtain ⟨rfl, rfl⟩ := hq
    exact md_iret C hr hlocks rfl hW (Or.inl ⟨c_8, rfl, rfl⟩) dX10_pruneIt_16
theorem gT_regrowIt : GoodIn gw (wsV RX10 141 RX10 yX10_regrowIt (Cond.code yX10_regrowIt cX10_regrowIt 4 (some .int) :: gw)) := gdV gw_1791 gw_1793 gw_35 gw_81 gw_1794
theorem hd_regrowIt : yX10_regrowIt.cls = RX10 ∧ yX10_regrowIt.cls ≠ "java/lang/invoke/MethodHandle" ∧ yX10_regrowIt.cls ≠ "java/lang/invoke/VarHandle" ∧ (parseMethodDescriptor yX10_regrowIt.desc).map (fun d => d.parameters.length) = some 1 := ⟨rfl, by decide +kernel, by decide +kernel, by decide +kernel⟩
theorem dX10_regrowIt_0 : decode cX10_regrowIt 0 = .ok (.aload_n 0, 1) := by decide +kernel
theorem dX10_regrowIt_1 : decode cX10_regrowIt 1 = .ok (.iload_n 1, 1) := by decide +kernel
theorem dX10_regrowIt_2 : decode cX10_regrowIt 2 = .ok (.invokevirtual 71, 3) := by decide +kernel
theorem dX10_regrowIt_5 : decode cX10_regrowIt 5 = .ok (.istore_n 2, 1) := by decide +kernel
theorem dX10_regrowIt_6 : decode cX10_regrowIt 6 = .ok (.iload_n 2, 1) := by decide +kernel
theorem dX10_regrowIt_7 : decode cX10_regrowIt 7 = .ok (.iconst (-1), 1) := by decide +kernel
theorem dX10_regrowIt_8 : decode cX10_regrowIt 8 = .ok (.if_icmp .ne 9, 3) := by decide +kernel
theorem dX10_regrowIt_11 : decode cX10_regrowIt 11 = .ok (.aload_n 0, 1) := by decide +kernel
theorem dX10_regrowIt_12 : decode cX10_regrowIt 12 = .ok (.iconst 1, 1) := by decide +kernel
theorem dX10_regrowIt_13 : decode cX10_regrowIt 13 = .ok (.invokevirtual 101, 3) := by decide +kernel
theorem dX10_regrowIt_16 : decode cX10_regrowIt 16 = .ok (.ireturn, 1) := by decide +kernel
theorem dX10_regrowIt_17 : decode cX10_regrowIt 17 = .ok (.aload_n 0, 1) := by decide +kernel
theorem dX10_regrowIt_18 : decode cX10_regrowIt 18 = .ok (.getfield 9, 3) := by decide +kernel
theorem dX10_regrowIt_21 : decode cX10_regrowIt 21 = .ok (.iconst 2, 1) := by decide +kernel
theorem dX10_regrowIt_22 : decode cX10_regrowIt 22 = .ok (.iaload, 1) := by decide +kernel
theorem dX10_regrowIt_23 : decode cX10_regrowIt 23 = .ok (.bipush 12, 2) := by decide +kernel
theorem dX10_regrowIt_25 : decode cX10_regrowIt 25 = .ok (.if_icmp .ne 9, 3) := by decide +kernel
theorem dX10_regrowIt_28 : decode cX10_regrowIt 28 = .ok (.aload_n 0, 1) := by decide +kernel
theorem dX10_regrowIt_29 : decode cX10_regrowIt 29 = .ok (.iconst 2, 1) := by decide +kernel
theorem dX10_regrowIt_30 : decode cX10_regrowIt 30 = .ok (.invokevirtual 101, 3) := by decide +kernel
theorem dX10_regrowIt_33 : decode cX10_regrowIt 33 = .ok (.ireturn, 1) := by decide +kernel
theorem dX10_regrowIt_34 : decode cX10_regrowIt 34 = .ok (.aload_n 0, 1) := by decide +kernel
theorem dX10_regrowIt_35 : decode cX10_regrowIt 35 = .ok (.iload_n 2, 1) := by decide +kernel
theorem dX10_regrowIt_36 : decode cX10_regrowIt 36 = .ok (.invokevirtual 135, 3) := by decide +kernel
theorem dX10_regrowIt_39 : decode cX10_regrowIt 39 = .ok (.istore_n 3, 1) := by decide +kernel
theorem dX10_regrowIt_40 : decode cX10_regrowIt 40 = .ok (.aload_n 0, 1) := by decide +kernel
theorem dX10_regrowIt_41 : decode cX10_regrowIt 41 = .ok (.aload_n 0, 1) := by decide +kernel
theorem dX10_regrowIt_42 : decode cX10_regrowIt 42 = .ok (.iload_n 3, 1) := by decide +kernel
theorem dX10_regrowIt_43 : decode cX10_regrowIt 43 = .ok (.iconst 0, 1) := by decide +kernel
theorem dX10_regrowIt_44 : decode cX10_regrowIt 44 = .ok (.invokevirtual 67, 3) := by decide +kernel
theorem dX10_regrowIt_47 : decode cX10_regrowIt 47 = .ok (.aload_n 0, 1) := by decide +kernel
theorem dX10_regrowIt_48 : decode cX10_regrowIt 48 = .ok (.iload_n 3, 1) := by decide +kernel
theorem dX10_regrowIt_49 : decode cX10_regrowIt 49 = .ok (.iconst 2, 1) := by decide +kernel
theorem dX10_regrowIt_50 : decode cX10_regrowIt 50 = .ok (.invokevirtual 67, 3) := by decide +kernel
theorem dX10_regrowIt_53 : decode cX10_regrowIt 53 = .ok (.iconst 1, 1) := by decide +kernel
theorem dX10_regrowIt_54 : decode cX10_regrowIt 54 = .ok (.iadd, 1) := by decide +kernel
theorem dX10_regrowIt_55 : decode cX10_regrowIt 55 = .ok (.bipush 10, 2) := by decide +kernel
theorem dX10_regrowIt_57 : decode cX10_regrowIt 57 = .ok (.irem, 1) := by decide +kernel
theorem dX10_regrowIt_58 : decode cX10_regrowIt 58 = .ok (.iconst 1, 1) := by decide +kernel
theorem dX10_regrowIt_59 : decode cX10_regrowIt 59 = .ok (.aload_n 0, 1) := by decide +kernel
theorem dX10_regrowIt_60 : decode cX10_regrowIt 60 = .ok (.iload_n 3, 1) := by decide +kernel
theorem dX10_regrowIt_61 : decode cX10_regrowIt 61 = .ok (.iconst 3, 1) := by decide +kernel
theorem dX10_regrowIt_62 : decode cX10_regrowIt 62 = .ok (.invokevirtual 67, 3) := by decide +kernel
theorem dX10_regrowIt_65 : decode cX10_regrowIt 65 = .ok (.iconst 2, 1) := by decide +kernel
theorem dX10_regrowIt_66 : decode cX10_regrowIt 66 = .ok (.idiv, 1) := by decide +kernel
theorem dX10_regrowIt_67 : decode cX10_regrowIt 67 = .ok (.invokestatic 138, 3) := by decide +kernel
theorem dX10_regrowIt_70 : decode cX10_regrowIt 70 = .ok (.invokevirtual 116, 3) := by decide +kernel
theorem dX10_regrowIt_73 : decode cX10_regrowIt 73 = .ok (.ireturn, 1) := by decide +kernel
set_option maxHeartbeats 1000000 in
set_option maxRecDepth 20000 in
theorem m_regrowIt (l : Launch) (D : va_G) (aT : Nat → ClassId) (ad : Nat → Nat) (S : MSt) (x : Int32) (hF : FoW (S 0)) : MdI l yX10_regrowIt cX10_regrowIt 4 .int 5 111 D aT ad [.ref (ad 0), .int x] S (fun r S1 => (fnd (fun k => S 0 (29 + 4 * k)) x (nM (S 0)) = none ∧ r = -1 ∧ S1 = ss S 8 (nI 1)) ∨ (∃ q, fnd (fun k => S 0 (29 + 4 * k)) x (nM (S 0)) = some q ∧ nM (S 0) = 12 ∧ r = -1 ∧ S1 = ss S 8 (nI 2)) ∨ (∃ q t, fnd (fun k => S 0 (29 + 4 * k)) x (nM (S 0)) = some q ∧ nM (S 0) < 12 ∧ ltp (prM (S 0)) (nM (S 0)) q (nM (S 0)) = some t ∧ r = S 0 1 ∧ S1 = sr S 0 (addF (S 0) (nM (S 0)) (S 0 (29 + 4 * t)) (nI ((tnM (S 0) t + 1) % 10)) (hlfF (S 0 (29 + 4 * t + 3)))))) := by
  refine MdI.of (by decide +kernel) rfl (Nat.le_of_ble_eq_true rfl) ?_
  intro p e s m below meth c A ls C hml hl hA hr hlocks hW
  have hl : lv_has ls 4 [(0, .ref (ad 0)), (1, .int x)] := hl
  have hx := C.1
  have hb := C.2.1
  refine lv_aload_n hx hb dX10_regrowIt_0 rfl (lv_at hl 0 rfl) ?_
  refine lv_iload_n hx hb dX10_regrowIt_1 rfl (lv_at hl 1 rfl) ?_
  refine md_callg C hml hl.1 (As := [.int x]) (rest := []) (m_find l D aT ad S (x) (nM (S 0)) hF.1 hF.2.1) gT_find hd_find rfl ⟨Nat.le_of_ble_eq_true rfl, Nat.le_of_ble_eq_true rfl⟩ ⟨Nat.le_refl _, Nat.le_refl _⟩ hW hA rfl (Nat.le_of_ble_eq_true rfl) dX10_regrowIt_2 (fun r_2 H locs hq hW => ?_)
  subst hq
  refine lv_istore_n (lv' := [(2, .int (oi (fnd (fun k => S 0 (29 + 4 * k)) (x) (nM (S 0))))), (0, .ref (ad 0)), (1, .int x)]) hx hb dX10_regrowIt_5 rfl hl (by decide) rfl (fun ls hl => ?_)
  refine lv_iload_n hx hb dX10_regrowIt_6 rfl (lv_at hl 0 rfl) ?_
  refine lv_iconst (v := (-1)) hx hb dX10_regrowIt_7 (by decide) ?_
  refine r_oi_ne hx hb (o := (fnd (fun k => S 0 (29 + 4 * k)) (x) (nM (S 0)))) (fun j hj => by have := (fnd_some hj).1; have := hF.n12; omega) (tgt := 17) dX10_regrowIt_8 (by decide) (fun j_8 c_8 => ?_) (fun c_8 => ?_)
  · have hl : lv_has ls 4 [(2, .int (nI j_8)), (0, .ref (ad 0)), (1, .int x)] := by rw [c_8] at hl; exact hl
    have hq := (fnd_some c_8).1
    have h12 := hF.n12
    refine lv_aload_n hx hb dX10_regrowIt_17 rfl (lv_at hl 1 rfl) ?_
    refine md_geta_m C hW dX10_regrowIt_18 ?_
    refine lv_iconst (v := nI 2) hx hb dX10_regrowIt_21 (by decide) ?_
    refine md_ald_m C hW (i := 2) (by omega) dX10_regrowIt_22 ?_
    refine r_eq (y := (nI (nM (S 0)))) (hF.1) ?_
    refine lv_bipush (v := nI 12) hx hb dX10_regrowIt_23 (by decide) ?_
    refine r_neN hx hb (a := (nM (S 0))) (b := 12) (by omega) (by omega) (tgt := 34) dX10_regrowIt_25 (by decide) (fun c_25 => ?_) (fun c_25 => ?_)
    · refine lv_aload_n hx hb dX10_regrowIt_34 rfl (lv_at hl 1 rfl) ?_
      refine lv_iload_n hx hb dX10_regrowIt_35 rfl (lv_at hl 0 rfl) ?_
      obtain ⟨t, ht, htn⟩ := ltp_ex hF.ok hq
      refine md_callg C hml hl.1 (As := [.int (nI j_8)]) (rest := []) (m_lastTipAt l D aT ad S (nM (S 0)) (idM (S 0)) (prM (S 0)) (tnM (S 0)) hF j_8 (hq)) gT_lastTipAt hd_lastTipAt rfl ⟨Nat.le_of_ble_eq_true rfl, Nat.le_of_ble_eq_true rfl⟩ ⟨Nat.le_refl _, Nat.le_refl _⟩ hW hA rfl (Nat.le_of_ble_eq_true rfl) dX10_regrowIt_36 (fun r_36 H locs hq hW => ?_)
      subst hq
      refine r_eq (y := (nI t)) (by rw [ht]; rfl) ?_
      refine lv_istore_n (lv' := [(3, .int (nI t)), (2, .int (nI j_8)), (0, .ref (ad 0)), (1, .int x)]) hx hb dX10_regrowIt_39 rfl hl (by decide) rfl (fun ls hl => ?_)
      refine lv_aload_n hx hb dX10_regrowIt_40 rfl (lv_at hl 2 rfl) ?_
      refine lv_aload_n hx hb dX10_regrowIt_41 rfl (lv_at hl 2 rfl) ?_
      refine lv_iload_n hx hb dX10_regrowIt_42 rfl (lv_at hl 0 rfl) ?_
      refine lv_iconst (v := nI 0) hx hb dX10_regrowIt_43 (by decide) ?_
      refine md_callg C hml hl.1 (As := [.int (nI t), .int (nI 0)]) (rest := [.ref (ad 0)]) (m_of l D aT ad S t 0 (by omega)) gT_of hd_of rfl ⟨Nat.le_of_ble_eq_true rfl, Nat.le_of_ble_eq_true rfl⟩ ⟨Nat.le_refl _, Nat.le_refl _⟩ hW hA rfl (Nat.le_of_ble_eq_true rfl) dX10_regrowIt_44 (fun r_44 H locs hq hW => ?_)
      subst hq
      refine r_eq (y := (S 0 (29 + 4 * t))) (rfl) ?_
      refine lv_aload_n hx hb dX10_regrowIt_47 rfl (lv_at hl 2 rfl) ?_
      refine lv_iload_n hx hb dX10_regrowIt_48 rfl (lv_at hl 0 rfl) ?_
      refine lv_iconst (v := nI 2) hx hb dX10_regrowIt_49 (by decide) ?_
      refine md_callg C hml hl.1 (As := [.int (nI t), .int (nI 2)]) (rest := [.int (S 0 (29 + 4 * t)), .ref (ad 0)]) (m_of l D aT ad S t 2 (by omega)) gT_of hd_of rfl ⟨Nat.le_of_ble_eq_true rfl, Nat.le_of_ble_eq_true rfl⟩ ⟨Nat.le_refl _, Nat.le_refl _⟩ hW hA rfl (Nat.le_of_ble_eq_true rfl) dX10_regrowIt_50 (fun r_50 H locs hq hW => ?_)
      subst hq
      refine r_eq (y := (nI (tnM (S 0) t))) ((hF.2.2.2.2.2.2 t htn).1) ?_
      refine lv_iconst (v := nI 1) hx hb dX10_regrowIt_53 (by decide) ?_
      refine r_iaddN hx hb (a := (tnM (S 0) t)) (b := 1) dX10_regrowIt_54 ?_
      refine lv_bipush (v := nI 10) hx hb dX10_regrowIt_55 (by decide) ?_
      refine lv_irem hx hb dX10_regrowIt_57 (by decide) ?_
      refine r_eq (y := (nI ((tnM (S 0) t + 1) % 10))) (pk_rem (by have := (hF.2.2.2.2.2.2 t htn).2; omega) (by decide) (by decide)) ?_
      refine lv_iconst (v := nI 1) hx hb dX10_regrowIt_58 (by decide) ?_
      refine lv_aload_n hx hb dX10_regrowIt_59 rfl (lv_at hl 2 rfl) ?_
      refine lv_iload_n hx hb dX10_regrowIt_60 rfl (lv_at hl 0 rfl) ?_
      refine lv_iconst (v := nI 3) hx hb dX10_regrowIt_61 (by decide) ?_
      refine md_callg C hml hl.1 (As := [.int (nI t), .int (nI 3)]) (rest := [.int (nI 1), .int (nI ((tnM (S 0) t + 1) % 10)), .int (S 0 (29 + 4 * t)), .ref (ad 0)]) (m_of l D aT ad S t 3 (by omega)) gT_of hd_of rfl ⟨Nat.le_of_ble_eq_true rfl, Nat.le_of_ble_eq_true rfl⟩ ⟨Nat.le_refl _, Nat.le_refl _⟩ hW hA rfl (Nat.le_of_ble_eq_true rfl) dX10_regrowIt_62 (fun r_62 H locs hq hW => ?_)
      subst hq
      refine lv_iconst (v := nI 2) hx hb dX10_regrowIt_65 (by decide) ?_
      refine lv_idiv hx hb dX10_regrowIt_66 (by decide) ?_
      refine md_max C hml hl.1 gk_max ⟨Nat.le_of_ble_eq_true rfl, Nat.le_of_ble_eq_true rfl, Nat.le_of_ble_eq_true rfl⟩ ⟨Nat.le_refl _, Nat.le_refl _⟩ dX10_regrowIt_67 ?_
      refine md_calli C hml hl.1 (As := [.int (S 0 (29 + 4 * t)), .int (nI ((tnM (S 0) t + 1) % 10)), .int (if (nI 1) < ((S 0 (29 + 4 * t + 3)) / (nI 2)) then ((S 0 (29 + 4 * t + 3)) / (nI 2)) else (nI 1))]) (rest := []) (m_adds l D aT ad S (nM (S 0)) ((S 0 (29 + 4 * t))) ((nI ((tnM (S 0) t + 1) % 10))) ((if (nI 1) < ((S 0 (29 + 4 * t + 3)) / (nI 2)) then ((S 0 (29 + 4 * t + 3)) / (nI 2)) else (nI 1))) hF.1 (by omega)) gT_adds hd_adds rfl ⟨Nat.le_of_ble_eq_true rfl, Nat.le_of_ble_eq_true rfl⟩ ⟨Nat.le_refl _, Nat.le_refl _⟩ hW hA rfl (Nat.le_of_ble_eq_true rfl) dX10_regrowIt_70 (fun r_70 S_70 H locs hq hW => ?_)
      obtain ⟨rfl, rfl⟩ := hq
      exact md_iret C hr hlocks rfl hW (Or.inr (Or.inr ⟨j_8, t, c_8, by omega, ht, rfl, rfl⟩)) dX10_regrowIt_73
    · refine lv_aload_n hx hb dX10_regrowIt_28 rfl (lv_at hl 1 rfl) ?_
      refine lv_iconst (v := nI 2) hx hb dX10_regrowIt_29 (by decide) ?_
      refine md_calli C hml hl.1 (As := [.int (nI 2)]) (rest := []) (m_throwing l D aT ad S 2) gT_throwing hd_throwing rfl ⟨Nat.le_of_ble_eq_true rfl, Nat.le_of_ble_eq_true rfl⟩ ⟨Nat.le_refl _, Nat.le_refl _⟩ hW hA rfl (Nat.le_of_ble_eq_true rfl) dX10_regrowIt_30 (fun r_30 S_30 H locs hq hW => ?_)
      obtain ⟨rfl, rfl⟩ := hq
      exact md_iret C hr hlocks rfl hW (Or.inr (Or.inl ⟨j_8, c_8, c_25, rfl, rfl⟩)) dX10_regrowIt_33
  · have hl : lv_has ls 4 [(2, .int (-1)), (0, .ref (ad 0)), (1, .int x)] := by rw [c_8] at hl; exact hl
    refine lv_aload_n hx hb dX10_regrowIt_11 rfl (lv_at hl 1 rfl) ?_
    refine lv_iconst (v := nI 1) hx hb dX10_regrowIt_12 (by decide) ?_
    refine md_calli C hml hl.1 (As := [.int (nI 1)]) (rest := []) (m_throwing l D aT ad S 1) gT_throwing hd_throwing rfl ⟨Nat.le_of_ble_eq_true rfl, Nat.le_of_ble_eq_true rfl⟩ ⟨Nat.le_refl _, Nat.le_refl _⟩ hW hA rfl (Nat.le_of_ble_eq_true rfl) dX10_regrowIt_13 (fun r_13 S_13 H locs hq hW => ?_)
    obtain ⟨rfl, rfl⟩ := hq
    exact md_iret C hr hlocks rfl hW (Or.inl ⟨c_8, rfl, rfl⟩) dX10_regrowIt_16
end
section
theorem snM_eq {m : Nat → Int32} {s0 : Nat} (hs : m 3 = nI s0) (h : s0 < 4) : snM m = s0 := by unfold snM; rw [hs, nI_clamp (by omega)]
/-- what a row says of its hedges, read off it -/
def hM (m : Nat → Int32) : Nat := (m 0).toNatClampNeg
def lvM (m : Nat → Int32) (i : Nat) : Nat := (m (11 + 3 * i)).toNatClampNeg
def thM (m : Nat → Int32) (i : Nat) : Nat := (m (11 + 3 * i + 1)).toNatClampNeg
def taM (m : Nat → Int32) (i : Nat) : Nat := (m (11 + 3 * i + 2)).toNatClampNeg
def HeW (m : Nat → Int32) : Prop := HeR m (hM m) (lvM m) (thM m) (taM m)
theorem HeR.eqs {m : Nat → Int32} {h : Nat} {lv th ta : Nat → Nat} (H : HeR m h lv th ta) : hM m = h ∧ (∀ i, i < h → lvM m i = lv i) ∧ (∀ i, i < h → thM m i = th i) ∧ ∀ i, i < h → taM m i = ta i := by
  refine ⟨?_, fun i hi => ?_, fun i hi => ?_, fun i hi => ?_⟩
  · unfold hM; rw [H.1, nI_clamp (by have := H.2.1; omega)]
  · unfold lvM; rw [(H.2.2.1 i hi).1, nI_clamp (by have := (H.2.2.1 i hi).2; omega)]
  · unfold thM; rw [(H.2.2.2.1 i hi).1, nI_clamp (by have := (H.2.2.2.1 i hi).2; omega)]
  · unfold taM; rw [(H.2.2.2.2 i hi).1, nI_clamp (by have := (H.2.2.2.2 i hi).2; omega)]
theorem HeR.w {m : Nat → Int32} {h : Nat} {lv th ta : Nat → Nat} (H : HeR m h lv th ta) : HeW m := by
  obtain ⟨e1, e2, e3, e4⟩ := H.eqs
  unfold HeW
  rw [e1]
  obtain ⟨h1, h2, h3, h4, h5⟩ := id H
  exact ⟨h1, h2, fun i hi => by rw [e2 i hi]; exact h3 i hi, fun i hi => by rw [e3 i hi]; exact h4 i hi, fun i hi => by rw [e4 i hi]; exact h5 i hi⟩
/-- the row behind a vote of the first i hedges about a tone, and whether one has vetoed -/
def vtF (t : Nat) (m : Nat → Int32) : Nat → (Nat → Int32) × Bool
  | 0 => (m, false)
  | i + 1 => if vetB (dif (taM (vtF t m i).1 i) t) (thM (vtF t m i).1 i) then (upd (vtF t m i).1 (11 + 3 * i + 1) (nI (thM (vtF t m i).1 i - 1)), true) else vtF t m i
theorem HeW.thorn {m : Nat → Int32} (H : HeW m) {i q : Nat} (hi : i < hM m) (hq : q ≤ 9) : HeW (upd m (11 + 3 * i + 1) (nI q)) ∧ hM (upd m (11 + 3 * i + 1) (nI q)) = hM m ∧ (∀ k, k < hM m → lvM (upd m (11 + 3 * i + 1) (nI q)) k = lvM m k) ∧ ∀ k, k < hM m → taM (upd m (11 + 3 * i + 1) (nI q)) k = taM m k := by
  obtain ⟨h1, h2, h3, h4, h5⟩ := id H
  have key : HeR (upd m (11 + 3 * i + 1) (nI q)) (hM m) (lvM m) (fun k => if k = i then q else thM m k) (taM m) := by
    refine ⟨by rw [pk_un (by omega)]; exact h1, h2, fun k hk => by rw [pk_un (by omega)]; exact h3 k hk, fun k hk => ?_, fun k hk => by rw [pk_un (by omega)]; exact h5 k hk⟩
    by_cases hki : k = i
    · subst hki; dsimp only; rw [pk_us, if_pos rfl]; exact ⟨rfl, hq⟩
    · dsimp only; rw [pk_un (by omega), if_neg hki]; exact h4 k hk
  exact ⟨key.w, key.eqs.1, key.eqs.2.1, key.eqs.2.2.2⟩
theorem FoR.he {m m' : Nat → Int32} {n : Nat} {idn : Nat → Nat} {pr : Nat → Option Nat} {tn : Nat → Nat} (h : FoR m n idn pr tn) (e : ∀ j, j = 2 ∨ 29 ≤ j → m' j = m j) : FoR m' n idn pr tn := h.cong (fun j hj => e j (by rcases hj with rfl | ⟨k, w, _, _, rfl⟩ <;> omega))
/-- what the rows of a vote keep -/
def vtOk (m m' : Nat → Int32) : Prop := HeW m' ∧ hM m' = hM m ∧ (∀ j, (j < 11 ∨ 29 ≤ j) → m' j = m j) ∧ (∀ k, k < hM m → lvM m' k = lvM m k) ∧ ∀ k, k < hM m → taM m' k = taM m k
theorem vtF_ok {t : Nat} {m : Nat → Int32} (H : HeW m) : ∀ i, i ≤ hM m → vtOk m (vtF t m i).1 := by
  intro i
  induction i with
  | zero => intro _; exact ⟨H, rfl, fun _ _ => rfl, fun _ _ => rfl, fun _ _ => rfl⟩
  | succ i ih =>
    intro hi
    obtain ⟨a1, a2, a3, a4, a5⟩ := ih (by omega)
    unfold vtF
    split
    · have h9 := (a1.2.2.2.1 i (by rw [a2]; omega)).2
      have h6 := H.2.1
      obtain ⟨b1, b2, b3, b4⟩ := a1.thorn (i := i) (q := thM (vtF t m i).1 i - 1) (by rw [a2]; omega) (by omega)
      exact ⟨b1, by rw [b2, a2], fun j hj => by dsimp only; rw [pk_un (by omega)]; exact a3 j hj, fun k hk => by rw [b3 k (by rw [a2]; exact hk), a4 k hk], fun k hk => by rw [b4 k (by rw [a2]; exact hk), a5 k hk]⟩
    · exact ⟨a1, a2, a3, a4, a5⟩
theorem fav_cong {lv lv' ta ta' : Nat → Nat} {t : Nat} : ∀ {i : Nat}, (∀ k, k < i → lv k = lv' k) → (∀ k, k < i → ta k = ta' k) → fav lv ta t i = fav lv' ta' t i := by
  intro i
  induction i with
  | zero => intro _ _; rfl
  | succ i ih => intro h1 h2; unfold fav; rw [ih (fun k hk => h1 k (by omega)) (fun k hk => h2 k (by omega)), h1 i (by omega), h2 i (by omega)]
theorem sml_cong {lv lv' : Nat → Nat} : ∀ {i : Nat}, (∀ k, k < i → lv k = lv' k) → sml lv i = sml lv' i := by
  intro i
  induction i with
  | zero => intro _; rfl
  | succ i ih => intro h1; unfold sml; rw [ih (fun k hk => h1 k (by omega)), h1 i (by omega)]
theorem sml_le {lv : Nat → Nat} : ∀ {i : Nat}, (∀ k, k < i → lv k ≤ 99) → sml lv i ≤ 99 * i := by
  intro i
  induction i with
  | zero => intro _; exact Nat.le_refl _
  | succ i ih => intro h; unfold sml; have := ih (fun k hk => h k (by omega)); have := h i (by omega); omega
theorem fav_le {lv ta : Nat → Nat} {t : Nat} : ∀ {i : Nat}, (∀ k, k < i → lv k ≤ 99) → fav lv ta t i ≤ 99 * i := by
  intro i
  induction i with
  | zero => intro _; exact Nat.le_refl _
  | succ i ih =>
    intro h; unfold fav
    have := ih (fun k hk => h k (by omega))
    have := h i (by omega)
    split <;> omega
/-- whether a tip is carried, the vetoes aside -/
def carB (m : Nat → Int32) (t : Nat) : Bool := decide (sml (lvM m) (hM m) < 2 * fav (lvM m) (taM m) t (hM m))
theorem vtF_no {t i : Nat} {m mm : Nat → Int32} {b : Bool} (hv : (mm, b) = vtF t m i) (h : vetB (dif (taM mm i) t) (thM mm i) = false) : (mm, b) = vtF t m (i + 1) := by
  unfold vtF
  rw [← hv]
  dsimp only
  rw [h]
  rfl
theorem vtF_yes {t i : Nat} {m mm : Nat → Int32} {b : Bool} (hv : (mm, b) = vtF t m i) (h : vetB (dif (taM mm i) t) (thM mm i) = true) : (upd mm (11 + 3 * i + 1) (nI (thM mm i - 1)), true) = vtF t m (i + 1) := by
  unfold vtF
  rw [← hv]
  dsimp only
  rw [h]
  rfl
/-- the row behind a vote, and what the vote tells -/
def votF (m : Nat → Int32) (q : Nat) : Nat → Int32 := dropF (if (vtF (tnM m q) m (hM m)).2 = false ∧ carB (vtF (tnM m q) m (hM m)).1 (tnM m q) = true then carF (upd (vtF (tnM m q) m (hM m)).1 9 ((vtF (tnM m q) m (hM m)).1 9 + nI 1)) q else upd (vtF (tnM m q) m (hM m)).1 9 ((vtF (tnM m q) m (hM m)).1 9 + nI 1)) q (nM m)
def votC (m : Nat → Int32) (q : Nat) : Nat := if (vtF (tnM m q) m (hM m)).2 = true then 118 else if carB (vtF (tnM m q) m (hM m)).1 (tnM m q) = true then 99 else 114
theorem votF_v {m mm : Nat → Int32} {q : Nat} (hv : (mm, true) = vtF (tnM m q) m (hM m)) : votC m q = 118 ∧ votF m q = dropF (upd mm 9 (mm 9 + nI 1)) q (nM m) := by
  unfold votC votF
  rw [← hv]
  simp
theorem votF_c {m mm : Nat → Int32} {q : Nat} (hv : (mm, false) = vtF (tnM m q) m (hM m)) (hc : carB mm (tnM m q) = true) : votC m q = 99 ∧ votF m q = dropF (carF (upd mm 9 (mm 9 + nI 1)) q) q (nM m) := by
  unfold votC votF
  rw [← hv]
  simp [hc]
theorem votF_r {m mm : Nat → Int32} {q : Nat} (hv : (mm, false) = vtF (tnM m q) m (hM m)) (hc : carB mm (tnM m q) = false) : votC m q = 114 ∧ votF m q = dropF (upd mm 9 (mm 9 + nI 1)) q (nM m) := by
  unfold votC votF
  rw [← hv]
  simp [hc]
theorem carF_o {m : Nat → Int32} {k j : Nat} (h : j ≠ 8) (h2 : j < 4 ∨ 8 ≤ j) (h3 : j ≠ 10) (h4 : j < 29 ∨ ∀ p, j ≠ 29 + 4 * p + 3) (hs : snM m < 4) : carF m k j = m j := by
  unfold carF
  cases prM m k with
  | none => dsimp only; rw [pk_un h, pk_un (by omega), pk_un h3]
  | some p => dsimp only; rw [pk_un (by rcases h4 with h4 | h4; omega; exact h4 p), pk_un h3]
theorem gT_carries : GoodIn gw (wsV RX10 154 RX10 yX10_carries (Cond.code yX10_carries cX10_carries 2 (none) :: gw)) := gdV gw_1831 gw_1833 gw_43 gw_81 gw_1834
theorem hd_carries : yX10_carries.cls = RX10 ∧ yX10_carries.cls ≠ "java/lang/invoke/MethodHandle" ∧ yX10_carries.cls ≠ "java/lang/invoke/VarHandle" ∧ (parseMethodDescriptor yX10_carries.desc).map (fun d => d.parameters.length) = some 1 := ⟨rfl, by decide +kernel, by decide +kernel, by decide +kernel⟩
theorem dX10_carries_0 : decode cX10_carries 0 = .ok (.aload_n 0, 1) := by decide +kernel
theorem dX10_carries_1 : decode cX10_carries 1 = .ok (.getfield 9, 3) := by decide +kernel
theorem dX10_carries_4 : decode cX10_carries 4 = .ok (.bipush 10, 2) := by decide +kernel
theorem dX10_carries_6 : decode cX10_carries 6 = .ok (.dup2, 1) := by decide +kernel
theorem dX10_carries_7 : decode cX10_carries 7 = .ok (.iaload, 1) := by decide +kernel
theorem dX10_carries_8 : decode cX10_carries 8 = .ok (.iconst 1, 1) := by decide +kernel
theorem dX10_carries_9 : decode cX10_carries 9 = .ok (.iadd, 1) := by decide +kernel
theorem dX10_carries_10 : decode cX10_carries 10 = .ok (.iastore, 1) := by decide +kernel
theorem dX10_carries_11 : decode cX10_carries 11 = .ok (.aload_n 0, 1) := by decide +kernel
theorem dX10_carries_12 : decode cX10_carries 12 = .ok (.iload_n 1, 1) := by decide +kernel
theorem dX10_carries_13 : decode cX10_carries 13 = .ok (.invokevirtual 75, 3) := by decide +kernel
theorem dX10_carries_16 : decode cX10_carries 16 = .ok (.iconst (-1), 1) := by decide +kernel
theorem dX10_carries_17 : decode cX10_carries 17 = .ok (.if_icmp .ne 39, 3) := by decide +kernel
theorem dX10_carries_20 : decode cX10_carries 20 = .ok (.aload_n 0, 1) := by decide +kernel
theorem dX10_carries_21 : decode cX10_carries 21 = .ok (.getfield 9, 3) := by decide +kernel
theorem dX10_carries_24 : decode cX10_carries 24 = .ok (.iconst 4, 1) := by decide +kernel
theorem dX10_carries_25 : decode cX10_carries 25 = .ok (.aload_n 0, 1) := by decide +kernel
theorem dX10_carries_26 : decode cX10_carries 26 = .ok (.getfield 9, 3) := by decide +kernel
theorem dX10_carries_29 : decode cX10_carries 29 = .ok (.iconst 3, 1) := by decide +kernel
theorem dX10_carries_30 : decode cX10_carries 30 = .ok (.iaload, 1) := by decide +kernel
theorem dX10_carries_31 : decode cX10_carries 31 = .ok (.iadd, 1) := by decide +kernel
theorem dX10_carries_32 : decode cX10_carries 32 = .ok (.dup2, 1) := by decide +kernel
theorem dX10_carries_33 : decode cX10_carries 33 = .ok (.iaload, 1) := by decide +kernel
theorem dX10_carries_34 : decode cX10_carries 34 = .ok (.iconst 1, 1) := by decide +kernel
theorem dX10_carries_35 : decode cX10_carries 35 = .ok (.iadd, 1) := by decide +kernel
theorem dX10_carries_36 : decode cX10_carries 36 = .ok (.iastore, 1) := by decide +kernel
theorem dX10_carries_37 : decode cX10_carries 37 = .ok (.aload_n 0, 1) := by decide +kernel
theorem dX10_carries_38 : decode cX10_carries 38 = .ok (.getfield 9, 3) := by decide +kernel
theorem dX10_carries_41 : decode cX10_carries 41 = .ok (.bipush 8, 2) := by decide +kernel
theorem dX10_carries_43 : decode cX10_carries 43 = .ok (.dup2, 1) := by decide +kernel
theorem dX10_carries_44 : decode cX10_carries 44 = .ok (.iaload, 1) := by decide +kernel
theorem dX10_carries_45 : decode cX10_carries 45 = .ok (.aload_n 0, 1) := by decide +kernel
theorem dX10_carries_46 : decode cX10_carries 46 = .ok (.iload_n 1, 1) := by decide +kernel
theorem dX10_carries_47 : decode cX10_carries 47 = .ok (.iconst 3, 1) := by decide +kernel
theorem dX10_carries_48 : decode cX10_carries 48 = .ok (.invokevirtual 67, 3) := by decide +kernel
theorem dX10_carries_51 : decode cX10_carries 51 = .ok (.iadd, 1) := by decide +kernel
theorem dX10_carries_52 : decode cX10_carries 52 = .ok (.iastore, 1) := by decide +kernel
theorem dX10_carries_53 : decode cX10_carries 53 = .ok (.goto 29, 3) := by decide +kernel
theorem dX10_carries_56 : decode cX10_carries 56 = .ok (.aload_n 0, 1) := by decide +kernel
theorem dX10_carries_57 : decode cX10_carries 57 = .ok (.getfield 9, 3) := by decide +kernel
theorem dX10_carries_60 : decode cX10_carries 60 = .ok (.bipush 29, 2) := by decide +kernel
theorem dX10_carries_62 : decode cX10_carries 62 = .ok (.iconst 4, 1) := by decide +kernel
theorem dX10_carries_63 : decode cX10_carries 63 = .ok (.aload_n 0, 1) := by decide +kernel
theorem dX10_carries_64 : decode cX10_carries 64 = .ok (.iload_n 1, 1) := by decide +kernel
theorem dX10_carries_65 : decode cX10_carries 65 = .ok (.invokevirtual 75, 3) := by decide +kernel
theorem dX10_carries_68 : decode cX10_carries 68 = .ok (.imul, 1) := by decide +kernel
theorem dX10_carries_69 : decode cX10_carries 69 = .ok (.iadd, 1) := by decide +kernel
theorem dX10_carries_70 : decode cX10_carries 70 = .ok (.iconst 3, 1) := by decide +kernel
theorem dX10_carries_71 : decode cX10_carries 71 = .ok (.iadd, 1) := by decide +kernel
theorem dX10_carries_72 : decode cX10_carries 72 = .ok (.dup2, 1) := by decide +kernel
theorem dX10_carries_73 : decode cX10_carries 73 = .ok (.iaload, 1) := by decide +kernel
theorem dX10_carries_74 : decode cX10_carries 74 = .ok (.aload_n 0, 1) := by decide +kernel
theorem dX10_carries_75 : decode cX10_carries 75 = .ok (.iload_n 1, 1) := by decide +kernel
theorem dX10_carries_76 : decode cX10_carries 76 = .ok (.iconst 3, 1) := by decide +kernel
theorem dX10_carries_77 : decode cX10_carries 77 = .ok (.invokevirtual 67, 3) := by decide +kernel
theorem dX10_carries_80 : decode cX10_carries 80 = .ok (.iadd, 1) := by decide +kernel
theorem dX10_carries_81 : decode cX10_carries 81 = .ok (.iastore, 1) := by decide +kernel
theorem dX10_carries_82 : decode cX10_carries 82 = .ok (.return_, 1) := by decide +kernel
set_option maxHeartbeats 1000000 in
set_option maxRecDepth 20000 in
theorem m_carries (l : Launch) (D : va_G) (aT : Nat → ClassId) (ad : Nat → Nat) (S : MSt) (k s0 : Nat) (hF : FoW (S 0)) (hk : k < nM (S 0)) (hs : S 0 3 = nI s0) (hs4 : s0 < 4) : MdV l yX10_carries cX10_carries 2 3 65 D aT ad [.ref (ad 0), .int (nI k)] S (fun S1 => S1 = sr S 0 (carF (S 0) k)) := by
  have hFc : ∀ x, FoR (upd (S 0) 10 x) (nM (S 0)) (idM (S 0)) (prM (S 0)) (tnM (S 0)) := fun x => FoR.he hF (fun j hj => pk_un (by omega))
  have hsn : snM (S 0) = s0 := snM_eq hs hs4
  have h12 := hF.n12
  refine MdV.of (by decide +kernel) rfl (Nat.le_of_ble_eq_true rfl) ?_
  intro p e s m below meth c A ls C hml hl hA hr hlocks hW
  have hl : lv_has ls 2 [(0, .ref (ad 0)), (1, .int (nI k))] := hl
  have hx := C.1
  have hb := C.2.1
  refine lv_aload_n hx hb dX10_carries_0 rfl (lv_at hl 0 rfl) ?_
  refine md_geta_m C hW dX10_carries_1 ?_
  refine lv_bipush (v := nI 10) hx hb dX10_carries_4 (by decide) ?_
  refine lv_dup2_11 hx hb dX10_carries_6 rfl rfl ?_
  refine md_ald_m C hW (i := 10) (by omega) dX10_carries_7 ?_
  refine r_eq (y := (S 0 10)) (rfl) ?_
  refine lv_iconst (v := nI 1) hx hb dX10_carries_8 (by decide) ?_
  refine lv_iadd hx hb dX10_carries_9 ?_
  refine md_ast_m C hW (i := 10) (by omega) dX10_carries_10 (fun H locs hW => ?_)
  refine lv_aload_n hx hb dX10_carries_11 rfl (lv_at hl 0 rfl) ?_
  refine lv_iload_n hx hb dX10_carries_12 rfl (lv_at hl 1 rfl) ?_
  refine md_callg C hml hl.1 (As := [.int (nI k)]) (rest := []) (m_above l D aT ad (sr S 0 (upd (S 0) 10 (((S 0 10) + (nI 1))))) (nM (S 0)) (idM (S 0)) (prM (S 0)) (tnM (S 0)) (hFc _) k (hk)) gT_above hd_above rfl ⟨Nat.le_of_ble_eq_true rfl, Nat.le_of_ble_eq_true rfl⟩ ⟨Nat.le_refl _, Nat.le_refl _⟩ hW hA rfl (Nat.le_of_ble_eq_true rfl) dX10_carries_13 (fun r_13 H locs hq hW => ?_)
  subst hq
  refine lv_iconst (v := (-1)) hx hb dX10_carries_16 (by decide) ?_
  refine r_oi_ne hx hb (o := ((prM (S 0)) k)) (hF.plim hk) (tgt := 56) dX10_carries_17 (by decide) (fun j_17 c_17 => ?_) (fun c_17 => ?_)
  · have hj17 := hF.par hk c_17
    have h12 := hF.n12
    refine lv_aload_n hx hb dX10_carries_56 rfl (lv_at hl 0 rfl) ?_
    refine md_geta_m C hW dX10_carries_57 ?_
    refine lv_bipush (v := nI 29) hx hb dX10_carries_60 (by decide) ?_
    refine lv_iconst (v := nI 4) hx hb dX10_carries_62 (by decide) ?_
    refine lv_aload_n hx hb dX10_carries_63 rfl (lv_at hl 0 rfl) ?_
    refine lv_iload_n hx hb dX10_carries_64 rfl (lv_at hl 1 rfl) ?_
    refine md_callg C hml hl.1 (As := [.int (nI k)]) (rest := [.int (nI 4), .int (nI 29), .ref (ad 1)]) (m_above l D aT ad (sr S 0 (upd (S 0) 10 (((S 0 10) + (nI 1))))) (nM (S 0)) (idM (S 0)) (prM (S 0)) (tnM (S 0)) (hFc _) k (hk)) gT_above hd_above rfl ⟨Nat.le_of_ble_eq_true rfl, Nat.le_of_ble_eq_true rfl⟩ ⟨Nat.le_refl _, Nat.le_refl _⟩ hW hA rfl (Nat.le_of_ble_eq_true rfl) dX10_carries_65 (fun r_65 H locs hq hW => ?_)
    subst hq
    refine r_eq (y := (nI j_17)) (by rw [c_17]; rfl) ?_
    refine r_imulN hx hb (a := 4) (b := j_17) dX10_carries_68 ?_
    refine r_iaddN hx hb (a := 29) (b := 4 * j_17) dX10_carries_69 ?_
    refine lv_iconst (v := nI 3) hx hb dX10_carries_70 (by decide) ?_
    refine r_iaddN hx hb (a := 29 + 4 * j_17) (b := 3) dX10_carries_71 ?_
    refine lv_dup2_11 hx hb dX10_carries_72 rfl rfl ?_
    refine md_ald_m C hW (i := 29 + 4 * j_17 + 3) (by omega) dX10_carries_73 ?_
    refine r_eq (y := (S 0 (29 + 4 * j_17 + 3))) (by simp only [sr, upd, ↓reduceIte]; (repeat rw [if_neg (by omega)]); first | done | rfl) ?_
    refine lv_aload_n hx hb dX10_carries_74 rfl (lv_at hl 0 rfl) ?_
    refine lv_iload_n hx hb dX10_carries_75 rfl (lv_at hl 1 rfl) ?_
    refine lv_iconst (v := nI 3) hx hb dX10_carries_76 (by decide) ?_
    refine md_callg C hml hl.1 (As := [.int (nI k), .int (nI 3)]) (rest := [.int (S 0 (29 + 4 * j_17 + 3)), .int (nI (29 + 4 * j_17 + 3)), .ref (ad 1)]) (m_of l D aT ad (sr S 0 (upd (S 0) 10 (((S 0 10) + (nI 1))))) k 3 (by have := hF.n12; omega)) gT_of hd_of rfl ⟨Nat.le_of_ble_eq_true rfl, Nat.le_of_ble_eq_true rfl⟩ ⟨Nat.le_refl _, Nat.le_refl _⟩ hW hA rfl (Nat.le_of_ble_eq_true rfl) dX10_carries_77 (fun r_77 H locs hq hW => ?_)
    subst hq
    refine r_eq (y := (S 0 (29 + 4 * k + 3))) (by simp only [sr, upd, ↓reduceIte]; (repeat rw [if_neg (by omega)]); first | done | rfl) ?_
    refine lv_iadd hx hb dX10_carries_80 ?_
    refine md_ast_m C hW (i := 29 + 4 * j_17 + 3) (by omega) dX10_carries_81 (fun H locs hW => ?_)
    exact md_vret C hr hlocks hW (by unfold carF; rw [c_17]; (try rw [hsn]); simp only [sr_sr, sr_s]) dX10_carries_82
  · refine lv_aload_n hx hb dX10_carries_20 rfl (lv_at hl 0 rfl) ?_
    refine md_geta_m C hW dX10_carries_21 ?_
    refine lv_iconst (v := nI 4) hx hb dX10_carries_24 (by decide) ?_
    refine lv_aload_n hx hb dX10_carries_25 rfl (lv_at hl 0 rfl) ?_
    refine md_geta_m C hW dX10_carries_26 ?_
    refine lv_iconst (v := nI 3) hx hb dX10_carries_29 (by decide) ?_
    refine md_ald_m C hW (i := 3) (by omega) dX10_carries_30 ?_
    refine r_eq (y := (nI s0)) (by simp only [sr, upd, ↓reduceIte]; (repeat rw [if_neg (by omega)]); exact hs) ?_
    refine r_iaddN hx hb (a := 4) (b := s0) dX10_carries_31 ?_
    refine lv_dup2_11 hx hb dX10_carries_32 rfl rfl ?_
    refine md_ald_m C hW (i := 4 + s0) (by omega) dX10_carries_33 ?_
    refine r_eq (y := (S 0 (4 + s0))) (by simp only [sr, upd, ↓reduceIte]; (repeat rw [if_neg (by omega)]); first | done | rfl) ?_
    refine lv_iconst (v := nI 1) hx hb dX10_carries_34 (by decide) ?_
    refine lv_iadd hx hb dX10_carries_35 ?_
    refine md_ast_m C hW (i := 4 + s0) (by omega) dX10_carries_36 (fun H locs hW => ?_)
    refine lv_aload_n hx hb dX10_carries_37 rfl (lv_at hl 0 rfl) ?_
    refine md_geta_m C hW dX10_carries_38 ?_
    refine lv_bipush (v := nI 8) hx hb dX10_carries_41 (by decide) ?_
    refine lv_dup2_11 hx hb dX10_carries_43 rfl rfl ?_
    refine md_ald_m C hW (i := 8) (by omega) dX10_carries_44 ?_
    refine r_eq (y := (S 0 8)) (by simp only [sr, upd, ↓reduceIte]; (repeat rw [if_neg (by omega)]); first | done | rfl) ?_
    refine lv_aload_n hx hb dX10_carries_45 rfl (lv_at hl 0 rfl) ?_
    refine lv_iload_n hx hb dX10_carries_46 rfl (lv_at hl 1 rfl) ?_
    refine lv_iconst (v := nI 3) hx hb dX10_carries_47 (by decide) ?_
    refine md_callg C hml hl.1 (As := [.int (nI k), .int (nI 3)]) (rest := [.int (S 0 8), .int (nI 8), .ref (ad 1)]) (m_of l D aT ad (sr (sr S 0 (upd (S 0) 10 (((S 0 10) + (nI 1))))) 0 (upd ((sr S 0 (upd (S 0) 10 (((S 0 10) + (nI 1))))) 0) (4 + s0) (((S 0 (4 + s0)) + (nI 1))))) k 3 (by have := hF.n12; omega)) gT_of hd_of rfl ⟨Nat.le_of_ble_eq_true rfl, Nat.le_of_ble_eq_true rfl⟩ ⟨Nat.le_refl _, Nat.le_refl _⟩ hW hA rfl (Nat.le_of_ble_eq_true rfl) dX10_carries_48 (fun r_48 H locs hq hW => ?_)
    subst hq
    refine r_eq (y := (S 0 (29 + 4 * k + 3))) (by simp only [sr, upd, ↓reduceIte]; (repeat rw [if_neg (by omega)]); first | done | rfl) ?_
    refine lv_iadd hx hb dX10_carries_51 ?_
    refine md_ast_m C hW (i := 8) (by omega) dX10_carries_52 (fun H locs hW => ?_)
    refine lv_goto (tgt := 82) hx hb dX10_carries_53 (by decide) ?_
    exact md_vret C hr hlocks hW (by unfold carF; rw [c_17]; (try rw [hsn]); simp only [sr_sr, sr_s]) dX10_carries_82
end
