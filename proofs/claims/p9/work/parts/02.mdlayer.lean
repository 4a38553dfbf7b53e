/-- the array classes: int, char, long, double, byte, State, Object -/
def tyG (aT : Nat → ClassId) : List (ClassId × FieldType) := [(aT 0, .int), (aT 1, .char), (aT 2, .long), (aT 3, .double), (aT 4, .byte), (aT 5, .object "HedgeCommittee$State"), (aT 6, .object "java/lang/Object")]
/-- the state of the reference: rows 0 to 12 its arrays, row 13 its numbers by their fields -/
abbrev MSt : Type := Nat → Nat → Int32
def sr (S : MSt) (i : Nat) (f : Nat → Int32) : MSt := fun r => if r = i then f else S r
def ss (S : MSt) (k : Nat) (x : Int32) : MSt := sr S 13 (upd (S 13) k x)
theorem sr_s (S : MSt) (i : Nat) (f : Nat → Int32) : sr S i f i = f := by simp [sr]
theorem sr_n (S : MSt) {i j : Nat} (f : Nat → Int32) (h : j ≠ i) : sr S i f j = S j := by simp [sr, h]
/-- the reference's cells -/
def mdW (aT : Nat → ClassId) (ad : Nat → Nat) (S : MSt) : va_W := [(ad 0, .inr (13, [.ref (ad 1), .ref (ad 2), .ref (ad 3), .int (S 13 3), .ref (ad 4), .int (S 13 5), .int (S 13 6), .int (S 13 7), .int (S 13 8), .ref (ad 5), .int (S 13 10), .ref (ad 6), .ref (ad 7), .ref (ad 8), .ref (ad 9), .int (S 13 15), .int (S 13 16), .ref (ad 10), .ref (ad 11), .ref (ad 12), .int (S 13 20), .int (S 13 21), .int (S 13 22), .int (S 13 23), .ref (ad 13), .int (S 13 25)])),
  (ad 1, .inl (aT 0, (77, .inl (S 0)))),
  (ad 2, .inl (aT 0, (77, .inl (S 1)))),
  (ad 3, .inl (aT 0, (77, .inl (S 2)))),
  (ad 4, .inl (aT 0, (616, .inl (S 3)))),
  (ad 5, .inl (aT 0, (60, .inl (S 4)))),
  (ad 6, .inl (aT 0, (12, .inl (S 5)))),
  (ad 7, .inl (aT 0, (12, .inl (S 6)))),
  (ad 8, .inl (aT 0, (12, .inl (S 7)))),
  (ad 9, .inl (aT 0, (12, .inl (S 8)))),
  (ad 10, .inl (aT 1, (41, .inl (S 9)))),
  (ad 11, .inl (aT 0, (8, .inl (S 10)))),
  (ad 12, .inl (aT 0, (244, .inl (S 11)))),
  (ad 13, .inl (aT 0, (400, .inl (S 12))))]
def MdB (D : va_G) (aT : Nat → ClassId) (ad : Nat → Nat) (S : MSt) (A : Nat → Prop) (H0 H : Heap) (locs : List Loc) : Prop := va_P D vwCl (mdW aT ad S) H ∧ va_D A (mdW aT ad S) ∧ va_S A H0 H locs
def MdX (p : Program) (c : Code) (cc : ByteArray) (s : State) (args : Array Value) (m : MethodId) (D : va_G) (aT : Nat → ClassId) : Prop := p.tables.exec = Jvm.exec ∧ c.code = cc ∧ (∀ w ∈ gw, w.before args s = true) ∧ s.vm.findClass RX10 = some m.cls ∧ va_K D vwCl (tyG aT) s
def mdB1 (D : va_G) (aT : Nat → ClassId) (ad : Nat → Nat) (S : MSt) (sz : Nat) (U : State) : Prop := U.heap.size = sz ∧ va_P D vwCl (mdW aT ad S) U.heap ∧ va_K D vwCl (tyG aT) U ∧ va_D (fun _ => True) (mdW aT ad S)
def mdB2 (D : va_G) (aT : Nat → ClassId) (ad : Nat → Nat) (S0 : MSt) (sz : Nat) (S : MSt) (U : State) : Prop := va_P D vwCl (mdW aT ad S) U.heap ∧ va_K D vwCl (tyG aT) U ∧ va_D (va_A (mdW aT ad S0) sz) (mdW aT ad S)
abbrev mdR (fr lo : Nat) : Room := { frames := fr, cells := 0, slots := 0, locals := lo }
/-- a method of the reference that answers an int -/
def MdI (l : Launch) (y : MethodName) (b : ByteArray) (L : Nat) (ret : FieldType) (fr lo : Nat) (D : va_G) (aT : Nat → ClassId) (ad : Nat → Nat) (As : List Value) (S : MSt) (post : Int32 → MSt → Prop) : Prop :=
  ∀ sz, Met l y (Cond.code y b L (some ret) :: gw) (mdR fr lo) (va_Pc As (mdB1 D aT ad S sz)) (va_Qi post (mdB2 D aT ad S sz) (va_A (mdW aT ad S) sz)) 0 0 (va_A (mdW aT ad S) sz)
/-- .. that answers nothing -/
def MdV (l : Launch) (y : MethodName) (b : ByteArray) (L : Nat) (fr lo : Nat) (D : va_G) (aT : Nat → ClassId) (ad : Nat → Nat) (As : List Value) (S : MSt) (post : MSt → Prop) : Prop :=
  ∀ sz, Met l y (Cond.code y b L none :: gw) (mdR fr lo) (va_Pc As (mdB1 D aT ad S sz)) (va_Qv post (mdB2 D aT ad S sz) (va_A (mdW aT ad S) sz)) 0 0 (va_A (mdW aT ad S) sz)
theorem mdW_D {aT : Nat → ClassId} {ad : Nat → Nat} {S S' : MSt} {A : Nat → Prop} (h : va_D A (mdW aT ad S)) : va_D A (mdW aT ad S') := by
  have e : ∀ (k : Nat) (q : Nat × va_E), (mdW aT ad S')[k]? = some q → ∃ e2, (mdW aT ad S)[k]? = some (q.1, e2) := by
    intro k q hq
    have h1 : (mdW aT ad S').map Prod.fst = (mdW aT ad S).map Prod.fst := rfl
    have h2 : ((mdW aT ad S').map Prod.fst)[k]? = some q.1 := by rw [List.getElem?_map, hq]; rfl
    rw [h1, List.getElem?_map] at h2
    cases h3 : (mdW aT ad S)[k]? with
    | none => rw [h3] at h2; cases h2
    | some z =>
      rw [h3] at h2
      obtain ⟨z1, z2⟩ := z
      have : z1 = q.1 := Option.some.inj h2
      exact ⟨z2, by rw [this]⟩
  refine ⟨fun i j p q hp hq hpq => ?_, fun k q hq => ?_⟩
  · obtain ⟨e1, h1⟩ := e i p hp
    obtain ⟨e2, h2⟩ := e j q hq
    exact h.1 i j _ _ h1 h2 hpq
  · obtain ⟨e1, h1⟩ := e k q hq
    exact h.2 k (q.1, e1) h1
theorem inX10 : ∀ w ∈ u_ws RX10 TX10 26, w ∈ gw := List.forall_mem_cons.mpr ⟨gw_1649, List.forall_mem_cons.mpr ⟨gw_1651, List.forall_mem_cons.mpr ⟨gw_1653, List.forall_mem_cons.mpr ⟨gw_1655, List.forall_mem_cons.mpr ⟨gw_1657, List.forall_mem_cons.mpr ⟨gw_1659, List.forall_mem_cons.mpr ⟨gw_1661, List.forall_mem_cons.mpr ⟨gw_1663, List.forall_mem_cons.mpr ⟨gw_1665, List.forall_mem_cons.mpr ⟨gw_1667, List.forall_mem_cons.mpr ⟨gw_1669, List.forall_mem_cons.mpr ⟨gw_1671, List.forall_mem_cons.mpr ⟨gw_1673, List.forall_mem_cons.mpr ⟨gw_1675, List.forall_mem_cons.mpr ⟨gw_1677, List.forall_mem_cons.mpr ⟨gw_1679, List.forall_mem_cons.mpr ⟨gw_1681, List.forall_mem_cons.mpr ⟨gw_1683, List.forall_mem_cons.mpr ⟨gw_1685, List.forall_mem_cons.mpr ⟨gw_1687, List.forall_mem_cons.mpr ⟨gw_1689, List.forall_mem_cons.mpr ⟨gw_1691, List.forall_mem_cons.mpr ⟨gw_1693, List.forall_mem_cons.mpr ⟨gw_1695, List.forall_mem_cons.mpr ⟨gw_1697, List.forall_mem_cons.mpr ⟨gw_1699, fun _ h => absurd h List.not_mem_nil⟩⟩⟩⟩⟩⟩⟩⟩⟩⟩⟩⟩⟩⟩⟩⟩⟩⟩⟩⟩⟩⟩⟩⟩⟩⟩
section MDR
variable {p : Program} {l : Launch} {e : Env} {R : Room} {s : State} {m : MethodId} {args : Array Value} {below : List Frame} {meth : Method} {c : Code} {H : Heap} {locs : List Loc} {cells slots : Nat} {Q : State → Prop} {cc : ByteArray} {pc : Nat} {ls : Array Slot} {rest : List Value} {D : va_G} {aT : Nat → ClassId} {ad : Nat → Nat} {S : MSt} {A : Nat → Prop} {H0 : Heap}
theorem md_geta_m (C : MdX p c cc s args m D aT) (hW : MdB D aT ad S A H0 H locs) (hdg : decode cc pc = .ok (.getfield 9, 3)) (k : W p l e R s m args below meth c H locs cells slots Q (F0 m (pc + 3) ls (.ref (ad 1) :: rest))) : W p l e R s m args below meth c H locs cells slots Q (F0 m pc ls (.ref (ad 0) :: rest)) := by
  obtain ⟨hx, hb, hg, hown, hK⟩ := C
  exact va_get (D := D) (ci := 13) (v := .ref (ad 1)) (C := RX10) (T := TX10) (N := 26) hx hb hg inX10 hown hK hW.1 0 rfl rfl 0 (by decide) (hg _ gw_1623) (fun _ h9 => h9) rfl hdg k
theorem md_ald_m (C : MdX p c cc s args m D aT) (hW : MdB D aT ad S A H0 H locs) {i : Nat} (hi : i < 77) (hdg : decode cc pc = .ok (.iaload, 1)) (k : W p l e R s m args below meth c H locs cells slots Q (F0 m (pc + 1) ls (.int (S 0 i) :: rest))) : W p l e R s m args below meth c H locs cells slots Q (F0 m pc ls (.int (nI i) :: .ref (ad 1) :: rest)) := by
  obtain ⟨hx, hb, hg, hown, hK⟩ := C
  refine va_iald (D := D) hx hb hK hW.1 1 0 rfl rfl (vp_in_nI hi (by decide)) hdg ?_
  rw [nI_clamp (by omega)]
  exact k
theorem md_ast_m (C : MdX p c cc s args m D aT) (hW : MdB D aT ad S A H0 H locs) {i : Nat} {x : Int32} (hi : i < 77) (hdg : decode cc pc = .ok (.iastore, 1)) (k : ∀ (H1 : Heap) (locs1 : List Loc), MdB D aT ad (sr S 0 (upd (S 0) i x)) A H0 H1 locs1 → W p l e R s m args below meth c H1 locs1 cells slots Q (F0 m (pc + 1) ls rest)) : W p l e R s m args below meth c H locs cells slots Q (F0 m pc ls (.int x :: .int (nI i) :: .ref (ad 1) :: rest)) := by
  obtain ⟨hx, hb, hg, hown, hK⟩ := C
  refine va_iast (D := D) hx hb hK hW.1 hW.2.1 hW.2.2 1 0 rfl rfl (vp_in_nI hi (by decide)) hdg (fun H1 locs1 h1 h2 h3 => ?_)
  rw [nI_clamp (by omega)] at h1
  exact k H1 locs1 ⟨h1, mdW_D hW.2.1, h3⟩
theorem md_geta_aside (C : MdX p c cc s args m D aT) (hW : MdB D aT ad S A H0 H locs) (hdg : decode cc pc = .ok (.getfield 13, 3)) (k : W p l e R s m args below meth c H locs cells slots Q (F0 m (pc + 3) ls (.ref (ad 2) :: rest))) : W p l e R s m args below meth c H locs cells slots Q (F0 m pc ls (.ref (ad 0) :: rest)) := by
  obtain ⟨hx, hb, hg, hown, hK⟩ := C
  exact va_get (D := D) (ci := 13) (v := .ref (ad 2)) (C := RX10) (T := TX10) (N := 26) hx hb hg inX10 hown hK hW.1 0 rfl rfl 1 (by decide) (hg _ gw_1624) (fun _ h9 => h9) rfl hdg k
theorem md_ald_aside (C : MdX p c cc s args m D aT) (hW : MdB D aT ad S A H0 H locs) {i : Nat} (hi : i < 77) (hdg : decode cc pc = .ok (.iaload, 1)) (k : W p l e R s m args below meth c H locs cells slots Q (F0 m (pc + 1) ls (.int (S 1 i) :: rest))) : W p l e R s m args below meth c H locs cells slots Q (F0 m pc ls (.int (nI i) :: .ref (ad 2) :: rest)) := by
  obtain ⟨hx, hb, hg, hown, hK⟩ := C
  refine va_iald (D := D) hx hb hK hW.1 2 0 rfl rfl (vp_in_nI hi (by decide)) hdg ?_
  rw [nI_clamp (by omega)]
  exact k
theorem md_ast_aside (C : MdX p c cc s args m D aT) (hW : MdB D aT ad S A H0 H locs) {i : Nat} {x : Int32} (hi : i < 77) (hdg : decode cc pc = .ok (.iastore, 1)) (k : ∀ (H1 : Heap) (locs1 : List Loc), MdB D aT ad (sr S 1 (upd (S 1) i x)) A H0 H1 locs1 → W p l e R s m args below meth c H1 locs1 cells slots Q (F0 m (pc + 1) ls rest)) : W p l e R s m args below meth c H locs cells slots Q (F0 m pc ls (.int x :: .int (nI i) :: .ref (ad 2) :: rest)) := by
  obtain ⟨hx, hb, hg, hown, hK⟩ := C
  refine va_iast (D := D) hx hb hK hW.1 hW.2.1 hW.2.2 2 0 rfl rfl (vp_in_nI hi (by decide)) hdg (fun H1 locs1 h1 h2 h3 => ?_)
  rw [nI_clamp (by omega)] at h1
  exact k H1 locs1 ⟨h1, mdW_D hW.2.1, h3⟩
theorem md_geta_saved (C : MdX p c cc s args m D aT) (hW : MdB D aT ad S A H0 H locs) (hdg : decode cc pc = .ok (.getfield 16, 3)) (k : W p l e R s m args below meth c H locs cells slots Q (F0 m (pc + 3) ls (.ref (ad 3) :: rest))) : W p l e R s m args below meth c H locs cells slots Q (F0 m pc ls (.ref (ad 0) :: rest)) := by
  obtain ⟨hx, hb, hg, hown, hK⟩ := C
  exact va_get (D := D) (ci := 13) (v := .ref (ad 3)) (C := RX10) (T := TX10) (N := 26) hx hb hg inX10 hown hK hW.1 0 rfl rfl 2 (by decide) (hg _ gw_1625) (fun _ h9 => h9) rfl hdg k
theorem md_ald_saved (C : MdX p c cc s args m D aT) (hW : MdB D aT ad S A H0 H locs) {i : Nat} (hi : i < 77) (hdg : decode cc pc = .ok (.iaload, 1)) (k : W p l e R s m args below meth c H locs cells slots Q (F0 m (pc + 1) ls (.int (S 2 i) :: rest))) : W p l e R s m args below meth c H locs cells slots Q (F0 m pc ls (.int (nI i) :: .ref (ad 3) :: rest)) := by
  obtain ⟨hx, hb, hg, hown, hK⟩ := C
  refine va_iald (D := D) hx hb hK hW.1 3 0 rfl rfl (vp_in_nI hi (by decide)) hdg ?_
  rw [nI_clamp (by omega)]
  exact k
theorem md_ast_saved (C : MdX p c cc s args m D aT) (hW : MdB D aT ad S A H0 H locs) {i : Nat} {x : Int32} (hi : i < 77) (hdg : decode cc pc = .ok (.iastore, 1)) (k : ∀ (H1 : Heap) (locs1 : List Loc), MdB D aT ad (sr S 2 (upd (S 2) i x)) A H0 H1 locs1 → W p l e R s m args below meth c H1 locs1 cells slots Q (F0 m (pc + 1) ls rest)) : W p l e R s m args below meth c H locs cells slots Q (F0 m pc ls (.int x :: .int (nI i) :: .ref (ad 3) :: rest)) := by
  obtain ⟨hx, hb, hg, hown, hK⟩ := C
  refine va_iast (D := D) hx hb hK hW.1 hW.2.1 hW.2.2 3 0 rfl rfl (vp_in_nI hi (by decide)) hdg (fun H1 locs1 h1 h2 h3 => ?_)
  rw [nI_clamp (by omega)] at h1
  exact k H1 locs1 ⟨h1, mdW_D hW.2.1, h3⟩
theorem md_geta_past (C : MdX p c cc s args m D aT) (hW : MdB D aT ad S A H0 H locs) (hdg : decode cc pc = .ok (.getfield 19, 3)) (k : W p l e R s m args below meth c H locs cells slots Q (F0 m (pc + 3) ls (.ref (ad 4) :: rest))) : W p l e R s m args below meth c H locs cells slots Q (F0 m pc ls (.ref (ad 0) :: rest)) := by
  obtain ⟨hx, hb, hg, hown, hK⟩ := C
  exact va_get (D := D) (ci := 13) (v := .ref (ad 4)) (C := RX10) (T := TX10) (N := 26) hx hb hg inX10 hown hK hW.1 0 rfl rfl 4 (by decide) (hg _ gw_1627) (fun _ h9 => h9) rfl hdg k
theorem md_ald_past (C : MdX p c cc s args m D aT) (hW : MdB D aT ad S A H0 H locs) {i : Nat} (hi : i < 616) (hdg : decode cc pc = .ok (.iaload, 1)) (k : W p l e R s m args below meth c H locs cells slots Q (F0 m (pc + 1) ls (.int (S 3 i) :: rest))) : W p l e R s m args below meth c H locs cells slots Q (F0 m pc ls (.int (nI i) :: .ref (ad 4) :: rest)) := by
  obtain ⟨hx, hb, hg, hown, hK⟩ := C
  refine va_iald (D := D) hx hb hK hW.1 4 0 rfl rfl (vp_in_nI hi (by decide)) hdg ?_
  rw [nI_clamp (by omega)]
  exact k
theorem md_ast_past (C : MdX p c cc s args m D aT) (hW : MdB D aT ad S A H0 H locs) {i : Nat} {x : Int32} (hi : i < 616) (hdg : decode cc pc = .ok (.iastore, 1)) (k : ∀ (H1 : Heap) (locs1 : List Loc), MdB D aT ad (sr S 3 (upd (S 3) i x)) A H0 H1 locs1 → W p l e R s m args below meth c H1 locs1 cells slots Q (F0 m (pc + 1) ls rest)) : W p l e R s m args below meth c H locs cells slots Q (F0 m pc ls (.int x :: .int (nI i) :: .ref (ad 4) :: rest)) := by
  obtain ⟨hx, hb, hg, hown, hK⟩ := C
  refine va_iast (D := D) hx hb hK hW.1 hW.2.1 hW.2.2 4 0 rfl rfl (vp_in_nI hi (by decide)) hdg (fun H1 locs1 h1 h2 h3 => ?_)
  rw [nI_clamp (by omega)] at h1
  exact k H1 locs1 ⟨h1, mdW_D hW.2.1, h3⟩
theorem md_geta_input (C : MdX p c cc s args m D aT) (hW : MdB D aT ad S A H0 H locs) (hdg : decode cc pc = .ok (.getfield 29, 3)) (k : W p l e R s m args below meth c H locs cells slots Q (F0 m (pc + 3) ls (.ref (ad 5) :: rest))) : W p l e R s m args below meth c H locs cells slots Q (F0 m pc ls (.ref (ad 0) :: rest)) := by
  obtain ⟨hx, hb, hg, hown, hK⟩ := C
  exact va_get (D := D) (ci := 13) (v := .ref (ad 5)) (C := RX10) (T := TX10) (N := 26) hx hb hg inX10 hown hK hW.1 0 rfl rfl 9 (by decide) (hg _ gw_1632) (fun _ h9 => h9) rfl hdg k
theorem md_ald_input (C : MdX p c cc s args m D aT) (hW : MdB D aT ad S A H0 H locs) {i : Nat} (hi : i < 60) (hdg : decode cc pc = .ok (.iaload, 1)) (k : W p l e R s m args below meth c H locs cells slots Q (F0 m (pc + 1) ls (.int (S 4 i) :: rest))) : W p l e R s m args below meth c H locs cells slots Q (F0 m pc ls (.int (nI i) :: .ref (ad 5) :: rest)) := by
  obtain ⟨hx, hb, hg, hown, hK⟩ := C
  refine va_iald (D := D) hx hb hK hW.1 5 0 rfl rfl (vp_in_nI hi (by decide)) hdg ?_
  rw [nI_clamp (by omega)]
  exact k
theorem md_ast_input (C : MdX p c cc s args m D aT) (hW : MdB D aT ad S A H0 H locs) {i : Nat} {x : Int32} (hi : i < 60) (hdg : decode cc pc = .ok (.iastore, 1)) (k : ∀ (H1 : Heap) (locs1 : List Loc), MdB D aT ad (sr S 4 (upd (S 4) i x)) A H0 H1 locs1 → W p l e R s m args below meth c H1 locs1 cells slots Q (F0 m (pc + 1) ls rest)) : W p l e R s m args below meth c H locs cells slots Q (F0 m pc ls (.int x :: .int (nI i) :: .ref (ad 5) :: rest)) := by
  obtain ⟨hx, hb, hg, hown, hK⟩ := C
  refine va_iast (D := D) hx hb hK hW.1 hW.2.1 hW.2.2 5 0 rfl rfl (vp_in_nI hi (by decide)) hdg (fun H1 locs1 h1 h2 h3 => ?_)
  rw [nI_clamp (by omega)] at h1
  exact k H1 locs1 ⟨h1, mdW_D hW.2.1, h3⟩
theorem md_geta_with (C : MdX p c cc s args m D aT) (hW : MdB D aT ad S A H0 H locs) (hdg : decode cc pc = .ok (.getfield 32, 3)) (k : W p l e R s m args below meth c H locs cells slots Q (F0 m (pc + 3) ls (.ref (ad 6) :: rest))) : W p l e R s m args below meth c H locs cells slots Q (F0 m pc ls (.ref (ad 0) :: rest)) := by
  obtain ⟨hx, hb, hg, hown, hK⟩ := C
  exact va_get (D := D) (ci := 13) (v := .ref (ad 6)) (C := RX10) (T := TX10) (N := 26) hx hb hg inX10 hown hK hW.1 0 rfl rfl 11 (by decide) (hg _ gw_1634) (fun _ h9 => h9) rfl hdg k
theorem md_ald_with (C : MdX p c cc s args m D aT) (hW : MdB D aT ad S A H0 H locs) {i : Nat} (hi : i < 12) (hdg : decode cc pc = .ok (.iaload, 1)) (k : W p l e R s m args below meth c H locs cells slots Q (F0 m (pc + 1) ls (.int (S 5 i) :: rest))) : W p l e R s m args below meth c H locs cells slots Q (F0 m pc ls (.int (nI i) :: .ref (ad 6) :: rest)) := by
  obtain ⟨hx, hb, hg, hown, hK⟩ := C
  refine va_iald (D := D) hx hb hK hW.1 6 0 rfl rfl (vp_in_nI hi (by decide)) hdg ?_
  rw [nI_clamp (by omega)]
  exact k
theorem md_ast_with (C : MdX p c cc s args m D aT) (hW : MdB D aT ad S A H0 H locs) {i : Nat} {x : Int32} (hi : i < 12) (hdg : decode cc pc = .ok (.iastore, 1)) (k : ∀ (H1 : Heap) (locs1 : List Loc), MdB D aT ad (sr S 5 (upd (S 5) i x)) A H0 H1 locs1 → W p l e R s m args below meth c H1 locs1 cells slots Q (F0 m (pc + 1) ls rest)) : W p l e R s m args below meth c H locs cells slots Q (F0 m pc ls (.int x :: .int (nI i) :: .ref (ad 6) :: rest)) := by
  obtain ⟨hx, hb, hg, hown, hK⟩ := C
  refine va_iast (D := D) hx hb hK hW.1 hW.2.1 hW.2.2 6 0 rfl rfl (vp_in_nI hi (by decide)) hdg (fun H1 locs1 h1 h2 h3 => ?_)
  rw [nI_clamp (by omega)] at h1
  exact k H1 locs1 ⟨h1, mdW_D hW.2.1, h3⟩
theorem md_geta_without (C : MdX p c cc s args m D aT) (hW : MdB D aT ad S A H0 H locs) (hdg : decode cc pc = .ok (.getfield 35, 3)) (k : W p l e R s m args below meth c H locs cells slots Q (F0 m (pc + 3) ls (.ref (ad 7) :: rest))) : W p l e R s m args below meth c H locs cells slots Q (F0 m pc ls (.ref (ad 0) :: rest)) := by
  obtain ⟨hx, hb, hg, hown, hK⟩ := C
  exact va_get (D := D) (ci := 13) (v := .ref (ad 7)) (C := RX10) (T := TX10) (N := 26) hx hb hg inX10 hown hK hW.1 0 rfl rfl 12 (by decide) (hg _ gw_1635) (fun _ h9 => h9) rfl hdg k
theorem md_ald_without (C : MdX p c cc s args m D aT) (hW : MdB D aT ad S A H0 H locs) {i : Nat} (hi : i < 12) (hdg : decode cc pc = .ok (.iaload, 1)) (k : W p l e R s m args below meth c H locs cells slots Q (F0 m (pc + 1) ls (.int (S 6 i) :: rest))) : W p l e R s m args below meth c H locs cells slots Q (F0 m pc ls (.int (nI i) :: .ref (ad 7) :: rest)) := by
  obtain ⟨hx, hb, hg, hown, hK⟩ := C
  refine va_iald (D := D) hx hb hK hW.1 7 0 rfl rfl (vp_in_nI hi (by decide)) hdg ?_
  rw [nI_clamp (by omega)]
  exact k
theorem md_ast_without (C : MdX p c cc s args m D aT) (hW : MdB D aT ad S A H0 H locs) {i : Nat} {x : Int32} (hi : i < 12) (hdg : decode cc pc = .ok (.iastore, 1)) (k : ∀ (H1 : Heap) (locs1 : List Loc), MdB D aT ad (sr S 6 (upd (S 6) i x)) A H0 H1 locs1 → W p l e R s m args below meth c H1 locs1 cells slots Q (F0 m (pc + 1) ls rest)) : W p l e R s m args below meth c H locs cells slots Q (F0 m pc ls (.int x :: .int (nI i) :: .ref (ad 7) :: rest)) := by
  obtain ⟨hx, hb, hg, hown, hK⟩ := C
  refine va_iast (D := D) hx hb hK hW.1 hW.2.1 hW.2.2 7 0 rfl rfl (vp_in_nI hi (by decide)) hdg (fun H1 locs1 h1 h2 h3 => ?_)
  rw [nI_clamp (by omega)] at h1
  exact k H1 locs1 ⟨h1, mdW_D hW.2.1, h3⟩
theorem md_geta_setsWith (C : MdX p c cc s args m D aT) (hW : MdB D aT ad S A H0 H locs) (hdg : decode cc pc = .ok (.getfield 38, 3)) (k : W p l e R s m args below meth c H locs cells slots Q (F0 m (pc + 3) ls (.ref (ad 8) :: rest))) : W p l e R s m args below meth c H locs cells slots Q (F0 m pc ls (.ref (ad 0) :: rest)) := by
  obtain ⟨hx, hb, hg, hown, hK⟩ := C
  exact va_get (D := D) (ci := 13) (v := .ref (ad 8)) (C := RX10) (T := TX10) (N := 26) hx hb hg inX10 hown hK hW.1 0 rfl rfl 13 (by decide) (hg _ gw_1636) (fun _ h9 => h9) rfl hdg k
theorem md_ald_setsWith (C : MdX p c cc s args m D aT) (hW : MdB D aT ad S A H0 H locs) {i : Nat} (hi : i < 12) (hdg : decode cc pc = .ok (.iaload, 1)) (k : W p l e R s m args below meth c H locs cells slots Q (F0 m (pc + 1) ls (.int (S 7 i) :: rest))) : W p l e R s m args below meth c H locs cells slots Q (F0 m pc ls (.int (nI i) :: .ref (ad 8) :: rest)) := by
  obtain ⟨hx, hb, hg, hown, hK⟩ := C
  refine va_iald (D := D) hx hb hK hW.1 8 0 rfl rfl (vp_in_nI hi (by decide)) hdg ?_
  rw [nI_clamp (by omega)]
  exact k
theorem md_ast_setsWith (C : MdX p c cc s args m D aT) (hW : MdB D aT ad S A H0 H locs) {i : Nat} {x : Int32} (hi : i < 12) (hdg : decode cc pc = .ok (.iastore, 1)) (k : ∀ (H1 : Heap) (locs1 : List Loc), MdB D aT ad (sr S 7 (upd (S 7) i x)) A H0 H1 locs1 → W p l e R s m args below meth c H1 locs1 cells slots Q (F0 m (pc + 1) ls rest)) : W p l e R s m args below meth c H locs cells slots Q (F0 m pc ls (.int x :: .int (nI i) :: .ref (ad 8) :: rest)) := by
  obtain ⟨hx, hb, hg, hown, hK⟩ := C
  refine va_iast (D := D) hx hb hK hW.1 hW.2.1 hW.2.2 8 0 rfl rfl (vp_in_nI hi (by decide)) hdg (fun H1 locs1 h1 h2 h3 => ?_)
  rw [nI_clamp (by omega)] at h1
  exact k H1 locs1 ⟨h1, mdW_D hW.2.1, h3⟩
theorem md_geta_setsWithout (C : MdX p c cc s args m D aT) (hW : MdB D aT ad S A H0 H locs) (hdg : decode cc pc = .ok (.getfield 41, 3)) (k : W p l e R s m args below meth c H locs cells slots Q (F0 m (pc + 3) ls (.ref (ad 9) :: rest))) : W p l e R s m args below meth c H locs cells slots Q (F0 m pc ls (.ref (ad 0) :: rest)) := by
  obtain ⟨hx, hb, hg, hown, hK⟩ := C
  exact va_get (D := D) (ci := 13) (v := .ref (ad 9)) (C := RX10) (T := TX10) (N := 26) hx hb hg inX10 hown hK hW.1 0 rfl rfl 14 (by decide) (hg _ gw_1637) (fun _ h9 => h9) rfl hdg k
theorem md_ald_setsWithout (C : MdX p c cc s args m D aT) (hW : MdB D aT ad S A H0 H locs) {i : Nat} (hi : i < 12) (hdg : decode cc pc = .ok (.iaload, 1)) (k : W p l e R s m args below meth c H locs cells slots Q (F0 m (pc + 1) ls (.int (S 8 i) :: rest))) : W p l e R s m args below meth c H locs cells slots Q (F0 m pc ls (.int (nI i) :: .ref (ad 9) :: rest)) := by
  obtain ⟨hx, hb, hg, hown, hK⟩ := C
  refine va_iald (D := D) hx hb hK hW.1 9 0 rfl rfl (vp_in_nI hi (by decide)) hdg ?_
  rw [nI_clamp (by omega)]
  exact k
theorem md_ast_setsWithout (C : MdX p c cc s args m D aT) (hW : MdB D aT ad S A H0 H locs) {i : Nat} {x : Int32} (hi : i < 12) (hdg : decode cc pc = .ok (.iastore, 1)) (k : ∀ (H1 : Heap) (locs1 : List Loc), MdB D aT ad (sr S 8 (upd (S 8) i x)) A H0 H1 locs1 → W p l e R s m args below meth c H1 locs1 cells slots Q (F0 m (pc + 1) ls rest)) : W p l e R s m args below meth c H locs cells slots Q (F0 m pc ls (.int x :: .int (nI i) :: .ref (ad 9) :: rest)) := by
  obtain ⟨hx, hb, hg, hown, hK⟩ := C
  refine va_iast (D := D) hx hb hK hW.1 hW.2.1 hW.2.2 9 0 rfl rfl (vp_in_nI hi (by decide)) hdg (fun H1 locs1 h1 h2 h3 => ?_)
  rw [nI_clamp (by omega)] at h1
  exact k H1 locs1 ⟨h1, mdW_D hW.2.1, h3⟩
theorem md_geta_letters (C : MdX p c cc s args m D aT) (hW : MdB D aT ad S A H0 H locs) (hdg : decode cc pc = .ok (.getfield 44, 3)) (k : W p l e R s m args below meth c H locs cells slots Q (F0 m (pc + 3) ls (.ref (ad 10) :: rest))) : W p l e R s m args below meth c H locs cells slots Q (F0 m pc ls (.ref (ad 0) :: rest)) := by
  obtain ⟨hx, hb, hg, hown, hK⟩ := C
  exact va_get (D := D) (ci := 13) (v := .ref (ad 10)) (C := RX10) (T := TX10) (N := 26) hx hb hg inX10 hown hK hW.1 0 rfl rfl 17 (by decide) (hg _ gw_1640) (fun _ h9 => h9) rfl hdg k
theorem md_ald_letters (C : MdX p c cc s args m D aT) (hW : MdB D aT ad S A H0 H locs) {i : Nat} (hi : i < 41) (hdg : decode cc pc = .ok (.caload, 1)) (k : W p l e R s m args below meth c H locs cells slots Q (F0 m (pc + 1) ls (.int (S 9 i) :: rest))) : W p l e R s m args below meth c H locs cells slots Q (F0 m pc ls (.int (nI i) :: .ref (ad 10) :: rest)) := by
  obtain ⟨hx, hb, hg, hown, hK⟩ := C
  refine va_cald (D := D) hx hb hK hW.1 10 1 rfl rfl (vp_in_nI hi (by decide)) hdg ?_
  rw [nI_clamp (by omega)]
  exact k
theorem md_geta_begins0 (C : MdX p c cc s args m D aT) (hW : MdB D aT ad S A H0 H locs) (hdg : decode cc pc = .ok (.getfield 48, 3)) (k : W p l e R s m args below meth c H locs cells slots Q (F0 m (pc + 3) ls (.ref (ad 11) :: rest))) : W p l e R s m args below meth c H locs cells slots Q (F0 m pc ls (.ref (ad 0) :: rest)) := by
  obtain ⟨hx, hb, hg, hown, hK⟩ := C
  exact va_get (D := D) (ci := 13) (v := .ref (ad 11)) (C := RX10) (T := TX10) (N := 26) hx hb hg inX10 hown hK hW.1 0 rfl rfl 18 (by decide) (hg _ gw_1641) (fun _ h9 => h9) rfl hdg k
theorem md_ald_begins0 (C : MdX p c cc s args m D aT) (hW : MdB D aT ad S A H0 H locs) {i : Nat} (hi : i < 8) (hdg : decode cc pc = .ok (.iaload, 1)) (k : W p l e R s m args below meth c H locs cells slots Q (F0 m (pc + 1) ls (.int (S 10 i) :: rest))) : W p l e R s m args below meth c H locs cells slots Q (F0 m pc ls (.int (nI i) :: .ref (ad 11) :: rest)) := by
  obtain ⟨hx, hb, hg, hown, hK⟩ := C
  refine va_iald (D := D) hx hb hK hW.1 11 0 rfl rfl (vp_in_nI hi (by decide)) hdg ?_
  rw [nI_clamp (by omega)]
  exact k
theorem md_geta_commands (C : MdX p c cc s args m D aT) (hW : MdB D aT ad S A H0 H locs) (hdg : decode cc pc = .ok (.getfield 51, 3)) (k : W p l e R s m args below meth c H locs cells slots Q (F0 m (pc + 3) ls (.ref (ad 12) :: rest))) : W p l e R s m args below meth c H locs cells slots Q (F0 m pc ls (.ref (ad 0) :: rest)) := by
  obtain ⟨hx, hb, hg, hown, hK⟩ := C
  exact va_get (D := D) (ci := 13) (v := .ref (ad 12)) (C := RX10) (T := TX10) (N := 26) hx hb hg inX10 hown hK hW.1 0 rfl rfl 19 (by decide) (hg _ gw_1642) (fun _ h9 => h9) rfl hdg k
theorem md_ald_commands (C : MdX p c cc s args m D aT) (hW : MdB D aT ad S A H0 H locs) {i : Nat} (hi : i < 244) (hdg : decode cc pc = .ok (.iaload, 1)) (k : W p l e R s m args below meth c H locs cells slots Q (F0 m (pc + 1) ls (.int (S 11 i) :: rest))) : W p l e R s m args below meth c H locs cells slots Q (F0 m pc ls (.int (nI i) :: .ref (ad 12) :: rest)) := by
  obtain ⟨hx, hb, hg, hown, hK⟩ := C
  refine va_iald (D := D) hx hb hK hW.1 12 0 rfl rfl (vp_in_nI hi (by decide)) hdg ?_
  rw [nI_clamp (by omega)]
  exact k
theorem md_ast_commands (C : MdX p c cc s args m D aT) (hW : MdB D aT ad S A H0 H locs) {i : Nat} {x : Int32} (hi : i < 244) (hdg : decode cc pc = .ok (.iastore, 1)) (k : ∀ (H1 : Heap) (locs1 : List Loc), MdB D aT ad (sr S 11 (upd (S 11) i x)) A H0 H1 locs1 → W p l e R s m args below meth c H1 locs1 cells slots Q (F0 m (pc + 1) ls rest)) : W p l e R s m args below meth c H locs cells slots Q (F0 m pc ls (.int x :: .int (nI i) :: .ref (ad 12) :: rest)) := by
  obtain ⟨hx, hb, hg, hown, hK⟩ := C
  refine va_iast (D := D) hx hb hK hW.1 hW.2.1 hW.2.2 12 0 rfl rfl (vp_in_nI hi (by decide)) hdg (fun H1 locs1 h1 h2 h3 => ?_)
  rw [nI_clamp (by omega)] at h1
  exact k H1 locs1 ⟨h1, mdW_D hW.2.1, h3⟩
theorem md_geta_line (C : MdX p c cc s args m D aT) (hW : MdB D aT ad S A H0 H locs) (hdg : decode cc pc = .ok (.getfield 54, 3)) (k : W p l e R s m args below meth c H locs cells slots Q (F0 m (pc + 3) ls (.ref (ad 13) :: rest))) : W p l e R s m args below meth c H locs cells slots Q (F0 m pc ls (.ref (ad 0) :: rest)) := by
  obtain ⟨hx, hb, hg, hown, hK⟩ := C
  exact va_get (D := D) (ci := 13) (v := .ref (ad 13)) (C := RX10) (T := TX10) (N := 26) hx hb hg inX10 hown hK hW.1 0 rfl rfl 24 (by decide) (hg _ gw_1647) (fun _ h9 => h9) rfl hdg k
theorem md_ald_line (C : MdX p c cc s args m D aT) (hW : MdB D aT ad S A H0 H locs) {i : Nat} (hi : i < 400) (hdg : decode cc pc = .ok (.iaload, 1)) (k : W p l e R s m args below meth c H locs cells slots Q (F0 m (pc + 1) ls (.int (S 12 i) :: rest))) : W p l e R s m args below meth c H locs cells slots Q (F0 m pc ls (.int (nI i) :: .ref (ad 13) :: rest)) := by
  obtain ⟨hx, hb, hg, hown, hK⟩ := C
  refine va_iald (D := D) hx hb hK hW.1 13 0 rfl rfl (vp_in_nI hi (by decide)) hdg ?_
  rw [nI_clamp (by omega)]
  exact k
theorem md_ast_line (C : MdX p c cc s args m D aT) (hW : MdB D aT ad S A H0 H locs) {i : Nat} {x : Int32} (hi : i < 400) (hdg : decode cc pc = .ok (.iastore, 1)) (k : ∀ (H1 : Heap) (locs1 : List Loc), MdB D aT ad (sr S 12 (upd (S 12) i x)) A H0 H1 locs1 → W p l e R s m args below meth c H1 locs1 cells slots Q (F0 m (pc + 1) ls rest)) : W p l e R s m args below meth c H locs cells slots Q (F0 m pc ls (.int x :: .int (nI i) :: .ref (ad 13) :: rest)) := by
  obtain ⟨hx, hb, hg, hown, hK⟩ := C
  refine va_iast (D := D) hx hb hK hW.1 hW.2.1 hW.2.2 13 0 rfl rfl (vp_in_nI hi (by decide)) hdg (fun H1 locs1 h1 h2 h3 => ?_)
  rw [nI_clamp (by omega)] at h1
  exact k H1 locs1 ⟨h1, mdW_D hW.2.1, h3⟩
theorem md_get_isSaved (C : MdX p c cc s args m D aT) (hW : MdB D aT ad S A H0 H locs) (hdg : decode cc pc = .ok (.getfield 273, 3)) (k : W p l e R s m args below meth c H locs cells slots Q (F0 m (pc + 3) ls (.int (S 13 3) :: rest))) : W p l e R s m args below meth c H locs cells slots Q (F0 m pc ls (.ref (ad 0) :: rest)) := by
  obtain ⟨hx, hb, hg, hown, hK⟩ := C
  exact va_get (D := D) (ci := 13) (v := .int (S 13 3)) (C := RX10) (T := TX10) (N := 26) hx hb hg inX10 hown hK hW.1 0 rfl rfl 3 (by decide) (hg _ gw_1626) (fun _ h9 => h9) rfl hdg k
theorem md_put_isSaved (C : MdX p c cc s args m D aT) (hW : MdB D aT ad S A H0 H locs) {x : Int32} (hz : narrow .boolean (.int x) = .int x) (hf : fits .boolean (.int x) = true) (hdg : decode cc pc = .ok (.putfield 273, 3)) (k : ∀ (H1 : Heap) (locs1 : List Loc), MdB D aT ad (ss S 3 x) A H0 H1 locs1 → W p l e R s m args below meth c H1 locs1 cells slots Q (F0 m (pc + 3) ls rest)) : W p l e R s m args below meth c H locs cells slots Q (F0 m pc ls (.int x :: .ref (ad 0) :: rest)) := by
  obtain ⟨hx, hb, hg, hown, hK⟩ := C
  refine va_put (D := D) (ci := 13) (v := .int x) (ty := .boolean) (C := RX10) (T := TX10) (N := 26) hx hb hg inX10 tyX10 tyX10_ok nmX10 hown hK hW.1 hW.2.1 hW.2.2 0 rfl rfl 3 (by decide) (hg _ gw_1626) (fun _ h9 => h9) rfl (by decide +kernel) hz hf (Nat.le_of_ble_eq_true rfl) hdg (fun H1 locs1 h1 h2 h3 => ?_)
  exact k H1 locs1 ⟨h1, mdW_D hW.2.1, h3⟩
theorem md_get_changes (C : MdX p c cc s args m D aT) (hW : MdB D aT ad S A H0 H locs) (hdg : decode cc pc = .ok (.getfield 60, 3)) (k : W p l e R s m args below meth c H locs cells slots Q (F0 m (pc + 3) ls (.int (S 13 5) :: rest))) : W p l e R s m args below meth c H locs cells slots Q (F0 m pc ls (.ref (ad 0) :: rest)) := by
  obtain ⟨hx, hb, hg, hown, hK⟩ := C
  exact va_get (D := D) (ci := 13) (v := .int (S 13 5)) (C := RX10) (T := TX10) (N := 26) hx hb hg inX10 hown hK hW.1 0 rfl rfl 5 (by decide) (hg _ gw_1628) (fun _ h9 => h9) rfl hdg k
theorem md_put_changes (C : MdX p c cc s args m D aT) (hW : MdB D aT ad S A H0 H locs) {x : Int32} (hdg : decode cc pc = .ok (.putfield 60, 3)) (k : ∀ (H1 : Heap) (locs1 : List Loc), MdB D aT ad (ss S 5 x) A H0 H1 locs1 → W p l e R s m args below meth c H1 locs1 cells slots Q (F0 m (pc + 3) ls rest)) : W p l e R s m args below meth c H locs cells slots Q (F0 m pc ls (.int x :: .ref (ad 0) :: rest)) := by
  obtain ⟨hx, hb, hg, hown, hK⟩ := C
  refine va_put (D := D) (ci := 13) (v := .int x) (ty := .int) (C := RX10) (T := TX10) (N := 26) hx hb hg inX10 tyX10 tyX10_ok nmX10 hown hK hW.1 hW.2.1 hW.2.2 0 rfl rfl 5 (by decide) (hg _ gw_1628) (fun _ h9 => h9) rfl (by decide +kernel) rfl rfl (Nat.le_of_ble_eq_true rfl) hdg (fun H1 locs1 h1 h2 h3 => ?_)
  exact k H1 locs1 ⟨h1, mdW_D hW.2.1, h3⟩
theorem md_get_errorAt (C : MdX p c cc s args m D aT) (hW : MdB D aT ad S A H0 H locs) (hdg : decode cc pc = .ok (.getfield 22, 3)) (k : W p l e R s m args below meth c H locs cells slots Q (F0 m (pc + 3) ls (.int (S 13 6) :: rest))) : W p l e R s m args below meth c H locs cells slots Q (F0 m pc ls (.ref (ad 0) :: rest)) := by
  obtain ⟨hx, hb, hg, hown, hK⟩ := C
  exact va_get (D := D) (ci := 13) (v := .int (S 13 6)) (C := RX10) (T := TX10) (N := 26) hx hb hg inX10 hown hK hW.1 0 rfl rfl 6 (by decide) (hg _ gw_1629) (fun _ h9 => h9) rfl hdg k
theorem md_put_errorAt (C : MdX p c cc s args m D aT) (hW : MdB D aT ad S A H0 H locs) {x : Int32} (hdg : decode cc pc = .ok (.putfield 22, 3)) (k : ∀ (H1 : Heap) (locs1 : List Loc), MdB D aT ad (ss S 6 x) A H0 H1 locs1 → W p l e R s m args below meth c H1 locs1 cells slots Q (F0 m (pc + 3) ls rest)) : W p l e R s m args below meth c H locs cells slots Q (F0 m pc ls (.int x :: .ref (ad 0) :: rest)) := by
  obtain ⟨hx, hb, hg, hown, hK⟩ := C
  refine va_put (D := D) (ci := 13) (v := .int x) (ty := .int) (C := RX10) (T := TX10) (N := 26) hx hb hg inX10 tyX10 tyX10_ok nmX10 hown hK hW.1 hW.2.1 hW.2.2 0 rfl rfl 6 (by decide) (hg _ gw_1629) (fun _ h9 => h9) rfl (by decide +kernel) rfl rfl (Nat.le_of_ble_eq_true rfl) hdg (fun H1 locs1 h1 h2 h3 => ?_)
  exact k H1 locs1 ⟨h1, mdW_D hW.2.1, h3⟩
theorem md_get_failed (C : MdX p c cc s args m D aT) (hW : MdB D aT ad S A H0 H locs) (hdg : decode cc pc = .ok (.getfield 26, 3)) (k : W p l e R s m args below meth c H locs cells slots Q (F0 m (pc + 3) ls (.int (S 13 7) :: rest))) : W p l e R s m args below meth c H locs cells slots Q (F0 m pc ls (.ref (ad 0) :: rest)) := by
  obtain ⟨hx, hb, hg, hown, hK⟩ := C
  exact va_get (D := D) (ci := 13) (v := .int (S 13 7)) (C := RX10) (T := TX10) (N := 26) hx hb hg inX10 hown hK hW.1 0 rfl rfl 7 (by decide) (hg _ gw_1630) (fun _ h9 => h9) rfl hdg k
theorem md_put_failed (C : MdX p c cc s args m D aT) (hW : MdB D aT ad S A H0 H locs) {x : Int32} (hdg : decode cc pc = .ok (.putfield 26, 3)) (k : ∀ (H1 : Heap) (locs1 : List Loc), MdB D aT ad (ss S 7 x) A H0 H1 locs1 → W p l e R s m args below meth c H1 locs1 cells slots Q (F0 m (pc + 3) ls rest)) : W p l e R s m args below meth c H locs cells slots Q (F0 m pc ls (.int x :: .ref (ad 0) :: rest)) := by
  obtain ⟨hx, hb, hg, hown, hK⟩ := C
  refine va_put (D := D) (ci := 13) (v := .int x) (ty := .int) (C := RX10) (T := TX10) (N := 26) hx hb hg inX10 tyX10 tyX10_ok nmX10 hown hK hW.1 hW.2.1 hW.2.2 0 rfl rfl 7 (by decide) (hg _ gw_1630) (fun _ h9 => h9) rfl (by decide +kernel) rfl rfl (Nat.le_of_ble_eq_true rfl) hdg (fun H1 locs1 h1 h2 h3 => ?_)
  exact k H1 locs1 ⟨h1, mdW_D hW.2.1, h3⟩
theorem md_get_thrown (C : MdX p c cc s args m D aT) (hW : MdB D aT ad S A H0 H locs) (hdg : decode cc pc = .ok (.getfield 57, 3)) (k : W p l e R s m args below meth c H locs cells slots Q (F0 m (pc + 3) ls (.int (S 13 8) :: rest))) : W p l e R s m args below meth c H locs cells slots Q (F0 m pc ls (.ref (ad 0) :: rest)) := by
  obtain ⟨hx, hb, hg, hown, hK⟩ := C
  exact va_get (D := D) (ci := 13) (v := .int (S 13 8)) (C := RX10) (T := TX10) (N := 26) hx hb hg inX10 hown hK hW.1 0 rfl rfl 8 (by decide) (hg _ gw_1631) (fun _ h9 => h9) rfl hdg k
theorem md_put_thrown (C : MdX p c cc s args m D aT) (hW : MdB D aT ad S A H0 H locs) {x : Int32} (hdg : decode cc pc = .ok (.putfield 57, 3)) (k : ∀ (H1 : Heap) (locs1 : List Loc), MdB D aT ad (ss S 8 x) A H0 H1 locs1 → W p l e R s m args below meth c H1 locs1 cells slots Q (F0 m (pc + 3) ls rest)) : W p l e R s m args below meth c H locs cells slots Q (F0 m pc ls (.int x :: .ref (ad 0) :: rest)) := by
  obtain ⟨hx, hb, hg, hown, hK⟩ := C
  refine va_put (D := D) (ci := 13) (v := .int x) (ty := .int) (C := RX10) (T := TX10) (N := 26) hx hb hg inX10 tyX10 tyX10_ok nmX10 hown hK hW.1 hW.2.1 hW.2.2 0 rfl rfl 8 (by decide) (hg _ gw_1631) (fun _ h9 => h9) rfl (by decide +kernel) rfl rfl (Nat.le_of_ble_eq_true rfl) hdg (fun H1 locs1 h1 h2 h3 => ?_)
  exact k H1 locs1 ⟨h1, mdW_D hW.2.1, h3⟩
theorem md_get_inputMany (C : MdX p c cc s args m D aT) (hW : MdB D aT ad S A H0 H locs) (hdg : decode cc pc = .ok (.getfield 207, 3)) (k : W p l e R s m args below meth c H locs cells slots Q (F0 m (pc + 3) ls (.int (S 13 10) :: rest))) : W p l e R s m args below meth c H locs cells slots Q (F0 m pc ls (.ref (ad 0) :: rest)) := by
  obtain ⟨hx, hb, hg, hown, hK⟩ := C
  exact va_get (D := D) (ci := 13) (v := .int (S 13 10)) (C := RX10) (T := TX10) (N := 26) hx hb hg inX10 hown hK hW.1 0 rfl rfl 10 (by decide) (hg _ gw_1633) (fun _ h9 => h9) rfl hdg k
theorem md_put_inputMany (C : MdX p c cc s args m D aT) (hW : MdB D aT ad S A H0 H locs) {x : Int32} (hdg : decode cc pc = .ok (.putfield 207, 3)) (k : ∀ (H1 : Heap) (locs1 : List Loc), MdB D aT ad (ss S 10 x) A H0 H1 locs1 → W p l e R s m args below meth c H1 locs1 cells slots Q (F0 m (pc + 3) ls rest)) : W p l e R s m args below meth c H locs cells slots Q (F0 m pc ls (.int x :: .ref (ad 0) :: rest)) := by
  obtain ⟨hx, hb, hg, hown, hK⟩ := C
  refine va_put (D := D) (ci := 13) (v := .int x) (ty := .int) (C := RX10) (T := TX10) (N := 26) hx hb hg inX10 tyX10 tyX10_ok nmX10 hown hK hW.1 hW.2.1 hW.2.2 0 rfl rfl 10 (by decide) (hg _ gw_1633) (fun _ h9 => h9) rfl (by decide +kernel) rfl rfl (Nat.le_of_ble_eq_true rfl) hdg (fun H1 locs1 h1 h2 h3 => ?_)
  exact k H1 locs1 ⟨h1, mdW_D hW.2.1, h3⟩
theorem md_get_worthAll (C : MdX p c cc s args m D aT) (hW : MdB D aT ad S A H0 H locs) (hdg : decode cc pc = .ok (.getfield 190, 3)) (k : W p l e R s m args below meth c H locs cells slots Q (F0 m (pc + 3) ls (.int (S 13 15) :: rest))) : W p l e R s m args below meth c H locs cells slots Q (F0 m pc ls (.ref (ad 0) :: rest)) := by
  obtain ⟨hx, hb, hg, hown, hK⟩ := C
  exact va_get (D := D) (ci := 13) (v := .int (S 13 15)) (C := RX10) (T := TX10) (N := 26) hx hb hg inX10 hown hK hW.1 0 rfl rfl 15 (by decide) (hg _ gw_1638) (fun _ h9 => h9) rfl hdg k
theorem md_put_worthAll (C : MdX p c cc s args m D aT) (hW : MdB D aT ad S A H0 H locs) {x : Int32} (hdg : decode cc pc = .ok (.putfield 190, 3)) (k : ∀ (H1 : Heap) (locs1 : List Loc), MdB D aT ad (ss S 15 x) A H0 H1 locs1 → W p l e R s m args below meth c H1 locs1 cells slots Q (F0 m (pc + 3) ls rest)) : W p l e R s m args below meth c H locs cells slots Q (F0 m pc ls (.int x :: .ref (ad 0) :: rest)) := by
  obtain ⟨hx, hb, hg, hown, hK⟩ := C
  refine va_put (D := D) (ci := 13) (v := .int x) (ty := .int) (C := RX10) (T := TX10) (N := 26) hx hb hg inX10 tyX10 tyX10_ok nmX10 hown hK hW.1 hW.2.1 hW.2.2 0 rfl rfl 15 (by decide) (hg _ gw_1638) (fun _ h9 => h9) rfl (by decide +kernel) rfl rfl (Nat.le_of_ble_eq_true rfl) hdg (fun H1 locs1 h1 h2 h3 => ?_)
  exact k H1 locs1 ⟨h1, mdW_D hW.2.1, h3⟩
theorem md_get_setsAll (C : MdX p c cc s args m D aT) (hW : MdB D aT ad S A H0 H locs) (hdg : decode cc pc = .ok (.getfield 193, 3)) (k : W p l e R s m args below meth c H locs cells slots Q (F0 m (pc + 3) ls (.int (S 13 16) :: rest))) : W p l e R s m args below meth c H locs cells slots Q (F0 m pc ls (.ref (ad 0) :: rest)) := by
  obtain ⟨hx, hb, hg, hown, hK⟩ := C
  exact va_get (D := D) (ci := 13) (v := .int (S 13 16)) (C := RX10) (T := TX10) (N := 26) hx hb hg inX10 hown hK hW.1 0 rfl rfl 16 (by decide) (hg _ gw_1639) (fun _ h9 => h9) rfl hdg k
theorem md_put_setsAll (C : MdX p c cc s args m D aT) (hW : MdB D aT ad S A H0 H locs) {x : Int32} (hdg : decode cc pc = .ok (.putfield 193, 3)) (k : ∀ (H1 : Heap) (locs1 : List Loc), MdB D aT ad (ss S 16 x) A H0 H1 locs1 → W p l e R s m args below meth c H1 locs1 cells slots Q (F0 m (pc + 3) ls rest)) : W p l e R s m args below meth c H locs cells slots Q (F0 m pc ls (.int x :: .ref (ad 0) :: rest)) := by
  obtain ⟨hx, hb, hg, hown, hK⟩ := C
  refine va_put (D := D) (ci := 13) (v := .int x) (ty := .int) (C := RX10) (T := TX10) (N := 26) hx hb hg inX10 tyX10 tyX10_ok nmX10 hown hK hW.1 hW.2.1 hW.2.2 0 rfl rfl 16 (by decide) (hg _ gw_1639) (fun _ h9 => h9) rfl (by decide +kernel) rfl rfl (Nat.le_of_ble_eq_true rfl) hdg (fun H1 locs1 h1 h2 h3 => ?_)
  exact k H1 locs1 ⟨h1, mdW_D hW.2.1, h3⟩
theorem md_get_commandMany (C : MdX p c cc s args m D aT) (hW : MdB D aT ad S A H0 H locs) (hdg : decode cc pc = .ok (.getfield 242, 3)) (k : W p l e R s m args below meth c H locs cells slots Q (F0 m (pc + 3) ls (.int (S 13 20) :: rest))) : W p l e R s m args below meth c H locs cells slots Q (F0 m pc ls (.ref (ad 0) :: rest)) := by
  obtain ⟨hx, hb, hg, hown, hK⟩ := C
  exact va_get (D := D) (ci := 13) (v := .int (S 13 20)) (C := RX10) (T := TX10) (N := 26) hx hb hg inX10 hown hK hW.1 0 rfl rfl 20 (by decide) (hg _ gw_1643) (fun _ h9 => h9) rfl hdg k
theorem md_put_commandMany (C : MdX p c cc s args m D aT) (hW : MdB D aT ad S A H0 H locs) {x : Int32} (hdg : decode cc pc = .ok (.putfield 242, 3)) (k : ∀ (H1 : Heap) (locs1 : List Loc), MdB D aT ad (ss S 20 x) A H0 H1 locs1 → W p l e R s m args below meth c H1 locs1 cells slots Q (F0 m (pc + 3) ls rest)) : W p l e R s m args below meth c H locs cells slots Q (F0 m pc ls (.int x :: .ref (ad 0) :: rest)) := by
  obtain ⟨hx, hb, hg, hown, hK⟩ := C
  refine va_put (D := D) (ci := 13) (v := .int x) (ty := .int) (C := RX10) (T := TX10) (N := 26) hx hb hg inX10 tyX10 tyX10_ok nmX10 hown hK hW.1 hW.2.1 hW.2.2 0 rfl rfl 20 (by decide) (hg _ gw_1643) (fun _ h9 => h9) rfl (by decide +kernel) rfl rfl (Nat.le_of_ble_eq_true rfl) hdg (fun H1 locs1 h1 h2 h3 => ?_)
  exact k H1 locs1 ⟨h1, mdW_D hW.2.1, h3⟩
theorem md_get_place0 (C : MdX p c cc s args m D aT) (hW : MdB D aT ad S A H0 H locs) (hdg : decode cc pc = .ok (.getfield 210, 3)) (k : W p l e R s m args below meth c H locs cells slots Q (F0 m (pc + 3) ls (.int (S 13 21) :: rest))) : W p l e R s m args below meth c H locs cells slots Q (F0 m pc ls (.ref (ad 0) :: rest)) := by
  obtain ⟨hx, hb, hg, hown, hK⟩ := C
  exact va_get (D := D) (ci := 13) (v := .int (S 13 21)) (C := RX10) (T := TX10) (N := 26) hx hb hg inX10 hown hK hW.1 0 rfl rfl 21 (by decide) (hg _ gw_1644) (fun _ h9 => h9) rfl hdg k
theorem md_put_place0 (C : MdX p c cc s args m D aT) (hW : MdB D aT ad S A H0 H locs) {x : Int32} (hdg : decode cc pc = .ok (.putfield 210, 3)) (k : ∀ (H1 : Heap) (locs1 : List Loc), MdB D aT ad (ss S 21 x) A H0 H1 locs1 → W p l e R s m args below meth c H1 locs1 cells slots Q (F0 m (pc + 3) ls rest)) : W p l e R s m args below meth c H locs cells slots Q (F0 m pc ls (.int x :: .ref (ad 0) :: rest)) := by
  obtain ⟨hx, hb, hg, hown, hK⟩ := C
  refine va_put (D := D) (ci := 13) (v := .int x) (ty := .int) (C := RX10) (T := TX10) (N := 26) hx hb hg inX10 tyX10 tyX10_ok nmX10 hown hK hW.1 hW.2.1 hW.2.2 0 rfl rfl 21 (by decide) (hg _ gw_1644) (fun _ h9 => h9) rfl (by decide +kernel) rfl rfl (Nat.le_of_ble_eq_true rfl) hdg (fun H1 locs1 h1 h2 h3 => ?_)
  exact k H1 locs1 ⟨h1, mdW_D hW.2.1, h3⟩
theorem md_get_size0 (C : MdX p c cc s args m D aT) (hW : MdB D aT ad S A H0 H locs) (hdg : decode cc pc = .ok (.getfield 213, 3)) (k : W p l e R s m args below meth c H locs cells slots Q (F0 m (pc + 3) ls (.int (S 13 22) :: rest))) : W p l e R s m args below meth c H locs cells slots Q (F0 m pc ls (.ref (ad 0) :: rest)) := by
  obtain ⟨hx, hb, hg, hown, hK⟩ := C
  exact va_get (D := D) (ci := 13) (v := .int (S 13 22)) (C := RX10) (T := TX10) (N := 26) hx hb hg inX10 hown hK hW.1 0 rfl rfl 22 (by decide) (hg _ gw_1645) (fun _ h9 => h9) rfl hdg k
theorem md_put_size0 (C : MdX p c cc s args m D aT) (hW : MdB D aT ad S A H0 H locs) {x : Int32} (hdg : decode cc pc = .ok (.putfield 213, 3)) (k : ∀ (H1 : Heap) (locs1 : List Loc), MdB D aT ad (ss S 22 x) A H0 H1 locs1 → W p l e R s m args below meth c H1 locs1 cells slots Q (F0 m (pc + 3) ls rest)) : W p l e R s m args below meth c H locs cells slots Q (F0 m pc ls (.int x :: .ref (ad 0) :: rest)) := by
  obtain ⟨hx, hb, hg, hown, hK⟩ := C
  refine va_put (D := D) (ci := 13) (v := .int x) (ty := .int) (C := RX10) (T := TX10) (N := 26) hx hb hg inX10 tyX10 tyX10_ok nmX10 hown hK hW.1 hW.2.1 hW.2.2 0 rfl rfl 22 (by decide) (hg _ gw_1645) (fun _ h9 => h9) rfl (by decide +kernel) rfl rfl (Nat.le_of_ble_eq_true rfl) hdg (fun H1 locs1 h1 h2 h3 => ?_)
  exact k H1 locs1 ⟨h1, mdW_D hW.2.1, h3⟩
theorem md_get_isWrong (C : MdX p c cc s args m D aT) (hW : MdB D aT ad S A H0 H locs) (hdg : decode cc pc = .ok (.getfield 216, 3)) (k : W p l e R s m args below meth c H locs cells slots Q (F0 m (pc + 3) ls (.int (S 13 23) :: rest))) : W p l e R s m args below meth c H locs cells slots Q (F0 m pc ls (.ref (ad 0) :: rest)) := by
  obtain ⟨hx, hb, hg, hown, hK⟩ := C
  exact va_get (D := D) (ci := 13) (v := .int (S 13 23)) (C := RX10) (T := TX10) (N := 26) hx hb hg inX10 hown hK hW.1 0 rfl rfl 23 (by decide) (hg _ gw_1646) (fun _ h9 => h9) rfl hdg k
theorem md_put_isWrong (C : MdX p c cc s args m D aT) (hW : MdB D aT ad S A H0 H locs) {x : Int32} (hz : narrow .boolean (.int x) = .int x) (hf : fits .boolean (.int x) = true) (hdg : decode cc pc = .ok (.putfield 216, 3)) (k : ∀ (H1 : Heap) (locs1 : List Loc), MdB D aT ad (ss S 23 x) A H0 H1 locs1 → W p l e R s m args below meth c H1 locs1 cells slots Q (F0 m (pc + 3) ls rest)) : W p l e R s m args below meth c H locs cells slots Q (F0 m pc ls (.int x :: .ref (ad 0) :: rest)) := by
  obtain ⟨hx, hb, hg, hown, hK⟩ := C
  refine va_put (D := D) (ci := 13) (v := .int x) (ty := .boolean) (C := RX10) (T := TX10) (N := 26) hx hb hg inX10 tyX10 tyX10_ok nmX10 hown hK hW.1 hW.2.1 hW.2.2 0 rfl rfl 23 (by decide) (hg _ gw_1646) (fun _ h9 => h9) rfl (by decide +kernel) hz hf (Nat.le_of_ble_eq_true rfl) hdg (fun H1 locs1 h1 h2 h3 => ?_)
  exact k H1 locs1 ⟨h1, mdW_D hW.2.1, h3⟩
theorem md_get_lineMany (C : MdX p c cc s args m D aT) (hW : MdB D aT ad S A H0 H locs) (hdg : decode cc pc = .ok (.getfield 258, 3)) (k : W p l e R s m args below meth c H locs cells slots Q (F0 m (pc + 3) ls (.int (S 13 25) :: rest))) : W p l e R s m args below meth c H locs cells slots Q (F0 m pc ls (.ref (ad 0) :: rest)) := by
  obtain ⟨hx, hb, hg, hown, hK⟩ := C
  exact va_get (D := D) (ci := 13) (v := .int (S 13 25)) (C := RX10) (T := TX10) (N := 26) hx hb hg inX10 hown hK hW.1 0 rfl rfl 25 (by decide) (hg _ gw_1648) (fun _ h9 => h9) rfl hdg k
theorem md_put_lineMany (C : MdX p c cc s args m D aT) (hW : MdB D aT ad S A H0 H locs) {x : Int32} (hdg : decode cc pc = .ok (.putfield 258, 3)) (k : ∀ (H1 : Heap) (locs1 : List Loc), MdB D aT ad (ss S 25 x) A H0 H1 locs1 → W p l e R s m args below meth c H1 locs1 cells slots Q (F0 m (pc + 3) ls rest)) : W p l e R s m args below meth c H locs cells slots Q (F0 m pc ls (.int x :: .ref (ad 0) :: rest)) := by
  obtain ⟨hx, hb, hg, hown, hK⟩ := C
  refine va_put (D := D) (ci := 13) (v := .int x) (ty := .int) (C := RX10) (T := TX10) (N := 26) hx hb hg inX10 tyX10 tyX10_ok nmX10 hown hK hW.1 hW.2.1 hW.2.2 0 rfl rfl 25 (by decide) (hg _ gw_1648) (fun _ h9 => h9) rfl (by decide +kernel) rfl rfl (Nat.le_of_ble_eq_true rfl) hdg (fun H1 locs1 h1 h2 h3 => ?_)
  exact k H1 locs1 ⟨h1, mdW_D hW.2.1, h3⟩
end MDR
