section W3
variable {p : Program} {l : Launch} {e : Env} {R : Room} {s : State} {m : MethodId} {args : Array Value} {below : List Frame} {meth : Method} {c : Code} {H : Heap} {locs : List Loc} {cells slots : Nat} {Q : State → Prop} {cc : ByteArray} {pc : Nat} {ls : Array Slot} {rest : List Value}
/-- a loop that writes nothing: a measure that falls -/
theorem W_loopR {σ : Type} (μ : σ → Nat) (G : σ → JFrame → Prop) (body : ∀ x g, G x g → (∀ y g', μ y < μ x → G y g' → W p l e R s m args below meth c H locs cells slots Q g') → W p l e R s m args below meth c H locs cells slots Q g) (x : σ) (g : JFrame) (h : G x g) : W p l e R s m args below meth c H locs cells slots Q g := by
  have key : ∀ n x g, μ x < n → G x g → W p l e R s m args below meth c H locs cells slots Q g := by
    intro n
    induction n with
    | zero => intro x g hx; exact absurd hx (Nat.not_lt_zero _)
    | succ n ih => intro x g hx hg; exact body x g hg (fun y g' hy hg' => ih y g' (by omega) hg')
  exact key _ x g (Nat.lt_succ_self _) h
/-- a loop that writes -/
theorem W_loopH {σ : Type} (μ : σ → Nat) (G : σ → Heap → List Loc → JFrame → Prop) (body : ∀ x H locs g, G x H locs g → (∀ y H' locs' g', μ y < μ x → G y H' locs' g' → W p l e R s m args below meth c H' locs' cells slots Q g') → W p l e R s m args below meth c H locs cells slots Q g) (x : σ) (g : JFrame) (h : G x H locs g) : W p l e R s m args below meth c H locs cells slots Q g := by
  have key : ∀ n x H locs g, μ x < n → G x H locs g → W p l e R s m args below meth c H locs cells slots Q g := by
    intro n
    induction n with
    | zero => intro x H locs g hx; exact absurd hx (Nat.not_lt_zero _)
    | succ n ih => intro x H locs g hx hg; exact body x H locs g hg (fun y H' locs' g' hy hg' => ih y H' locs' g' (by omega) hg')
  exact key _ x H locs g (Nat.lt_succ_self _) h
theorem r_iaddN (hx : p.tables.exec = Jvm.exec) (hb : c.code = cc) {a b : Nat} (hdg : decode cc pc = .ok (.iadd, 1)) (k : W p l e R s m args below meth c H locs cells slots Q (F0 m (pc + 1) ls (.int (nI (a + b)) :: rest))) : W p l e R s m args below meth c H locs cells slots Q (F0 m pc ls (.int (nI b) :: .int (nI a) :: rest)) := lv_iadd hx hb hdg (by rw [nI_add]; exact k)
theorem r_isubN (hx : p.tables.exec = Jvm.exec) (hb : c.code = cc) {a b : Nat} (h : b ≤ a) (hdg : decode cc pc = .ok (.isub, 1)) (k : W p l e R s m args below meth c H locs cells slots Q (F0 m (pc + 1) ls (.int (nI (a - b)) :: rest))) : W p l e R s m args below meth c H locs cells slots Q (F0 m pc ls (.int (nI b) :: .int (nI a) :: rest)) := lv_isub hx hb hdg (by rw [pk_sub h]; exact k)
theorem r_imulN (hx : p.tables.exec = Jvm.exec) (hb : c.code = cc) {a b : Nat} (hdg : decode cc pc = .ok (.imul, 1)) (k : W p l e R s m args below meth c H locs cells slots Q (F0 m (pc + 1) ls (.int (nI (a * b)) :: rest))) : W p l e R s m args below meth c H locs cells slots Q (F0 m pc ls (.int (nI b) :: .int (nI a) :: rest)) := lv_imul hx hb hdg (by rw [pk_mul]; exact k)
theorem r_eq {x y : Int32} (h : x = y) (k : W p l e R s m args below meth c H locs cells slots Q (F0 m pc ls (.int y :: rest))) : W p l e R s m args below meth c H locs cells slots Q (F0 m pc ls (.int x :: rest)) := by rw [h]; exact k
theorem r_ltN (hx : p.tables.exec = Jvm.exec) (hb : c.code = cc) {a b : Nat} (ha : a < 2 ^ 31) (hb' : b < 2 ^ 31) {off : Int} {tgt : Nat} (hdg : decode cc pc = .ok (.if_icmp .lt off, 3)) (ht : (pc : Int) + off = (tgt : Int)) (kt : a < b → W p l e R s m args below meth c H locs cells slots Q (F0 m tgt ls rest)) (kf : b ≤ a → W p l e R s m args below meth c H locs cells slots Q (F0 m (pc + 3) ls rest)) : W p l e R s m args below meth c H locs cells slots Q (F0 m pc ls (.int (nI b) :: .int (nI a) :: rest)) :=
  lv_icmp_lt hx hb hdg ht (fun h => kt ((nI_ltI ha hb').mp h)) (fun h => kf (Nat.not_lt.mp (fun q => h ((nI_ltI ha hb').mpr q))))
theorem r_geN (hx : p.tables.exec = Jvm.exec) (hb : c.code = cc) {a b : Nat} (ha : a < 2 ^ 31) (hb' : b < 2 ^ 31) {off : Int} {tgt : Nat} (hdg : decode cc pc = .ok (.if_icmp .ge off, 3)) (ht : (pc : Int) + off = (tgt : Int)) (kt : b ≤ a → W p l e R s m args below meth c H locs cells slots Q (F0 m tgt ls rest)) (kf : a < b → W p l e R s m args below meth c H locs cells slots Q (F0 m (pc + 3) ls rest)) : W p l e R s m args below meth c H locs cells slots Q (F0 m pc ls (.int (nI b) :: .int (nI a) :: rest)) :=
  lv_icmp_ge hx hb hdg ht (fun h => kt ((nI_leI hb' ha).mp h)) (fun h => kf (Nat.not_le.mp (fun q => h ((nI_leI hb' ha).mpr q))))
theorem r_gtN (hx : p.tables.exec = Jvm.exec) (hb : c.code = cc) {a b : Nat} (ha : a < 2 ^ 31) (hb' : b < 2 ^ 31) {off : Int} {tgt : Nat} (hdg : decode cc pc = .ok (.if_icmp .gt off, 3)) (ht : (pc : Int) + off = (tgt : Int)) (kt : b < a → W p l e R s m args below meth c H locs cells slots Q (F0 m tgt ls rest)) (kf : a ≤ b → W p l e R s m args below meth c H locs cells slots Q (F0 m (pc + 3) ls rest)) : W p l e R s m args below meth c H locs cells slots Q (F0 m pc ls (.int (nI b) :: .int (nI a) :: rest)) :=
  lv_icmp_gt hx hb hdg ht (fun h => kt ((nI_ltI hb' ha).mp h)) (fun h => kf (Nat.not_lt.mp (fun q => h ((nI_ltI hb' ha).mpr q))))
theorem r_leN (hx : p.tables.exec = Jvm.exec) (hb : c.code = cc) {a b : Nat} (ha : a < 2 ^ 31) (hb' : b < 2 ^ 31) {off : Int} {tgt : Nat} (hdg : decode cc pc = .ok (.if_icmp .le off, 3)) (ht : (pc : Int) + off = (tgt : Int)) (kt : a ≤ b → W p l e R s m args below meth c H locs cells slots Q (F0 m tgt ls rest)) (kf : b < a → W p l e R s m args below meth c H locs cells slots Q (F0 m (pc + 3) ls rest)) : W p l e R s m args below meth c H locs cells slots Q (F0 m pc ls (.int (nI b) :: .int (nI a) :: rest)) :=
  lv_icmp_le hx hb hdg ht (fun h => kt ((nI_leI ha hb').mp h)) (fun h => kf (Nat.not_le.mp (fun q => h ((nI_leI ha hb').mpr q))))
theorem r_neN (hx : p.tables.exec = Jvm.exec) (hb : c.code = cc) {a b : Nat} (ha : a < 2 ^ 31) (hb' : b < 2 ^ 31) {off : Int} {tgt : Nat} (hdg : decode cc pc = .ok (.if_icmp .ne off, 3)) (ht : (pc : Int) + off = (tgt : Int)) (kt : a ≠ b → W p l e R s m args below meth c H locs cells slots Q (F0 m tgt ls rest)) (kf : a = b → W p l e R s m args below meth c H locs cells slots Q (F0 m (pc + 3) ls rest)) : W p l e R s m args below meth c H locs cells slots Q (F0 m pc ls (.int (nI b) :: .int (nI a) :: rest)) :=
  lv_icmp_ne hx hb hdg ht (fun h => kt (fun q => h ((nI_eq ha hb').mpr q))) (fun h => kf ((nI_eq ha hb').mp h))
theorem r_eqN (hx : p.tables.exec = Jvm.exec) (hb : c.code = cc) {a b : Nat} (ha : a < 2 ^ 31) (hb' : b < 2 ^ 31) {off : Int} {tgt : Nat} (hdg : decode cc pc = .ok (.if_icmp .eq off, 3)) (ht : (pc : Int) + off = (tgt : Int)) (kt : a = b → W p l e R s m args below meth c H locs cells slots Q (F0 m tgt ls rest)) (kf : a ≠ b → W p l e R s m args below meth c H locs cells slots Q (F0 m (pc + 3) ls rest)) : W p l e R s m args below meth c H locs cells slots Q (F0 m pc ls (.int (nI b) :: .int (nI a) :: rest)) :=
  lv_icmp_eq hx hb hdg ht (fun h => kt ((nI_eq ha hb').mp h)) (fun h => kf (fun q => h ((nI_eq ha hb').mpr q)))
/-- a place, or none -/
def oi : Option Nat → Int32
  | none => -1
  | some j => nI j
/-- true or false as the machine has them -/
def bI (b : Bool) : Int32 := if b then 1 else 0
theorem oi_none {o : Option Nat} (h : ∀ j, o = some j → j < 2 ^ 31) : oi o = -1 ↔ o = none := by
  cases o with
  | none => simp [oi]
  | some j =>
    have hj := h j rfl
    refine ⟨fun q => ?_, fun q => by cases q⟩
    have h1 : (nI j).toInt = (-1 : Int32).toInt := by rw [show nI j = -1 from q]
    rw [nI_toInt hj] at h1
    have h2 : (-1 : Int32).toInt = -1 := by decide
    omega
theorem r_oi_ne (hx : p.tables.exec = Jvm.exec) (hb : c.code = cc) {o : Option Nat} (ho : ∀ j, o = some j → j < 2 ^ 31) {off : Int} {tgt : Nat} (hdg : decode cc pc = .ok (.if_icmp .ne off, 3)) (ht : (pc : Int) + off = (tgt : Int)) (kt : ∀ j, o = some j → W p l e R s m args below meth c H locs cells slots Q (F0 m tgt ls rest)) (kf : o = none → W p l e R s m args below meth c H locs cells slots Q (F0 m (pc + 3) ls rest)) : W p l e R s m args below meth c H locs cells slots Q (F0 m pc ls (.int (-1) :: .int (oi o) :: rest)) := by
  refine lv_icmp_ne hx hb hdg ht (fun h => ?_) (fun h => ?_)
  · cases o with
    | none => exact absurd rfl h
    | some j => exact kt j rfl
  · exact kf ((oi_none ho).mp h)
theorem r_oi_eq (hx : p.tables.exec = Jvm.exec) (hb : c.code = cc) {o : Option Nat} (ho : ∀ j, o = some j → j < 2 ^ 31) {off : Int} {tgt : Nat} (hdg : decode cc pc = .ok (.if_icmp .eq off, 3)) (ht : (pc : Int) + off = (tgt : Int)) (kt : o = none → W p l e R s m args below meth c H locs cells slots Q (F0 m tgt ls rest)) (kf : ∀ j, o = some j → W p l e R s m args below meth c H locs cells slots Q (F0 m (pc + 3) ls rest)) : W p l e R s m args below meth c H locs cells slots Q (F0 m pc ls (.int (-1) :: .int (oi o) :: rest)) := by
  refine lv_icmp_eq hx hb hdg ht (fun h => kt ((oi_none ho).mp h)) (fun h => ?_)
  cases o with
  | none => exact absurd rfl h
  | some j => exact kf j rfl
theorem r_bI_eq (hx : p.tables.exec = Jvm.exec) (hb : c.code = cc) {b : Bool} {off : Int} {tgt : Nat} (hdg : decode cc pc = .ok (.ifCond .eq off, 3)) (ht : (pc : Int) + off = (tgt : Int)) (kt : b = false → W p l e R s m args below meth c H locs cells slots Q (F0 m tgt ls rest)) (kf : b = true → W p l e R s m args below meth c H locs cells slots Q (F0 m (pc + 3) ls rest)) : W p l e R s m args below meth c H locs cells slots Q (F0 m pc ls (.int (bI b) :: rest)) := by
  refine lv_if_eq hx hb hdg ht (fun h => ?_) (fun h => ?_)
  · cases b with
    | false => exact kt rfl
    | true => exact absurd h (by decide)
  · cases b with
    | false => exact absurd rfl h
    | true => exact kf rfl
theorem r_bI_ne (hx : p.tables.exec = Jvm.exec) (hb : c.code = cc) {b : Bool} {off : Int} {tgt : Nat} (hdg : decode cc pc = .ok (.ifCond .ne off, 3)) (ht : (pc : Int) + off = (tgt : Int)) (kt : b = true → W p l e R s m args below meth c H locs cells slots Q (F0 m tgt ls rest)) (kf : b = false → W p l e R s m args below meth c H locs cells slots Q (F0 m (pc + 3) ls rest)) : W p l e R s m args below meth c H locs cells slots Q (F0 m pc ls (.int (bI b) :: rest)) := by
  refine lv_if_ne hx hb hdg ht (fun h => ?_) (fun h => ?_)
  · cases b with
    | false => exact absurd rfl h
    | true => exact kt rfl
  · cases b with
    | false => exact kf rfl
    | true => exact absurd h (by decide)
theorem bI_nar (b : Bool) : narrow .boolean (.int (bI b)) = .int (bI b) := by cases b <;> decide
theorem bI_fit (b : Bool) : fits .boolean (.int (bI b)) = true := by cases b <;> decide
theorem gdV {own C : String} {idx : Nat} {y : MethodName} {b : ByteArray} {L : Nat} {ret : Option FieldType} (h1 : Cond.methodLink own idx y ∈ gw) (h2 : Cond.instanceMethod y ∈ gw) (h3 : Cond.selects C y y ∈ gw) (h4 : Cond.initialized C ∈ gw) (h5 : Cond.code y b L ret ∈ gw) : GoodIn gw (wsV own idx C y (Cond.code y b L ret :: gw)) := by
  intro w hw
  have h : w ∈ gw := by
    unfold wsV at hw
    simp only [List.cons_append, List.nil_append, List.mem_cons] at hw
    rcases hw with rfl | rfl | rfl | rfl | rfl | hw
    · exact h1
    · exact h2
    · exact h3
    · exact h4
    · exact h5
    · exact hw
  exact ⟨h, gw_good w h⟩
theorem gdS {own : String} {idx : Nat} {y : MethodName} {b : ByteArray} {L : Nat} {ret : Option FieldType} (h1 : Cond.methodLink own idx y ∈ gw) (h2 : Cond.static y ∈ gw) (h4 : Cond.initialized own ∈ gw) (h5 : Cond.code y b L ret ∈ gw) : GoodIn gw (wsS own idx y (Cond.code y b L ret :: gw)) := by
  intro w hw
  have h : w ∈ gw := by
    unfold wsS at hw
    simp only [List.cons_append, List.nil_append, List.mem_cons] at hw
    rcases hw with rfl | rfl | rfl | rfl | hw
    · exact h1
    · exact h2
    · exact h4
    · exact h5
    · exact hw
  exact ⟨h, gw_good w h⟩
end W3
section MDC
variable {p : Program} {l : Launch} {e : Env} {R : Room} {s : State} {m : MethodId} {args : Array Value} {below : List Frame} {meth : Method} {c : Code} {H : Heap} {locs : List Loc} {cells slots : Nat} {Q : State → Prop} {cc : ByteArray} {pc : Nat} {ls : Array Slot} {rest : List Value} {D : va_G} {aT : Nat → ClassId} {ad : Nat → Nat} {S : MSt} {A : Nat → Prop} {H0 : Heap} {nL : Nat}
theorem md_blind (As : List Value) (sz : Nat) : FrameBlind (va_Pc As (mdB1 D aT ad S sz)) := fun a U g mk q => by
  obtain ⟨q0, q1, qP, qK, qD⟩ := q
  exact ⟨q0, q1, qP, va_K.moved (u := U) (U := U.calling g mk a) (Vm.Alike.refl U.vm) qK, qD⟩
theorem md_calli (C : MdX p c cc s args m D aT) (hml : c.maxLocals = nL) (hls : ls.size = nL) {y : MethodName} {b : ByteArray} {L : Nat} {ret : FieldType} {fr lo idx n : Nat} {As st : List Value} {post : Int32 → MSt → Prop} (hM : MdI l y b L ret fr lo D aT ad (.ref (ad 0) :: As) S post)
    (hT : GoodIn gw (wsV RX10 idx RX10 y (Cond.code y b L (some ret) :: gw))) (hd : y.cls = RX10 ∧ y.cls ≠ "java/lang/invoke/MethodHandle" ∧ y.cls ≠ "java/lang/invoke/VarHandle" ∧ (parseMethodDescriptor y.desc).map (fun d => d.parameters.length) = some n) (hn : As.length = n)
    (hR : fr + 1 ≤ R.frames ∧ 8 + (L + 11) + lo ≤ R.locals) (hcs : cells ≤ R.cells ∧ slots ≤ R.slots) (hW : MdB D aT ad S A H0 H locs) (hA : ∀ q, H0.size ≤ q → A q) (hst : st = As.reverse ++ .ref (ad 0) :: rest) (hw : (rest.map fun v => v.category).sum ≤ 8)
    (hdg : decode cc pc = .ok (.invokevirtual idx, 3)) (k : ∀ (r : Int32) (S1 : MSt) (H1 : Heap) (locs1 : List Loc), post r S1 → MdB D aT ad S1 A H0 H1 locs1 → W p l e R s m args below meth c H1 locs1 cells slots Q (F0 m (pc + 3) ls (.int r :: rest))) : W p l e R s m args below meth c H locs cells slots Q (F0 m pc ls st) := by
  obtain ⟨hx, hb, hg, hown, hK⟩ := C
  obtain ⟨hP, hD, hS⟩ := hW
  subst hst
  have hAq : ∀ q, va_A (mdW aT ad S) H.size q → A q := by
    intro q h
    rcases h with ⟨j, e1, h⟩ | h
    · exact hD.2 j _ h
    · exact hA q (Nat.le_trans hS.1 h)
  refine va_calli (va_runV (As := As) (rest := rest) ⟨hx, hb, hml, hown, hg⟩ (hM H.size) (cwV n hg hT rfl rfl rfl hd hR) ⟨md_blind _ _, va_recv hK hP (ci := 13) (q0 := 0) rfl rfl, fun U hU hW => ⟨rfl, by rw [hU], by rw [hU]; exact hP, va_K.moved hW.alike hK, hD.weaken (fun _ _ _ _ => trivial)⟩⟩ rfl hn hls rfl (lv_room hw) hdg hcs) hS (fun q _ h => hAq q h) hAq (fun r u t H1 locs1 ht hvm hq hB hz hk hS1 => ?_)
  obtain ⟨hP1, hK1, hD1⟩ := hB
  rw [ht] at hP1
  exact k r u H1 locs1 hq ⟨hP1, mdW_D hD, hS1⟩
theorem md_callv (C : MdX p c cc s args m D aT) (hml : c.maxLocals = nL) (hls : ls.size = nL) {y : MethodName} {b : ByteArray} {L : Nat} {fr lo idx n : Nat} {As st : List Value} {post : MSt → Prop} (hM : MdV l y b L fr lo D aT ad (.ref (ad 0) :: As) S post)
    (hT : GoodIn gw (wsV RX10 idx RX10 y (Cond.code y b L none :: gw))) (hd : y.cls = RX10 ∧ y.cls ≠ "java/lang/invoke/MethodHandle" ∧ y.cls ≠ "java/lang/invoke/VarHandle" ∧ (parseMethodDescriptor y.desc).map (fun d => d.parameters.length) = some n) (hn : As.length = n)
    (hR : fr + 1 ≤ R.frames ∧ 8 + (L + 11) + lo ≤ R.locals) (hcs : cells ≤ R.cells ∧ slots ≤ R.slots) (hW : MdB D aT ad S A H0 H locs) (hA : ∀ q, H0.size ≤ q → A q) (hst : st = As.reverse ++ .ref (ad 0) :: rest) (hw : (rest.map fun v => v.category).sum ≤ 8)
    (hdg : decode cc pc = .ok (.invokevirtual idx, 3)) (k : ∀ (S1 : MSt) (H1 : Heap) (locs1 : List Loc), post S1 → MdB D aT ad S1 A H0 H1 locs1 → W p l e R s m args below meth c H1 locs1 cells slots Q (F0 m (pc + 3) ls rest)) : W p l e R s m args below meth c H locs cells slots Q (F0 m pc ls st) := by
  obtain ⟨hx, hb, hg, hown, hK⟩ := C
  obtain ⟨hP, hD, hS⟩ := hW
  subst hst
  have hAq : ∀ q, va_A (mdW aT ad S) H.size q → A q := by
    intro q h
    rcases h with ⟨j, e1, h⟩ | h
    · exact hD.2 j _ h
    · exact hA q (Nat.le_trans hS.1 h)
  refine va_callv (va_runV (As := As) (rest := rest) ⟨hx, hb, hml, hown, hg⟩ (hM H.size) (cwV n hg hT rfl rfl rfl hd hR) ⟨md_blind _ _, va_recv hK hP (ci := 13) (q0 := 0) rfl rfl, fun U hU hW => ⟨rfl, by rw [hU], by rw [hU]; exact hP, va_K.moved hW.alike hK, hD.weaken (fun _ _ _ _ => trivial)⟩⟩ rfl hn hls rfl (lv_room hw) hdg hcs) hS (fun q _ h => hAq q h) hAq (fun u t H1 locs1 ht hvm hq hB hz hk hS1 => ?_)
  obtain ⟨hP1, hK1, hD1⟩ := hB
  rw [ht] at hP1
  exact k u H1 locs1 hq ⟨hP1, mdW_D hD, hS1⟩
/-- .. that answers an int and leaves its state -/
def MdG (l : Launch) (y : MethodName) (b : ByteArray) (L : Nat) (ret : FieldType) (fr lo : Nat) (D : va_G) (aT : Nat → ClassId) (ad : Nat → Nat) (As : List Value) (S : MSt) (post : Int32 → Prop) : Prop := MdI l y b L ret fr lo D aT ad As S (fun r S1 => post r ∧ S1 = S)
theorem md_callg (C : MdX p c cc s args m D aT) (hml : c.maxLocals = nL) (hls : ls.size = nL) {y : MethodName} {b : ByteArray} {L : Nat} {ret : FieldType} {fr lo idx n : Nat} {As st : List Value} {post : Int32 → Prop} (hM : MdG l y b L ret fr lo D aT ad (.ref (ad 0) :: As) S post)
    (hT : GoodIn gw (wsV RX10 idx RX10 y (Cond.code y b L (some ret) :: gw))) (hd : y.cls = RX10 ∧ y.cls ≠ "java/lang/invoke/MethodHandle" ∧ y.cls ≠ "java/lang/invoke/VarHandle" ∧ (parseMethodDescriptor y.desc).map (fun d => d.parameters.length) = some n) (hn : As.length = n)
    (hR : fr + 1 ≤ R.frames ∧ 8 + (L + 11) + lo ≤ R.locals) (hcs : cells ≤ R.cells ∧ slots ≤ R.slots) (hW : MdB D aT ad S A H0 H locs) (hA : ∀ q, H0.size ≤ q → A q) (hst : st = As.reverse ++ .ref (ad 0) :: rest) (hw : (rest.map fun v => v.category).sum ≤ 8)
    (hdg : decode cc pc = .ok (.invokevirtual idx, 3)) (k : ∀ (r : Int32) (H1 : Heap) (locs1 : List Loc), post r → MdB D aT ad S A H0 H1 locs1 → W p l e R s m args below meth c H1 locs1 cells slots Q (F0 m (pc + 3) ls (.int r :: rest))) : W p l e R s m args below meth c H locs cells slots Q (F0 m pc ls st) :=
  md_calli C hml hls hM hT hd hn hR hcs hW hA hst hw hdg (fun r S1 H1 locs1 hq hW1 => k r H1 locs1 hq.1 (by rw [← hq.2]; exact hW1))
/-- a static method without a world -/
def MdS (l : Launch) (y : MethodName) (b : ByteArray) (L : Nat) (ret : FieldType) (As : List Value) (post : Int32 → Prop) : Prop :=
  Met l y (Cond.code y b L (some ret) :: gw) (mdR 0 0) (fun a _ => a = As.toArray) (vp_Si post) 0 0 (fun _ => False)
theorem md_calls (C : MdX p c cc s args m D aT) (hml : c.maxLocals = nL) (hls : ls.size = nL) {y : MethodName} {b : ByteArray} {L : Nat} {ret : FieldType} {idx n : Nat} {As st : List Value} {post : Int32 → Prop} (hM : MdS l y b L ret As post)
    (hT : GoodIn gw (wsS RX10 idx y (Cond.code y b L (some ret) :: gw))) (hd : y.cls = RX10 ∧ y.cls ≠ "java/lang/invoke/MethodHandle" ∧ y.cls ≠ "java/lang/invoke/VarHandle" ∧ (parseMethodDescriptor y.desc).map (fun d => d.parameters.length) = some n) (hn : As.length = n)
    (hR : 0 + 1 ≤ R.frames ∧ 8 + (L + 11) + 0 ≤ R.locals) (hcs : cells ≤ R.cells ∧ slots ≤ R.slots) (hst : st = As.reverse ++ rest) (hw : (rest.map fun v => v.category).sum ≤ 8)
    (hdg : decode cc pc = .ok (.invokestatic idx, 3)) (k : ∀ (r : Int32), post r → W p l e R s m args below meth c H locs cells slots Q (F0 m (pc + 3) ls (.int r :: rest))) : W p l e R s m args below meth c H locs cells slots Q (F0 m pc ls st) := by
  obtain ⟨hx, hb, hg, hown, hK⟩ := C
  subst hst
  exact vp_callSi (W.runS (As := As) (rest := rest) ⟨hx, hb, hml, hown, hg⟩ hM (cwS n hg hT rfl rfl rfl hd hR) ⟨fun a U g mk q => q, fun U hU hW => rfl⟩ rfl hn hls rfl (lv_room hw) hdg hcs) k
/-- the end of a method of the reference -/
def mdB3 (D : va_G) (aT : Nat → ClassId) (ad : Nat → Nat) (A : Nat → Prop) (S : MSt) (U : State) : Prop := va_P D vwCl (mdW aT ad S) U.heap ∧ va_K D vwCl (tyG aT) U ∧ va_D A (mdW aT ad S)
theorem md_iret (C : MdX p c cc s args m D aT) {ty : FieldType} (hr : meth.sig.returnType = some ty) (hlocks : meth.locks = false) {post : Int32 → MSt → Prop} {v : Int32} (hn : narrow ty (.int v) = .int v) (hW : MdB D aT ad S A s.heap H locs) (hq : post v S) (hdg : decode cc pc = .ok (.ireturn, 1)) : W p l e R s m args below meth c H locs cells slots (MQ below (va_Qi post (mdB3 D aT ad A) A) args s cells slots A) (F0 m pc ls [.int v]) := by
  obtain ⟨hx, hb, hg, hown, hK⟩ := C
  exact W.zret (v := v) hx hb hr hn (fun t ht hW' => ⟨⟨v, S, rfl, hq, by rw [ht]; exact hW.1, va_K.moved hW'.alike hK, hW.2.1⟩, hW.2.2.F ht⟩) hW.2.2.2.2 hdg hlocks
theorem md_vret (C : MdX p c cc s args m D aT) (hr : meth.sig.returnType = none) (hlocks : meth.locks = false) {post : MSt → Prop} (hW : MdB D aT ad S A s.heap H locs) (hq : post S) (hdg : decode cc pc = .ok (.return_, 1)) : W p l e R s m args below meth c H locs cells slots (MQ below (va_Qv post (mdB3 D aT ad A) A) args s cells slots A) (F0 m pc ls []) := by
  obtain ⟨hx, hb, hg, hown, hK⟩ := C
  exact W.vret hx hb hr (fun t ht hW' => ⟨⟨S, rfl, hq, by rw [ht]; exact hW.1, va_K.moved hW'.alike hK, hW.2.1⟩, hW.2.2.F ht⟩) hW.2.2.2.2 hdg hlocks
theorem MdI.of {y : MethodName} {b : ByteArray} {L : Nat} {ret : FieldType} {fr lo : Nat} {As : List Value} {post : Int32 → MSt → Prop} (hy : plainName y.cls = true) (hcls : y.cls = RX10) (hL : (lg_sl As).length ≤ L)
    (body : ∀ (p : Program) (e : Env) (s : State) (m : MethodId) (below : List Frame) (meth : Method) (c : Code) (A : Nat → Prop) (ls : Array Slot), MdX p c b s As.toArray m D aT → c.maxLocals = L → lv_has ls L (lv_args 0 As) → (∀ q, s.heap.size ≤ q → A q) → meth.sig.returnType = some ret → meth.locks = false → MdB D aT ad S A s.heap s.heap [] →
      W p l e (mdR fr lo) s m As.toArray below meth c s.heap [] 0 0 (MQ below (va_Qi post (mdB3 D aT ad A) A) As.toArray s 0 0 A) (F0 m 0 ls [])) : MdI l y b L ret fr lo D aT ad As S post := by
  intro sz
  refine Met.ofW (cc := b) (maxL := L) (ret := some ret) hy rfl ?_
  intro p e s m args below meth c s₁ B hml hv
  obtain ⟨rfl, hsz, hP, hK, hD0⟩ := hv
  have hts := atoms_spec (ws := Cond.code y b L (some ret) :: gw) B.pre
  have hown : s.vm.findClass y.cls = some m.cls := findClass_of_methodNamed B.named
  rw [hcls] at hown
  subst hsz
  have hl := lv_entry As (n := L) hL
  rw [lg_entry_eq]
  exact body p e s m below meth c _ _ ⟨B.exec, B.bytes, fun w hw => hts w (List.mem_cons_of_mem _ hw), hown, hK⟩ hml hl (fun q h => Or.inr h) B.returns B.notSynchronized ⟨hP, hD0.self (sz := s.heap.size), va_S.rf⟩
theorem MdV.of {y : MethodName} {b : ByteArray} {L : Nat} {fr lo : Nat} {As : List Value} {post : MSt → Prop} (hy : plainName y.cls = true) (hcls : y.cls = RX10) (hL : (lg_sl As).length ≤ L)
    (body : ∀ (p : Program) (e : Env) (s : State) (m : MethodId) (below : List Frame) (meth : Method) (c : Code) (A : Nat → Prop) (ls : Array Slot), MdX p c b s As.toArray m D aT → c.maxLocals = L → lv_has ls L (lv_args 0 As) → (∀ q, s.heap.size ≤ q → A q) → meth.sig.returnType = none → meth.locks = false → MdB D aT ad S A s.heap s.heap [] →
      W p l e (mdR fr lo) s m As.toArray below meth c s.heap [] 0 0 (MQ below (va_Qv post (mdB3 D aT ad A) A) As.toArray s 0 0 A) (F0 m 0 ls [])) : MdV l y b L fr lo D aT ad As S post := by
  intro sz
  refine Met.ofW (cc := b) (maxL := L) (ret := none) hy rfl ?_
  intro p e s m args below meth c s₁ B hml hv
  obtain ⟨rfl, hsz, hP, hK, hD0⟩ := hv
  have hts := atoms_spec (ws := Cond.code y b L none :: gw) B.pre
  have hown : s.vm.findClass y.cls = some m.cls := findClass_of_methodNamed B.named
  rw [hcls] at hown
  subst hsz
  have hl := lv_entry As (n := L) hL
  rw [lg_entry_eq]
  exact body p e s m below meth c _ _ ⟨B.exec, B.bytes, fun w hw => hts w (List.mem_cons_of_mem _ hw), hown, hK⟩ hml hl (fun q h => Or.inr h) B.returns B.notSynchronized ⟨hP, hD0.self (sz := s.heap.size), va_S.rf⟩
end MDC
