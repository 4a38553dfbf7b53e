section CXK
variable {p : Program} {l : Launch} {e : Env} {R : Room} {s : State} {m : MethodId} {args : Array Value} {below : List Frame} {meth : Method} {c : Code} {H : Heap} {locs : List Loc} {cells slots : Nat} {Q : State → Prop} {cc : ByteArray} {pc : Nat} {ls : Array Slot} {rest : List Value} {D : va_G} {aT : Nat → ClassId} {Wd : va_W} {A : Nat → Prop} {H0 : Heap} {nL : Nat} {own : String} {a : Nat}
theorem vk_getfN (hexec : p.tables.exec = Jvm.exec) (hb : c.code = cc) {o n d own ref host : String} {index q : Nat} {v : Value} (hE : va_OF o n d v q A s s.heap) (hS : va_S A s.heap H locs) (hown : s.vm.findClass own = some m.cls) (hlink : (Cond.fieldLinkNest own index ref n d host).before args s = true) (hsame : ∀ x, s.fieldFound? o n d = some x → s.fieldFound? ref n d = some x) (hdg : decode cc pc = .ok (.getfield index, 3))
    (kk : W p l e R s m args below meth c H locs cells slots Q (F0 m (pc + 3) ls (v :: rest))) : W p l e R s m args below meth c H locs cells slots Q (F0 m pc ls (.ref q :: rest)) := by
  obtain ⟨cf, k, fi, f, cell, h1, h2, h3, h4, h5, h6⟩ := hE.kept hS.2.1
  exact va_Wgetf hexec hb hown hlink (hsame _ h1) h2 h3 h4 (v := v) h5 rfl rfl hdg kk
theorem cx_gk (C : CxX p c cc s args m D aT own) (hW : CxB D Wd A s.heap H locs) {o n d ref : String} {index q : Nat} {v : Value} (hE : va_OF o n d v q A s s.heap) (hl : Cond.fieldLink own index ref n d ∈ gw) (hr : o = ref) (hdg : decode cc pc = .ok (.getfield index, 3)) (kk : W p l e R s m args below meth c H locs cells slots Q (F0 m (pc + 3) ls (v :: rest))) : W p l e R s m args below meth c H locs cells slots Q (F0 m pc ls (.ref q :: rest)) := by
  obtain ⟨hx, hb, hg, hown, hK⟩ := C
  exact vk_getf hx hb hE hW.2.2 hown (hg _ hl) (fun x h9 => by rw [← hr]; exact h9) hdg kk
theorem cx_gkN (C : CxX p c cc s args m D aT own) (hZ : cZ D A s s.heap) (hW : CxB D Wd A s.heap H locs) {o n d ref host : String} {index q : Nat} {v : Value} (hE : va_OF o n d v q A s s.heap) (hl : Cond.fieldLinkNest own index ref n d host ∈ nw) (hr : o = ref) (hdg : decode cc pc = .ok (.getfield index, 3)) (kk : W p l e R s m args below meth c H locs cells slots Q (F0 m (pc + 3) ls (v :: rest))) : W p l e R s m args below meth c H locs cells slots Q (F0 m pc ls (.ref q :: rest)) := by
  obtain ⟨hx, hb, hg, hown, hK⟩ := C
  exact vk_getfN hx hb hE hW.2.2 hown (va_Nw.use (nw_tab hl) (hZ.1 _ hl)) (fun x h9 => by rw [← hr]; exact h9) hdg kk
theorem va_O3 {E : String} {t : Nat} {U : State} {K : Heap} (h : va_O E t A U K) : ∃ cell : Cell, K[t]? = some cell ∧ cell.vm.isStatics = false ∧ U.vm.findClass E = some cell.cls := by
  obtain ⟨cell, h1, h2, h3, -⟩ := h
  exact ⟨cell, h1, h2, h3⟩
theorem gdU {own C owner : String} {idx : Nat} {x y : MethodName} {b : ByteArray} {L : Nat} {ret : Option FieldType} (h1 : Cond.methodLink own idx x ∈ gw) (h2 : Cond.sameMethod x.cls owner x.name x.desc ∈ gw) (h3 : Cond.selects C x y ∈ gw) (h4 : Cond.instanceMethod y ∈ gw) (h6 : Cond.initialized y.cls ∈ gw) (h5 : Cond.code y b L ret ∈ gw) : GoodIn gw (va_wsU own idx C owner x y (Cond.code y b L ret :: gw)) := by
  intro w hw
  have h : w ∈ gw := by
    unfold va_wsU at hw
    simp only [List.cons_append, List.nil_append, List.mem_cons] at hw
    rcases hw with rfl | rfl | rfl | rfl | rfl | rfl | hw
    · exact h1
    · exact h2
    · exact h3
    · exact h4
    · exact h6
    · exact h5
    · exact hw
  exact ⟨h, gw_good w h⟩
section
variable {y : MethodName} {b : ByteArray} {L : Nat} {ret : Option FieldType} {fr mc1 ms1 lo idx n : Nat} {As st : List Value} {Wc : va_W} {Qk : CxQ} {PX1 : String → va_W → Prop} {Cn : String}
theorem cx_runVO (C : CxX p c cc s args m D aT own) (hml : c.maxLocals = nL) (hls : ls.size = nL) (hZ : cZ D A s s.heap) (hW : CxB D Wd A s.heap H locs) (hA : ∀ q, s.heap.size ≤ q → A q) (hM : CxG l y b L ret fr mc1 ms1 lo D aT (.ref a :: As) Wc Qk PX1)
    (hT : GoodIn gw (wsV own idx Cn y (Cond.code y b L ret :: gw))) (hd : y.cls = Cn ∧ y.cls ≠ "java/lang/invoke/MethodHandle" ∧ y.cls ≠ "java/lang/invoke/VarHandle" ∧ (parseMethodDescriptor y.desc).map (fun d => d.parameters.length) = some n) (hn : As.length = n)
    (hR : fr + 1 ≤ R.frames ∧ 8 + (L + 11) + lo ≤ R.locals) (hcs : cells + mc1 ≤ R.cells ∧ slots + ms1 ≤ R.slots) (is : List Nat) (his : is.map (fun i => Wd[i]?) = Wc.map some) (hnd : va_nd is = true) (hrec : va_O Cn a A s s.heap)
    (hst : st = As.reverse ++ .ref a :: rest) (hw : (rest.map fun v => v.category).sum ≤ 8) (hdg : decode cc pc = .ok (.invokevirtual idx, 3)) : vx_Run p l e R s m args below meth c H locs cells slots mc1 ms1 (F0 m pc ls st) rest (Qk (va_A Wc H.size) (Value.ref a :: As).toArray) (cxX D aT PX1 (va_A Wc H.size)) (va_A Wc H.size) := by
  have C' := C
  obtain ⟨hx, hb, hg, hown, hK⟩ := C
  subst hst
  exact vx_runV (As := As) (rest := rest) ⟨hx, hb, hml, hown, hg⟩ (hM H.size) (cwV n hg hT rfl rfl rfl hd hR) ⟨cx_blind _ _, va_O3 (hrec.kept hW.2.2.2.1), fun U hU hw => ⟨rfl, cx_sub C' hZ hW hA is his hnd hU hw⟩⟩ rfl hn hls rfl (lv_room hw) hdg hcs
theorem cx_runUO (C : CxX p c cc s args m D aT own) (hml : c.maxLocals = nL) (hls : ls.size = nL) (hZ : cZ D A s s.heap) (hW : CxB D Wd A s.heap H locs) (hA : ∀ q, s.heap.size ≤ q → A q) (hM : CxG l y b L ret fr mc1 ms1 lo D aT (.ref a :: As) Wc Qk PX1) {x : MethodName} {owner : String}
    (hT : GoodIn gw (va_wsU own idx Cn owner x y (Cond.code y b L ret :: gw))) (hyx : y = ⟨owner, x.name, x.desc⟩) (hd : owner ≠ "java/lang/invoke/MethodHandle" ∧ owner ≠ "java/lang/invoke/VarHandle" ∧ (parseMethodDescriptor x.desc).map (fun d => d.parameters.length) = some n) (hn : As.length = n)
    (hR : fr + 1 ≤ R.frames ∧ 8 + (L + 11) + lo ≤ R.locals) (hcs : cells + mc1 ≤ R.cells ∧ slots + ms1 ≤ R.slots) (is : List Nat) (his : is.map (fun i => Wd[i]?) = Wc.map some) (hnd : va_nd is = true) (hrec : va_O Cn a A s s.heap)
    (hst : st = As.reverse ++ .ref a :: rest) (hw : (rest.map fun v => v.category).sum ≤ 8) (hdg : decode cc pc = .ok (.invokevirtual idx, 3)) : vx_Run p l e R s m args below meth c H locs cells slots mc1 ms1 (F0 m pc ls st) rest (Qk (va_A Wc H.size) (Value.ref a :: As).toArray) (cxX D aT PX1 (va_A Wc H.size)) (va_A Wc H.size) := by
  have C' := C
  obtain ⟨hx, hb, hg, hown, hK⟩ := C
  subst hst
  exact vx_runU (As := As) (rest := rest) ⟨hx, hb, hml, hown, hg⟩ (hM H.size) (va_cwU n hg hT rfl rfl rfl hyx hd hR) ⟨cx_blind _ _, va_O3 (hrec.kept hW.2.2.2.1), fun U hU hw => ⟨rfl, cx_sub C' hZ hW hA is his hnd hU hw⟩⟩ rfl hn hls rfl (lv_room hw) hdg hcs
end
end CXK
theorem sh_0 (n : Int32) : n >>> (nI 0 &&& 31) = n := by
  have e : (nI 0 &&& 31 : Int32) = 0 := by decide
  rw [e]
  exact Int32.toBitVec_inj.mp (by simp)
theorem kB_and : ∀ i, i < 7 → ∀ j, j < kL.getD i 0 → ((((kB.getD i []).getD j 0) &&& nI 255).toUInt32 % 65536).toInt32 = (kB.getD i []).getD j 0 := by decide +kernel
theorem kL_le : ∀ i, i < 7 → kL.getD i 0 ≤ 11 := by decide
theorem isD_lo {x : Int32} (h : x < nI 48) : isD x = false := rg_lo (a := nI 48) (b := nI 57) (by decide) (by decide) h
theorem isD_hi {x : Int32} (h : nI 57 < x) : isD x = false := rg_hi (a := nI 48) (b := nI 57) (by decide) (by decide) h
theorem isD_in {x : Int32} (h : ¬ x < nI 48) (h2 : ¬ nI 57 < x) : isD x = true := rg_in (a := nI 48) (b := nI 57) (by decide) (by decide) h h2
theorem kB_nar : ∀ i, i < 7 → ∀ j, j < kL.getD i 0 → narrow .char (.int ((kB.getD i []).getD j 0)) = .int ((kB.getD i []).getD j 0) := by decide +kernel
theorem kd_no {n at_ : Nat} {f : Nat → Int32} (h0 : nI 104 ≠ f at_) (h1 : nI 109 ≠ f at_) (h2 : nI 97 ≠ f at_) (h3 : nI 112 ≠ f at_) (h4 : nI 114 ≠ f at_) (h5 : nI 118 ≠ f at_) (h6 : nI 115 ≠ f at_) : ∀ w, w < 7 → ¬ (at_ < n ∧ f at_ = nI (ltN (bgN w))) := by
  intro w hw z
  have z2 := z.2.symm
  rcases (show w = 0 ∨ w = 1 ∨ w = 2 ∨ w = 3 ∨ w = 4 ∨ w = 5 ∨ w = 6 by omega) with rfl | rfl | rfl | rfl | rfl | rfl | rfl
  · exact h0 z2
  · exact h1 z2
  · exact h2 z2
  · exact h3 z2
  · exact h4 z2
  · exact h5 z2
  · exact h6 z2
theorem num_as (a x : Int32) : nI 10 * a + x - nI 48 = nI 10 * a + (x - nI 48) := by rw [Int32.sub_eq_add_neg, Int32.sub_eq_add_neg, Int32.add_assoc]
theorem dJ3_checkIndex_8e157_0 : decode cJ3_checkIndex_8e157 0 = .ok (.iload_n 0, 1) := by decide +kernel
theorem dJ3_checkIndex_8e157_1 : decode cJ3_checkIndex_8e157 1 = .ok (.ifCond .lt 8, 3) := by decide +kernel
theorem dJ3_checkIndex_8e157_4 : decode cJ3_checkIndex_8e157 4 = .ok (.iload_n 0, 1) := by decide +kernel
theorem dJ3_checkIndex_8e157_5 : decode cJ3_checkIndex_8e157 5 = .ok (.iload_n 1, 1) := by decide +kernel
theorem dJ3_checkIndex_8e157_6 : decode cJ3_checkIndex_8e157 6 = .ok (.if_icmp .lt 10, 3) := by decide +kernel
theorem dJ3_checkIndex_8e157_9 : decode cJ3_checkIndex_8e157 9 = .ok (.aload_n 2, 1) := by decide +kernel
theorem dJ3_checkIndex_8e157_10 : decode cJ3_checkIndex_8e157 10 = .ok (.iload_n 0, 1) := by decide +kernel
theorem dJ3_checkIndex_8e157_11 : decode cJ3_checkIndex_8e157 11 = .ok (.iload_n 1, 1) := by decide +kernel
theorem dJ3_checkIndex_8e157_12 : decode cJ3_checkIndex_8e157 12 = .ok (.invokestatic 95, 3) := by decide +kernel
theorem dJ3_checkIndex_8e157_15 : decode cJ3_checkIndex_8e157 15 = .ok (.athrow, 1) := by decide +kernel
theorem dJ3_checkIndex_8e157_16 : decode cJ3_checkIndex_8e157 16 = .ok (.iload_n 0, 1) := by decide +kernel
theorem dJ3_checkIndex_8e157_17 : decode cJ3_checkIndex_8e157 17 = .ok (.ireturn, 1) := by decide +kernel
set_option maxHeartbeats 2000000 in
set_option maxRecDepth 20000 in
theorem k_J3_checkIndex_n (l : Launch) (hfl : l.stackTraces = false) (D : va_G) (aT : Nat → ClassId) (i : Nat) (j : Nat) (hij : i < j) (hj2 : j < 2 ^ 31) : CxG l yJ3_checkIndex_8e157 cJ3_checkIndex_8e157 3 (some (.int)) 0 0 0 0 D aT [.int (nI i), .int (nI j), .null] [] (qI D aT (fun r W1 => r = nI i ∧ W1 = [])) (fun _ _ => False) := by
  refine CxG.of RJ3 (by decide +kernel) rfl (Nat.le_of_ble_eq_true rfl) ?_
  intro p e s m below meth c A ls C hml hl hA hr hlocks hex hnm hZ hW
  have hl : lv_has ls 3 [(0, .int (nI i)), (1, .int (nI j)), (2, .null)] := hl
  have hx := C.1
  have hb := C.2.1
  refine lv_iload_n hx hb dJ3_checkIndex_8e157_0 rfl (lv_at hl 0 rfl) ?_
  refine lv_if_lt hx hb (x := (nI i)) (tgt := 9) dJ3_checkIndex_8e157_1 (by decide) (fun c_1 => ?_) (fun c_1 => ?_)
  · exact absurd c_1 (nI_pos (by omega))
  · refine lv_iload_n hx hb dJ3_checkIndex_8e157_4 rfl (lv_at hl 0 rfl) ?_
    refine lv_iload_n hx hb dJ3_checkIndex_8e157_5 rfl (lv_at hl 1 rfl) ?_
    refine r_ltN hx hb (a := i) (b := j) (by omega) (by omega) (tgt := 16) dJ3_checkIndex_8e157_6 (by decide) (fun c_6 => ?_) (fun c_6 => ?_)
    · refine lv_iload_n hx hb dJ3_checkIndex_8e157_16 rfl (lv_at hl 0 rfl) ?_
      exact cx_iret C hr hlocks rfl hW ⟨Nat.le_of_ble_eq_true rfl, Nat.le_of_ble_eq_true rfl⟩ (⟨rfl, rfl⟩) dJ3_checkIndex_8e157_17
    · exact absurd hij (by omega)
set_option maxHeartbeats 2000000 in
set_option maxRecDepth 20000 in
theorem k_J3_checkIndex_r (l : Launch) (hfl : l.stackTraces = false) (D : va_G) (aT : Nat → ClassId) (i : Nat) (j : Nat) (hij : i < j) (hj2 : j < 2 ^ 31) (fm : Nat) : CxG l yJ3_checkIndex_8e157 cJ3_checkIndex_8e157 3 (some (.int)) 0 0 0 0 D aT [.int (nI i), .int (nI j), .ref fm] [] (qI D aT (fun r W1 => r = nI i ∧ W1 = [])) (fun _ _ => False) := by
  refine CxG.of RJ3 (by decide +kernel) rfl (Nat.le_of_ble_eq_true rfl) ?_
  intro p e s m below meth c A ls C hml hl hA hr hlocks hex hnm hZ hW
  have hl : lv_has ls 3 [(0, .int (nI i)), (1, .int (nI j)), (2, .ref fm)] := hl
  have hx := C.1
  have hb := C.2.1
  refine lv_iload_n hx hb dJ3_checkIndex_8e157_0 rfl (lv_at hl 0 rfl) ?_
  refine lv_if_lt hx hb (x := (nI i)) (tgt := 9) dJ3_checkIndex_8e157_1 (by decide) (fun c_1 => ?_) (fun c_1 => ?_)
  · exact absurd c_1 (nI_pos (by omega))
  · refine lv_iload_n hx hb dJ3_checkIndex_8e157_4 rfl (lv_at hl 0 rfl) ?_
    refine lv_iload_n hx hb dJ3_checkIndex_8e157_5 rfl (lv_at hl 1 rfl) ?_
    refine r_ltN hx hb (a := i) (b := j) (by omega) (by omega) (tgt := 16) dJ3_checkIndex_8e157_6 (by decide) (fun c_6 => ?_) (fun c_6 => ?_)
    · refine lv_iload_n hx hb dJ3_checkIndex_8e157_16 rfl (lv_at hl 0 rfl) ?_
      exact cx_iret C hr hlocks rfl hW ⟨Nat.le_of_ble_eq_true rfl, Nat.le_of_ble_eq_true rfl⟩ (⟨rfl, rfl⟩) dJ3_checkIndex_8e157_17
    · exact absurd hij (by omega)
theorem dJ15_checkIndex_7cf53_0 : decode cJ15_checkIndex_7cf53 0 = .ok (.iload_n 0, 1) := by decide +kernel
theorem dJ15_checkIndex_7cf53_1 : decode cJ15_checkIndex_7cf53 1 = .ok (.iload_n 1, 1) := by decide +kernel
theorem dJ15_checkIndex_7cf53_2 : decode cJ15_checkIndex_7cf53 2 = .ok (.aconst_null, 1) := by decide +kernel
theorem dJ15_checkIndex_7cf53_3 : decode cJ15_checkIndex_7cf53 3 = .ok (.invokestatic 105, 3) := by decide +kernel
theorem dJ15_checkIndex_7cf53_6 : decode cJ15_checkIndex_7cf53 6 = .ok (.ireturn, 1) := by decide +kernel
theorem gS_J15_J3_checkIndex_8e157_105 : GoodIn gw (va_wsS RJ15 105 yJ3_checkIndex_8e157 (Cond.code yJ3_checkIndex_8e157 cJ3_checkIndex_8e157 3 (some .int) :: gw)) := gdS2 gw_1295 gw_1148 gw_96 gw_1149
theorem hS_J3_checkIndex_8e157 : yJ3_checkIndex_8e157.cls ≠ "java/lang/invoke/MethodHandle" ∧ yJ3_checkIndex_8e157.cls ≠ "java/lang/invoke/VarHandle" ∧ (parseMethodDescriptor yJ3_checkIndex_8e157.desc).map (fun d => d.parameters.length) = some 3 := ⟨by decide +kernel, by decide +kernel, by decide +kernel⟩
set_option maxHeartbeats 2000000 in
set_option maxRecDepth 20000 in
theorem k_J15_checkIndex_7cf53 (l : Launch) (hfl : l.stackTraces = false) (D : va_G) (aT : Nat → ClassId) (i : Nat) (j : Nat) (hij : i < j) (hj2 : j < 2 ^ 31) : CxG l yJ15_checkIndex_7cf53 cJ15_checkIndex_7cf53 2 (some (.int)) 1 0 0 22 D aT [.int (nI i), .int (nI j)] [] (qI D aT (fun r W1 => r = nI i ∧ W1 = [])) (fun _ _ => False) := by
  refine CxG.of RJ15 (by decide +kernel) rfl (Nat.le_of_ble_eq_true rfl) ?_
  intro p e s m below meth c A ls C hml hl hA hr hlocks hex hnm hZ hW
  have hl : lv_has ls 2 [(0, .int (nI i)), (1, .int (nI j))] := hl
  have hx := C.1
  have hb := C.2.1
  refine lv_iload_n hx hb dJ15_checkIndex_7cf53_0 rfl (lv_at hl 0 rfl) ?_
  refine lv_iload_n hx hb dJ15_checkIndex_7cf53_1 rfl (lv_at hl 1 rfl) ?_
  refine lv_null hx hb dJ15_checkIndex_7cf53_2 ?_
  refine cx_calli (Wr := []) (cx_runS C hml hl.1 hZ hW hA (As := [.int (nI i), .int (nI j), .null]) (rest := []) (k_J3_checkIndex_n l hfl D aT i j hij hj2) gS_J15_J3_checkIndex_8e157_105 hS_J3_checkIndex_8e157 rfl ⟨Nat.le_of_ble_eq_true rfl, Nat.le_of_ble_eq_true rfl⟩ ⟨Nat.le_of_ble_eq_true rfl, Nat.le_of_ble_eq_true rfl⟩ [] rfl (by decide) rfl (Nat.le_of_ble_eq_true rfl) dJ15_checkIndex_7cf53_3) hW hA [] [] rfl rfl (by decide) (by decide) (fun _ _ _ _ _ _ h9 => h9.elim) (fun r_3 W_3 H locs hq hW => ?_)
  obtain ⟨rfl, rfl⟩ := hq
  have hW : CxB D [] A s.heap H _ := hW
  exact cx_iret C hr hlocks rfl hW ⟨Nat.le_of_ble_eq_true rfl, Nat.le_of_ble_eq_true rfl⟩ (⟨rfl, rfl⟩) dJ15_checkIndex_7cf53_6
theorem dJ0_checkIndex_df160_0 : decode cJ0_checkIndex_df160 0 = .ok (.iload_n 0, 1) := by decide +kernel
theorem dJ0_checkIndex_df160_1 : decode cJ0_checkIndex_df160 1 = .ok (.iload_n 1, 1) := by decide +kernel
theorem dJ0_checkIndex_df160_2 : decode cJ0_checkIndex_df160 2 = .ok (.getstatic 1053, 3) := by decide +kernel
theorem dJ0_checkIndex_df160_5 : decode cJ0_checkIndex_df160 5 = .ok (.invokestatic 1059, 3) := by decide +kernel
theorem dJ0_checkIndex_df160_8 : decode cJ0_checkIndex_df160 8 = .ok (.pop, 1) := by decide +kernel
theorem dJ0_checkIndex_df160_9 : decode cJ0_checkIndex_df160 9 = .ok (.return_, 1) := by decide +kernel
theorem gS_J0_J3_checkIndex_8e157_1059 : GoodIn gw (va_wsS RJ0 1059 yJ3_checkIndex_8e157 (Cond.code yJ3_checkIndex_8e157 cJ3_checkIndex_8e157 3 (some .int) :: gw)) := gdS2 gw_1147 gw_1148 gw_96 gw_1149
set_option maxHeartbeats 2000000 in
set_option maxRecDepth 20000 in
theorem k_J0_checkIndex_df160 (l : Launch) (hfl : l.stackTraces = false) (D : va_G) (aT : Nat → ClassId) (i : Nat) (j : Nat) (hij : i < j) (hj2 : j < 2 ^ 31) : CxG l yJ0_checkIndex_df160 cJ0_checkIndex_df160 2 none 1 0 0 22 D aT [.int (nI i), .int (nI j)] [] (qV D aT (fun W1 => W1 = [])) (fun _ _ => False) := by
  refine CxG.of RJ0 (by decide +kernel) rfl (Nat.le_of_ble_eq_true rfl) ?_
  intro p e s m below meth c A ls C hml hl hA hr hlocks hex hnm hZ hW
  have hl : lv_has ls 2 [(0, .int (nI i)), (1, .int (nI j))] := hl
  have hx := C.1
  have hb := C.2.1
  refine lv_iload_n hx hb dJ0_checkIndex_df160_0 rfl (lv_at hl 0 rfl) ?_
  refine lv_iload_n hx hb dJ0_checkIndex_df160_1 rfl (lv_at hl 1 rfl) ?_
  rcases hZ.2.2.2.2.2.2.2.2.2.2.2.2.2.1 with z9 | ⟨t9, z9⟩
  · refine va_gets hx hb z9 hW.2.2 C.2.2.2.1 (C.2.2.1 _ gw_1145) (fun _ h9 => h9) dJ0_checkIndex_df160_2 ?_
    refine cx_calli (Wr := []) (cx_runS C hml hl.1 hZ hW hA (As := [.int (nI i), .int (nI j), .null]) (rest := []) (k_J3_checkIndex_n l hfl D aT i j hij hj2) gS_J0_J3_checkIndex_8e157_1059 hS_J3_checkIndex_8e157 rfl ⟨Nat.le_of_ble_eq_true rfl, Nat.le_of_ble_eq_true rfl⟩ ⟨Nat.le_of_ble_eq_true rfl, Nat.le_of_ble_eq_true rfl⟩ [] rfl (by decide) rfl (Nat.le_of_ble_eq_true rfl) dJ0_checkIndex_df160_5) hW hA [] [] rfl rfl (by decide) (by decide) (fun _ _ _ _ _ _ h9 => h9.elim) (fun r_5 W_5 H locs hq hW => ?_)
    obtain ⟨rfl, rfl⟩ := hq
    have hW : CxB D [] A s.heap H _ := hW
    refine lv_pop hx hb dJ0_checkIndex_df160_8 rfl ?_
    exact cx_vret C hr hlocks hW ⟨Nat.le_of_ble_eq_true rfl, Nat.le_of_ble_eq_true rfl⟩ (rfl) dJ0_checkIndex_df160_9
  · refine va_gets hx hb z9 hW.2.2 C.2.2.2.1 (C.2.2.1 _ gw_1145) (fun _ h9 => h9) dJ0_checkIndex_df160_2 ?_
    refine cx_calli (Wr := []) (cx_runS C hml hl.1 hZ hW hA (As := [.int (nI i), .int (nI j), .ref t9]) (rest := []) (k_J3_checkIndex_r l hfl D aT i j hij hj2 t9) gS_J0_J3_checkIndex_8e157_1059 hS_J3_checkIndex_8e157 rfl ⟨Nat.le_of_ble_eq_true rfl, Nat.le_of_ble_eq_true rfl⟩ ⟨Nat.le_of_ble_eq_true rfl, Nat.le_of_ble_eq_true rfl⟩ [] rfl (by decide) rfl (Nat.le_of_ble_eq_true rfl) dJ0_checkIndex_df160_5) hW hA [] [] rfl rfl (by decide) (by decide) (fun _ _ _ _ _ _ h9 => h9.elim) (fun r_5 W_5 H locs hq hW => ?_)
    obtain ⟨rfl, rfl⟩ := hq
    have hW : CxB D [] A s.heap H _ := hW
    refine lv_pop hx hb dJ0_checkIndex_df160_8 rfl ?_
    exact cx_vret C hr hlocks hW ⟨Nat.le_of_ble_eq_true rfl, Nat.le_of_ble_eq_true rfl⟩ (rfl) dJ0_checkIndex_df160_9
theorem dJ0_isLatin1_aae02_0 : decode cJ0_isLatin1_aae02 0 = .ok (.getstatic 38, 3) := by decide +kernel
theorem dJ0_isLatin1_aae02_3 : decode cJ0_isLatin1_aae02 3 = .ok (.ifCond .eq 14, 3) := by decide +kernel
theorem dJ0_isLatin1_aae02_6 : decode cJ0_isLatin1_aae02 6 = .ok (.aload_n 0, 1) := by decide +kernel
theorem dJ0_isLatin1_aae02_7 : decode cJ0_isLatin1_aae02 7 = .ok (.getfield 15, 3) := by decide +kernel
theorem dJ0_isLatin1_aae02_10 : decode cJ0_isLatin1_aae02 10 = .ok (.ifCond .ne 7, 3) := by decide +kernel
theorem dJ0_isLatin1_aae02_13 : decode cJ0_isLatin1_aae02 13 = .ok (.iconst 1, 1) := by decide +kernel
theorem dJ0_isLatin1_aae02_14 : decode cJ0_isLatin1_aae02 14 = .ok (.goto 4, 3) := by decide +kernel
theorem dJ0_isLatin1_aae02_17 : decode cJ0_isLatin1_aae02 17 = .ok (.iconst 0, 1) := by decide +kernel
theorem dJ0_isLatin1_aae02_18 : decode cJ0_isLatin1_aae02 18 = .ok (.ireturn, 1) := by decide +kernel
set_option maxHeartbeats 2000000 in
set_option maxRecDepth 20000 in
theorem k_J0_isLatin1_aae02 (l : Launch) (hfl : l.stackTraces = false) (D : va_G) (aT : Nat → ClassId) (i : Nat) (hi7 : i < 7) : CxG l yJ0_isLatin1_aae02 cJ0_isLatin1_aae02 1 (some (.boolean)) 0 0 0 0 D aT [.ref (zs D (20 + i))] [] (qI D aT (fun r W1 => r = nI 1 ∧ W1 = [])) (fun _ _ => False) := by
  refine CxG.of RJ0 (by decide +kernel) rfl (Nat.le_of_ble_eq_true rfl) ?_
  intro p e s m below meth c A ls C hml hl hA hr hlocks hex hnm hZ hW
  have hl : lv_has ls 1 [(0, .ref (zs D (20 + i)))] := hl
  have hx := C.1
  have hb := C.2.1
  refine va_gets hx hb hZ.2.2.2.2.2.2.1 hW.2.2 C.2.2.2.1 (C.2.2.1 _ gw_1138) (fun _ h9 => h9) dJ0_isLatin1_aae02_0 ?_
  refine lv_if_eq hx hb (x := 1) (tgt := 17) dJ0_isLatin1_aae02_3 (by decide) (fun c_3 => ?_) (fun c_3 => ?_)
  · exact absurd c_3 (by decide)
  · refine lv_aload_n hx hb dJ0_isLatin1_aae02_6 rfl (lv_at hl 0 rfl) ?_
    refine cx_gk C hW (v := .int (nI 0)) (q := (zs D (20 + i))) (show va_OF "java/lang/String" "coder" "B" (.int (nI 0)) (zs D (20 + i)) A s s.heap from (hZ.2.2.2.2.2.2.2.2.2.2.1.2.2.2.2.2.1.1 i hi7).2.1) gw_1521 rfl dJ0_isLatin1_aae02_7 ?_
    refine lv_if_ne hx hb (x := (nI 0)) (tgt := 17) dJ0_isLatin1_aae02_10 (by decide) (fun c_10 => ?_) (fun c_10 => ?_)
    · exact absurd rfl c_10
    · refine lv_iconst (v := nI 1) hx hb dJ0_isLatin1_aae02_13 (by decide) ?_
      refine lv_goto (tgt := 18) hx hb dJ0_isLatin1_aae02_14 (by decide) ?_
      exact cx_iret C hr hlocks (by decide) hW ⟨Nat.le_of_ble_eq_true rfl, Nat.le_of_ble_eq_true rfl⟩ (⟨rfl, rfl⟩) dJ0_isLatin1_aae02_18
theorem dJ0_coder_7d493_0 : decode cJ0_coder_7d493 0 = .ok (.getstatic 38, 3) := by decide +kernel
theorem dJ0_coder_7d493_3 : decode cJ0_coder_7d493 3 = .ok (.ifCond .eq 10, 3) := by decide +kernel
theorem dJ0_coder_7d493_6 : decode cJ0_coder_7d493 6 = .ok (.aload_n 0, 1) := by decide +kernel
theorem dJ0_coder_7d493_7 : decode cJ0_coder_7d493 7 = .ok (.getfield 15, 3) := by decide +kernel
theorem dJ0_coder_7d493_10 : decode cJ0_coder_7d493 10 = .ok (.goto 4, 3) := by decide +kernel
theorem dJ0_coder_7d493_13 : decode cJ0_coder_7d493 13 = .ok (.iconst 1, 1) := by decide +kernel
theorem dJ0_coder_7d493_14 : decode cJ0_coder_7d493 14 = .ok (.ireturn, 1) := by decide +kernel
set_option maxHeartbeats 2000000 in
set_option maxRecDepth 20000 in
theorem k_J0_coder_7d493 (l : Launch) (hfl : l.stackTraces = false) (D : va_G) (aT : Nat → ClassId) (i : Nat) (hi7 : i < 7) : CxG l yJ0_coder_7d493 cJ0_coder_7d493 1 (some (.byte)) 0 0 0 0 D aT [.ref (zs D (20 + i))] [] (qI D aT (fun r W1 => r = nI 0 ∧ W1 = [])) (fun _ _ => False) := by
  refine CxG.of RJ0 (by decide +kernel) rfl (Nat.le_of_ble_eq_true rfl) ?_
  intro p e s m below meth c A ls C hml hl hA hr hlocks hex hnm hZ hW
  have hl : lv_has ls 1 [(0, .ref (zs D (20 + i)))] := hl
  have hx := C.1
  have hb := C.2.1
  refine va_gets hx hb hZ.2.2.2.2.2.2.1 hW.2.2 C.2.2.2.1 (C.2.2.1 _ gw_1138) (fun _ h9 => h9) dJ0_coder_7d493_0 ?_
  refine lv_if_eq hx hb (x := 1) (tgt := 13) dJ0_coder_7d493_3 (by decide) (fun c_3 => ?_) (fun c_3 => ?_)
  · exact absurd c_3 (by decide)
  · refine lv_aload_n hx hb dJ0_coder_7d493_6 rfl (lv_at hl 0 rfl) ?_
    refine cx_gk C hW (v := .int (nI 0)) (q := (zs D (20 + i))) (show va_OF "java/lang/String" "coder" "B" (.int (nI 0)) (zs D (20 + i)) A s s.heap from (hZ.2.2.2.2.2.2.2.2.2.2.1.2.2.2.2.2.1.1 i hi7).2.1) gw_1521 rfl dJ0_coder_7d493_7 ?_
    refine lv_goto (tgt := 14) hx hb dJ0_coder_7d493_10 (by decide) ?_
    exact cx_iret C hr hlocks (by decide) hW ⟨Nat.le_of_ble_eq_true rfl, Nat.le_of_ble_eq_true rfl⟩ (⟨rfl, rfl⟩) dJ0_coder_7d493_14
theorem dJ0_length_8abf5_0 : decode cJ0_length_8abf5 0 = .ok (.aload_n 0, 1) := by decide +kernel
theorem dJ0_length_8abf5_1 : decode cJ0_length_8abf5 1 = .ok (.getfield 9, 3) := by decide +kernel
theorem dJ0_length_8abf5_4 : decode cJ0_length_8abf5 4 = .ok (.arraylength, 1) := by decide +kernel
theorem dJ0_length_8abf5_5 : decode cJ0_length_8abf5 5 = .ok (.aload_n 0, 1) := by decide +kernel
theorem dJ0_length_8abf5_6 : decode cJ0_length_8abf5 6 = .ok (.invokevirtual 335, 3) := by decide +kernel
theorem dJ0_length_8abf5_9 : decode cJ0_length_8abf5 9 = .ok (.ishr, 1) := by decide +kernel
theorem dJ0_length_8abf5_10 : decode cJ0_length_8abf5 10 = .ok (.ireturn, 1) := by decide +kernel
theorem gV_J0_J0_coder_7d493_335 : GoodIn gw (wsV RJ0 335 RJ0 yJ0_coder_7d493 (Cond.code yJ0_coder_7d493 cJ0_coder_7d493 1 (some .byte) :: gw)) := gdV gw_1174 gw_1175 gw_1176 gw_79 gw_1177
theorem hV_J0_coder_7d493 : yJ0_coder_7d493.cls = RJ0 ∧ yJ0_coder_7d493.cls ≠ "java/lang/invoke/MethodHandle" ∧ yJ0_coder_7d493.cls ≠ "java/lang/invoke/VarHandle" ∧ (parseMethodDescriptor yJ0_coder_7d493.desc).map (fun d => d.parameters.length) = some 0 := ⟨rfl, by decide +kernel, by decide +kernel, by decide +kernel⟩
set_option maxHeartbeats 2000000 in
set_option maxRecDepth 20000 in
theorem k_J0_length_8abf5 (l : Launch) (hfl : l.stackTraces = false) (D : va_G) (aT : Nat → ClassId) (i : Nat) (hi7 : i < 7) : CxG l yJ0_length_8abf5 cJ0_length_8abf5 1 (some (.int)) 1 0 0 20 D aT [.ref (zs D (20 + i))] [] (qI D aT (fun r W1 => r = nI (kL.getD i 0) ∧ W1 = [])) (fun _ _ => False) := by
  refine CxG.of RJ0 (by decide +kernel) rfl (Nat.le_of_ble_eq_true rfl) ?_
  intro p e s m below meth c A ls C hml hl hA hr hlocks hex hnm hZ hW
  have hl : lv_has ls 1 [(0, .ref (zs D (20 + i)))] := hl
  have hx := C.1
  have hb := C.2.1
  refine lv_aload_n hx hb dJ0_length_8abf5_0 rfl (lv_at hl 0 rfl) ?_
  refine cx_gk C hW (v := .ref (zs D (30 + i))) (q := (zs D (20 + i))) (show va_OF "java/lang/String" "value" "[B" (.ref (zs D (30 + i))) (zs D (20 + i)) A s s.heap from (hZ.2.2.2.2.2.2.2.2.2.2.1.2.2.2.2.2.1.1 i hi7).2.2.1) gw_1520 rfl dJ0_length_8abf5_1 ?_
  refine va_tlen (v := nI (kL.getD i 0)) hx hb ((hZ.2.2.2.2.2.2.2.2.2.2.1.2.2.2.2.2.1.1 i hi7).2.2.2) hW.2.2 rfl dJ0_length_8abf5_4 ?_
  refine lv_aload_n hx hb dJ0_length_8abf5_5 rfl (lv_at hl 0 rfl) ?_
  refine cx_calli (Wr := []) (cx_runVO C hml hl.1 hZ hW hA (As := []) (rest := [.int (nI (kL.getD i 0))]) (k_J0_coder_7d493 l hfl D aT i hi7) gV_J0_J0_coder_7d493_335 hV_J0_coder_7d493 rfl ⟨Nat.le_of_ble_eq_true rfl, Nat.le_of_ble_eq_true rfl⟩ ⟨Nat.le_of_ble_eq_true rfl, Nat.le_of_ble_eq_true rfl⟩ [] rfl (by decide) ((hZ.2.2.2.2.2.2.2.2.2.2.1.2.2.2.2.2.1.1 i hi7).1) rfl (Nat.le_of_ble_eq_true rfl) dJ0_length_8abf5_6) hW hA [] [] rfl rfl (by decide) (by decide) (fun _ _ _ _ _ _ h9 => h9.elim) (fun r_6 W_6 H locs hq hW => ?_)
  obtain ⟨rfl, rfl⟩ := hq
  have hW : CxB D [] A s.heap H _ := hW
  refine lv_ishr hx hb dJ0_length_8abf5_9 ?_
  refine r_eq (y := (nI (kL.getD i 0))) (sh_0 _) ?_
  exact cx_iret C hr hlocks rfl hW ⟨Nat.le_of_ble_eq_true rfl, Nat.le_of_ble_eq_true rfl⟩ (⟨rfl, rfl⟩) dJ0_length_8abf5_10
theorem dJ1_charAt_3b067_0 : decode cJ1_charAt_3b067 0 = .ok (.iload_n 1, 1) := by decide +kernel
theorem dJ1_charAt_3b067_1 : decode cJ1_charAt_3b067 1 = .ok (.aload_n 0, 1) := by decide +kernel
theorem dJ1_charAt_3b067_2 : decode cJ1_charAt_3b067 2 = .ok (.arraylength, 1) := by decide +kernel
theorem dJ1_charAt_3b067_3 : decode cJ1_charAt_3b067 3 = .ok (.invokestatic 9, 3) := by decide +kernel
theorem dJ1_charAt_3b067_6 : decode cJ1_charAt_3b067 6 = .ok (.aload_n 0, 1) := by decide +kernel
theorem dJ1_charAt_3b067_7 : decode cJ1_charAt_3b067 7 = .ok (.iload_n 1, 1) := by decide +kernel
theorem dJ1_charAt_3b067_8 : decode cJ1_charAt_3b067 8 = .ok (.baload, 1) := by decide +kernel
theorem dJ1_charAt_3b067_9 : decode cJ1_charAt_3b067 9 = .ok (.sipush 255, 3) := by decide +kernel
theorem dJ1_charAt_3b067_12 : decode cJ1_charAt_3b067 12 = .ok (.iand, 1) := by decide +kernel
theorem dJ1_charAt_3b067_13 : decode cJ1_charAt_3b067 13 = .ok (.i2c, 1) := by decide +kernel
theorem dJ1_charAt_3b067_14 : decode cJ1_charAt_3b067 14 = .ok (.ireturn, 1) := by decide +kernel
theorem gS_J1_J0_checkIndex_df160_9 : GoodIn gw (va_wsS RJ1 9 yJ0_checkIndex_df160 (Cond.code yJ0_checkIndex_df160 cJ0_checkIndex_df160 2 (none) :: gw)) := gdS2 gw_1142 gw_1143 gw_79 gw_1144
theorem hS_J0_checkIndex_df160 : yJ0_checkIndex_df160.cls ≠ "java/lang/invoke/MethodHandle" ∧ yJ0_checkIndex_df160.cls ≠ "java/lang/invoke/VarHandle" ∧ (parseMethodDescriptor yJ0_checkIndex_df160.desc).map (fun d => d.parameters.length) = some 2 := ⟨by decide +kernel, by decide +kernel, by decide +kernel⟩
set_option maxHeartbeats 2000000 in
set_option maxRecDepth 20000 in
theorem k_J1_charAt_3b067 (l : Launch) (hfl : l.stackTraces = false) (D : va_G) (aT : Nat → ClassId) (i : Nat) (hi7 : i < 7) (j : Nat) (hjl : j < kL.getD i 0) : CxG l yJ1_charAt_3b067 cJ1_charAt_3b067 2 (some (.char)) 2 0 0 43 D aT [.ref (zs D (30 + i)), .int (nI j)] [] (qI D aT (fun r W1 => r = (kB.getD i []).getD j 0 ∧ W1 = [])) (fun _ _ => False) := by
  have h11 := kL_le i hi7
  refine CxG.of RJ1 (by decide +kernel) rfl (Nat.le_of_ble_eq_true rfl) ?_
  intro p e s m below meth c A ls C hml hl hA hr hlocks hex hnm hZ hW
  have hl : lv_has ls 2 [(0, .ref (zs D (30 + i))), (1, .int (nI j))] := hl
  have hx := C.1
  have hb := C.2.1
  refine lv_iload_n hx hb dJ1_charAt_3b067_0 rfl (lv_at hl 1 rfl) ?_
  refine lv_aload_n hx hb dJ1_charAt_3b067_1 rfl (lv_at hl 0 rfl) ?_
  refine va_tlen (v := nI (kL.getD i 0)) hx hb ((hZ.2.2.2.2.2.2.2.2.2.2.1.2.2.2.2.2.1.1 i hi7).2.2.2) hW.2.2 rfl dJ1_charAt_3b067_2 ?_
  refine cx_callv (Wr := []) (cx_runS C hml hl.1 hZ hW hA (As := [.int (nI j), .int (nI (kL.getD i 0))]) (rest := []) (k_J0_checkIndex_df160 l hfl D aT j (kL.getD i 0) hjl (by omega)) gS_J1_J0_checkIndex_df160_9 hS_J0_checkIndex_df160 rfl ⟨Nat.le_of_ble_eq_true rfl, Nat.le_of_ble_eq_true rfl⟩ ⟨Nat.le_of_ble_eq_true rfl, Nat.le_of_ble_eq_true rfl⟩ [] rfl (by decide) rfl (Nat.le_of_ble_eq_true rfl) dJ1_charAt_3b067_3) hW hA [] [] rfl rfl (by decide) (by decide) (fun _ _ _ _ _ _ h9 => h9.elim) (fun W_3 H locs hq hW => ?_)
  obtain rfl := hq
  have hW : CxB D [] A s.heap H _ := hW
  refine lv_aload_n hx hb dJ1_charAt_3b067_6 rfl (lv_at hl 0 rfl) ?_
  refine lv_iload_n hx hb dJ1_charAt_3b067_7 rfl (lv_at hl 1 rfl) ?_
  refine va_tb (v := .int ((kB.getD i []).getD j 0)) hx hb ((hZ.2.2.2.2.2.2.2.2.2.2.1.2.2.2.2.2.1.1 i hi7).2.2.2) hW.2.2 (i := nI j) (vp_in_nI (hjl) (by omega)) (by rw [nI_clamp (by omega)]) dJ1_charAt_3b067_8 ?_
  refine lv_sipush (v := nI 255) hx hb dJ1_charAt_3b067_9 (by decide) ?_
  refine lv_iand hx hb dJ1_charAt_3b067_12 ?_
  refine lv_i2c (v := ((kB.getD i []).getD j 0)) hx hb dJ1_charAt_3b067_13 (kB_and i hi7 j hjl) ?_
  exact cx_iret C hr hlocks (kB_nar i hi7 j hjl) hW ⟨Nat.le_of_ble_eq_true rfl, Nat.le_of_ble_eq_true rfl⟩ (⟨rfl, rfl⟩) dJ1_charAt_3b067_14
theorem dJ0_charAt_5068e_0 : decode cJ0_charAt_5068e 0 = .ok (.aload_n 0, 1) := by decide +kernel
theorem dJ0_charAt_5068e_1 : decode cJ0_charAt_5068e 1 = .ok (.invokevirtual 492, 3) := by decide +kernel
theorem dJ0_charAt_5068e_4 : decode cJ0_charAt_5068e 4 = .ok (.ifCond .eq 12, 3) := by decide +kernel
theorem dJ0_charAt_5068e_7 : decode cJ0_charAt_5068e 7 = .ok (.aload_n 0, 1) := by decide +kernel
theorem dJ0_charAt_5068e_8 : decode cJ0_charAt_5068e 8 = .ok (.getfield 9, 3) := by decide +kernel
theorem dJ0_charAt_5068e_11 : decode cJ0_charAt_5068e 11 = .ok (.iload_n 1, 1) := by decide +kernel
theorem dJ0_charAt_5068e_12 : decode cJ0_charAt_5068e 12 = .ok (.invokestatic 495, 3) := by decide +kernel
theorem dJ0_charAt_5068e_15 : decode cJ0_charAt_5068e 15 = .ok (.ireturn, 1) := by decide +kernel
theorem dJ0_charAt_5068e_16 : decode cJ0_charAt_5068e 16 = .ok (.aload_n 0, 1) := by decide +kernel
theorem dJ0_charAt_5068e_17 : decode cJ0_charAt_5068e 17 = .ok (.getfield 9, 3) := by decide +kernel
theorem dJ0_charAt_5068e_20 : decode cJ0_charAt_5068e 20 = .ok (.iload_n 1, 1) := by decide +kernel
theorem dJ0_charAt_5068e_21 : decode cJ0_charAt_5068e 21 = .ok (.invokestatic 498, 3) := by decide +kernel
theorem dJ0_charAt_5068e_24 : decode cJ0_charAt_5068e 24 = .ok (.ireturn, 1) := by decide +kernel
theorem gV_J0_J0_isLatin1_aae02_492 : GoodIn gw (wsV RJ0 492 RJ0 yJ0_isLatin1_aae02 (Cond.code yJ0_isLatin1_aae02 cJ0_isLatin1_aae02 1 (some .boolean) :: gw)) := gdV gw_1134 gw_1135 gw_1136 gw_79 gw_1137
theorem hV_J0_isLatin1_aae02 : yJ0_isLatin1_aae02.cls = RJ0 ∧ yJ0_isLatin1_aae02.cls ≠ "java/lang/invoke/MethodHandle" ∧ yJ0_isLatin1_aae02.cls ≠ "java/lang/invoke/VarHandle" ∧ (parseMethodDescriptor yJ0_isLatin1_aae02.desc).map (fun d => d.parameters.length) = some 0 := ⟨rfl, by decide +kernel, by decide +kernel, by decide +kernel⟩
theorem gS_J0_J1_charAt_3b067_495 : GoodIn gw (va_wsS RJ0 495 yJ1_charAt_3b067 (Cond.code yJ1_charAt_3b067 cJ1_charAt_3b067 2 (some .char) :: gw)) := gdS2 gw_1139 gw_1140 gw_95 gw_1141
theorem hS_J1_charAt_3b067 : yJ1_charAt_3b067.cls ≠ "java/lang/invoke/MethodHandle" ∧ yJ1_charAt_3b067.cls ≠ "java/lang/invoke/VarHandle" ∧ (parseMethodDescriptor yJ1_charAt_3b067.desc).map (fun d => d.parameters.length) = some 2 := ⟨by decide +kernel, by decide +kernel, by decide +kernel⟩
set_option maxHeartbeats 2000000 in
set_option maxRecDepth 20000 in
theorem k_J0_charAt_5068e (l : Launch) (hfl : l.stackTraces = false) (D : va_G) (aT : Nat → ClassId) (i : Nat) (hi7 : i < 7) (j : Nat) (hjl : j < kL.getD i 0) : CxG l yJ0_charAt_5068e cJ0_charAt_5068e 2 (some (.char)) 3 0 0 64 D aT [.ref (zs D (20 + i)), .int (nI j)] [] (qI D aT (fun r W1 => r = (kB.getD i []).getD j 0 ∧ W1 = [])) (fun _ _ => False) := by
  have h11 := kL_le i hi7
  refine CxG.of RJ0 (by decide +kernel) rfl (Nat.le_of_ble_eq_true rfl) ?_
  intro p e s m below meth c A ls C hml hl hA hr hlocks hex hnm hZ hW
  have hl : lv_has ls 2 [(0, .ref (zs D (20 + i))), (1, .int (nI j))] := hl
  have hx := C.1
  have hb := C.2.1
  refine lv_aload_n hx hb dJ0_charAt_5068e_0 rfl (lv_at hl 0 rfl) ?_
  refine cx_calli (Wr := []) (cx_runVO C hml hl.1 hZ hW hA (As := []) (rest := []) (k_J0_isLatin1_aae02 l hfl D aT i hi7) gV_J0_J0_isLatin1_aae02_492 hV_J0_isLatin1_aae02 rfl ⟨Nat.le_of_ble_eq_true rfl, Nat.le_of_ble_eq_true rfl⟩ ⟨Nat.le_of_ble_eq_true rfl, Nat.le_of_ble_eq_true rfl⟩ [] rfl (by decide) ((hZ.2.2.2.2.2.2.2.2.2.2.1.2.2.2.2.2.1.1 i hi7).1) rfl (Nat.le_of_ble_eq_true rfl) dJ0_charAt_5068e_1) hW hA [] [] rfl rfl (by decide) (by decide) (fun _ _ _ _ _ _ h9 => h9.elim) (fun r_1 W_1 H locs hq hW => ?_)
  obtain ⟨rfl, rfl⟩ := hq
  have hW : CxB D [] A s.heap H _ := hW
  refine lv_if_eq hx hb (x := (nI 1)) (tgt := 16) dJ0_charAt_5068e_4 (by decide) (fun c_4 => ?_) (fun c_4 => ?_)
  · exact absurd c_4 (by decide)
  · refine lv_aload_n hx hb dJ0_charAt_5068e_7 rfl (lv_at hl 0 rfl) ?_
    refine cx_gk C hW (v := .ref (zs D (30 + i))) (q := (zs D (20 + i))) (show va_OF "java/lang/String" "value" "[B" (.ref (zs D (30 + i))) (zs D (20 + i)) A s s.heap from (hZ.2.2.2.2.2.2.2.2.2.2.1.2.2.2.2.2.1.1 i hi7).2.2.1) gw_1520 rfl dJ0_charAt_5068e_8 ?_
    refine lv_iload_n hx hb dJ0_charAt_5068e_11 rfl (lv_at hl 1 rfl) ?_
    refine cx_calli (Wr := []) (cx_runS C hml hl.1 hZ hW hA (As := [.ref (zs D (30 + i)), .int (nI j)]) (rest := []) (k_J1_charAt_3b067 l hfl D aT i hi7 j hjl) gS_J0_J1_charAt_3b067_495 hS_J1_charAt_3b067 rfl ⟨Nat.le_of_ble_eq_true rfl, Nat.le_of_ble_eq_true rfl⟩ ⟨Nat.le_of_ble_eq_true rfl, Nat.le_of_ble_eq_true rfl⟩ [] rfl (by decide) rfl (Nat.le_of_ble_eq_true rfl) dJ0_charAt_5068e_12) hW hA [] [] rfl rfl (by decide) (by decide) (fun _ _ _ _ _ _ h9 => h9.elim) (fun r_12 W_12 H locs hq hW => ?_)
    obtain ⟨rfl, rfl⟩ := hq
    have hW : CxB D [] A s.heap H _ := hW
    exact cx_iret C hr hlocks (kB_nar i hi7 j hjl) hW ⟨Nat.le_of_ble_eq_true rfl, Nat.le_of_ble_eq_true rfl⟩ (⟨rfl, rfl⟩) dJ0_charAt_5068e_15
theorem dJx29ce0_ordinal_8abf5_0 : decode cJx29ce0_ordinal_8abf5 0 = .ok (.aload_n 0, 1) := by decide +kernel
theorem dJx29ce0_ordinal_8abf5_1 : decode cJx29ce0_ordinal_8abf5 1 = .ok (.getfield 7, 3) := by decide +kernel
theorem dJx29ce0_ordinal_8abf5_4 : decode cJx29ce0_ordinal_8abf5 4 = .ok (.ireturn, 1) := by decide +kernel
set_option maxHeartbeats 2000000 in
set_option maxRecDepth 20000 in
theorem k_Jx29ce0_ordinal_8abf5 (l : Launch) (hfl : l.stackTraces = false) (D : va_G) (aT : Nat → ClassId) (i : Nat) (hi7 : i < 7) : CxG l yJx29ce0_ordinal_8abf5 cJx29ce0_ordinal_8abf5 1 (some (.int)) 0 0 0 0 D aT [.ref (zs D (10 + i))] [] (qI D aT (fun r W1 => r = nI i ∧ W1 = [])) (fun _ _ => False) := by
  refine CxG.of RJx29ce0 (by decide +kernel) rfl (Nat.le_of_ble_eq_true rfl) ?_
  intro p e s m below meth c A ls C hml hl hA hr hlocks hex hnm hZ hW
  have hl : lv_has ls 1 [(0, .ref (zs D (10 + i)))] := hl
  have hx := C.1
  have hb := C.2.1
  refine lv_aload_n hx hb dJx29ce0_ordinal_8abf5_0 rfl (lv_at hl 0 rfl) ?_
  refine cx_gk C hW (v := .int (nI i)) (q := (zs D (10 + i))) (show va_OF "java/lang/Enum" "ordinal" "I" (.int (nI i)) (zs D (10 + i)) A s s.heap from hZ.2.2.2.2.2.2.2.2.2.2.1.2.2.1 i hi7) gw_2145 rfl dJx29ce0_ordinal_8abf5_1 ?_
  exact cx_iret C hr hlocks rfl hW ⟨Nat.le_of_ble_eq_true rfl, Nat.le_of_ble_eq_true rfl⟩ (⟨rfl, rfl⟩) dJx29ce0_ordinal_8abf5_4
theorem dX6_readSign_0 : decode cX6_readSign 0 = .ok (.aload_n 0, 1) := by decide +kernel
theorem dX6_readSign_1 : decode cX6_readSign 1 = .ok (.getfield 30, 3) := by decide +kernel
theorem dX6_readSign_4 : decode cX6_readSign 4 = .ok (.aload_n 0, 1) := by decide +kernel
theorem dX6_readSign_5 : decode cX6_readSign 5 = .ok (.getfield 26, 3) := by decide +kernel
theorem dX6_readSign_8 : decode cX6_readSign 8 = .ok (.if_icmp .ge 28, 3) := by decide +kernel
theorem dX6_readSign_11 : decode cX6_readSign 11 = .ok (.aload_n 0, 1) := by decide +kernel
theorem dX6_readSign_12 : decode cX6_readSign 12 = .ok (.getfield 9, 3) := by decide +kernel
theorem dX6_readSign_15 : decode cX6_readSign 15 = .ok (.aload_n 0, 1) := by decide +kernel
theorem dX6_readSign_16 : decode cX6_readSign 16 = .ok (.getfield 30, 3) := by decide +kernel
theorem dX6_readSign_19 : decode cX6_readSign 19 = .ok (.caload, 1) := by decide +kernel
theorem dX6_readSign_20 : decode cX6_readSign 20 = .ok (.iload_n 1, 1) := by decide +kernel
theorem dX6_readSign_21 : decode cX6_readSign 21 = .ok (.if_icmp .ne 15, 3) := by decide +kernel
theorem dX6_readSign_24 : decode cX6_readSign 24 = .ok (.aload_n 0, 1) := by decide +kernel
theorem dX6_readSign_25 : decode cX6_readSign 25 = .ok (.dup, 1) := by decide +kernel
theorem dX6_readSign_26 : decode cX6_readSign 26 = .ok (.getfield 30, 3) := by decide +kernel
theorem dX6_readSign_29 : decode cX6_readSign 29 = .ok (.iconst 1, 1) := by decide +kernel
theorem dX6_readSign_30 : decode cX6_readSign 30 = .ok (.iadd, 1) := by decide +kernel
theorem dX6_readSign_31 : decode cX6_readSign 31 = .ok (.putfield 30, 3) := by decide +kernel
theorem dX6_readSign_34 : decode cX6_readSign 34 = .ok (.iconst 1, 1) := by decide +kernel
theorem dX6_readSign_35 : decode cX6_readSign 35 = .ok (.ireturn, 1) := by decide +kernel
theorem dX6_readSign_36 : decode cX6_readSign 36 = .ok (.iconst 0, 1) := by decide +kernel
theorem dX6_readSign_37 : decode cX6_readSign 37 = .ok (.ireturn, 1) := by decide +kernel
set_option maxHeartbeats 2000000 in
set_option maxRecDepth 20000 in
theorem k_X6_readSign (l : Launch) (hfl : l.stackTraces = false) (D : va_G) (aT : Nat → ClassId) (p0 : Nat) (p1 : Nat) (p2 : Nat) (p3 : Nat) (ln : Nat) (at_ : Nat) (fX : Nat → Int32) (fA : Nat → Int32) (h60 : ln ≤ 60) (hal : at_ ≤ ln) (x : Int32) : CxG l yX6_readSign cX6_readSign 2 (some (.boolean)) 0 0 0 0 D aT [.ref p0, .int x] [(p0, .inr (9, [.ref p1, .ref p2, .ref p3, .int (nI ln), .int (nI at_)])), (p1, .inl (aT 1, 60, .inl fX)), (p2, .inl (aT 0, 3, .inl fA))] (qI D aT (fun r W1 => (at_ < ln ∧ fX at_ = x ∧ r = nI 1 ∧ W1 = [(p0, .inr (9, [.ref p1, .ref p2, .ref p3, .int (nI ln), .int (nI (at_ + 1))])), (p1, .inl (aT 1, 60, .inl fX)), (p2, .inl (aT 0, 3, .inl fA))]) ∨ (¬ (at_ < ln ∧ fX at_ = x) ∧ r = nI 0 ∧ W1 = [(p0, .inr (9, [.ref p1, .ref p2, .ref p3, .int (nI ln), .int (nI at_)])), (p1, .inl (aT 1, 60, .inl fX)), (p2, .inl (aT 0, 3, .inl fA))]))) (fun _ _ => False) := by
  refine CxG.of RX6 (by decide +kernel) rfl (Nat.le_of_ble_eq_true rfl) ?_
  intro p e s m below meth c A ls C hml hl hA hr hlocks hex hnm hZ hW
  have hl : lv_has ls 2 [(0, .ref p0), (1, .int x)] := hl
  have hx := C.1
  have hb := C.2.1
  refine lv_aload_n hx hb dX6_readSign_0 rfl (lv_at hl 0 rfl) ?_
  refine cx_get C hW 0 4 rfl rfl (by decide) inX6 gw_301 rfl rfl dX6_readSign_1 ?_
  refine lv_aload_n hx hb dX6_readSign_4 rfl (lv_at hl 0 rfl) ?_
  refine cx_get C hW 0 3 rfl rfl (by decide) inX6 gw_300 rfl rfl dX6_readSign_5 ?_
  refine r_geN hx hb (a := at_) (b := ln) (by omega) (by omega) (tgt := 36) dX6_readSign_8 (by decide) (fun c_8 => ?_) (fun c_8 => ?_)
  · refine lv_iconst (v := nI 0) hx hb dX6_readSign_36 (by decide) ?_
    exact cx_iret C hr hlocks (by decide) hW ⟨Nat.le_of_ble_eq_true rfl, Nat.le_of_ble_eq_true rfl⟩ (Or.inr ⟨fun z => by omega, rfl, rfl⟩) dX6_readSign_37
  · refine lv_aload_n hx hb dX6_readSign_11 rfl (lv_at hl 0 rfl) ?_
    refine cx_get C hW 0 0 rfl rfl (by decide) inX6 gw_296 rfl rfl dX6_readSign_12 ?_
    refine lv_aload_n hx hb dX6_readSign_15 rfl (lv_at hl 0 rfl) ?_
    refine cx_get C hW 0 4 rfl rfl (by decide) inX6 gw_301 rfl rfl dX6_readSign_16 ?_
    refine cx_cald C hW 1 1 (j := at_) rfl rfl rfl (by omega) (by first | decide | omega) dX6_readSign_19 ?_
    refine lv_iload_n hx hb dX6_readSign_20 rfl (lv_at hl 1 rfl) ?_
    refine lv_icmp_ne hx hb (x := (fX at_)) (y := x) (tgt := 36) dX6_readSign_21 (by decide) (fun c_21 => ?_) (fun c_21 => ?_)
    · refine lv_iconst (v := nI 0) hx hb dX6_readSign_36 (by decide) ?_
      exact cx_iret C hr hlocks (by decide) hW ⟨Nat.le_of_ble_eq_true rfl, Nat.le_of_ble_eq_true rfl⟩ (Or.inr ⟨fun z => absurd z.2 c_21, rfl, rfl⟩) dX6_readSign_37
    · refine lv_aload_n hx hb dX6_readSign_24 rfl (lv_at hl 0 rfl) ?_
      refine lv_dup hx hb dX6_readSign_25 rfl ?_
      refine cx_get C hW 0 4 rfl rfl (by decide) inX6 gw_301 rfl rfl dX6_readSign_26 ?_
      refine lv_iconst (v := nI 1) hx hb dX6_readSign_29 (by decide) ?_
      refine r_iaddN hx hb (a := at_) (b := 1) dX6_readSign_30 ?_
      refine cx_put C hW 0 4 (W1 := [(p0, .inr (9, [.ref p1, .ref p2, .ref p3, .int (nI ln), .int (nI (at_ + 1))])), (p1, .inl (aT 1, 60, .inl fX)), (p2, .inl (aT 0, 3, .inl fA))]) rfl rfl (by decide) inX6 tyX6 tyX6_ok nmX6 gw_301 rfl rfl rfl rfl rfl (Nat.le_of_ble_eq_true rfl) rfl dX6_readSign_31 (fun H locs hW => ?_)
      refine lv_iconst (v := nI 1) hx hb dX6_readSign_34 (by decide) ?_
      exact cx_iret C hr hlocks (by decide) hW ⟨Nat.le_of_ble_eq_true rfl, Nat.le_of_ble_eq_true rfl⟩ (Or.inl ⟨by omega, by simpa using c_21, rfl, rfl⟩) dX6_readSign_35
theorem dX6_digitAhead_0 : decode cX6_digitAhead 0 = .ok (.aload_n 0, 1) := by decide +kernel
theorem dX6_digitAhead_1 : decode cX6_digitAhead 1 = .ok (.getfield 30, 3) := by decide +kernel
theorem dX6_digitAhead_4 : decode cX6_digitAhead 4 = .ok (.aload_n 0, 1) := by decide +kernel
theorem dX6_digitAhead_5 : decode cX6_digitAhead 5 = .ok (.getfield 26, 3) := by decide +kernel
theorem dX6_digitAhead_8 : decode cX6_digitAhead 8 = .ok (.if_icmp .ge 35, 3) := by decide +kernel
theorem dX6_digitAhead_11 : decode cX6_digitAhead 11 = .ok (.aload_n 0, 1) := by decide +kernel
theorem dX6_digitAhead_12 : decode cX6_digitAhead 12 = .ok (.getfield 9, 3) := by decide +kernel
theorem dX6_digitAhead_15 : decode cX6_digitAhead 15 = .ok (.aload_n 0, 1) := by decide +kernel
theorem dX6_digitAhead_16 : decode cX6_digitAhead 16 = .ok (.getfield 30, 3) := by decide +kernel
theorem dX6_digitAhead_19 : decode cX6_digitAhead 19 = .ok (.caload, 1) := by decide +kernel
theorem dX6_digitAhead_20 : decode cX6_digitAhead 20 = .ok (.bipush 48, 2) := by decide +kernel
theorem dX6_digitAhead_22 : decode cX6_digitAhead 22 = .ok (.if_icmp .lt 21, 3) := by decide +kernel
theorem dX6_digitAhead_25 : decode cX6_digitAhead 25 = .ok (.aload_n 0, 1) := by decide +kernel
theorem dX6_digitAhead_26 : decode cX6_digitAhead 26 = .ok (.getfield 9, 3) := by decide +kernel
theorem dX6_digitAhead_29 : decode cX6_digitAhead 29 = .ok (.aload_n 0, 1) := by decide +kernel
theorem dX6_digitAhead_30 : decode cX6_digitAhead 30 = .ok (.getfield 30, 3) := by decide +kernel
theorem dX6_digitAhead_33 : decode cX6_digitAhead 33 = .ok (.caload, 1) := by decide +kernel
theorem dX6_digitAhead_34 : decode cX6_digitAhead 34 = .ok (.bipush 57, 2) := by decide +kernel
theorem dX6_digitAhead_36 : decode cX6_digitAhead 36 = .ok (.if_icmp .gt 7, 3) := by decide +kernel
theorem dX6_digitAhead_39 : decode cX6_digitAhead 39 = .ok (.iconst 1, 1) := by decide +kernel
theorem dX6_digitAhead_40 : decode cX6_digitAhead 40 = .ok (.goto 4, 3) := by decide +kernel
theorem dX6_digitAhead_43 : decode cX6_digitAhead 43 = .ok (.iconst 0, 1) := by decide +kernel
theorem dX6_digitAhead_44 : decode cX6_digitAhead 44 = .ok (.ireturn, 1) := by decide +kernel
set_option maxHeartbeats 2000000 in
set_option maxRecDepth 20000 in
theorem k_X6_digitAhead (l : Launch) (hfl : l.stackTraces = false) (D : va_G) (aT : Nat → ClassId) (p0 : Nat) (p1 : Nat) (p2 : Nat) (p3 : Nat) (ln : Nat) (at_ : Nat) (fX : Nat → Int32) (fA : Nat → Int32) (h60 : ln ≤ 60) (hal : at_ ≤ ln) : CxG l yX6_digitAhead cX6_digitAhead 1 (some (.boolean)) 0 0 0 0 D aT [.ref p0] [(p0, .inr (9, [.ref p1, .ref p2, .ref p3, .int (nI ln), .int (nI at_)])), (p1, .inl (aT 1, 60, .inl fX)), (p2, .inl (aT 0, 3, .inl fA))] (qI D aT (fun r W1 => (at_ < ln ∧ isD (fX at_) = true ∧ r = nI 1 ∧ W1 = [(p0, .inr (9, [.ref p1, .ref p2, .ref p3, .int (nI ln), .int (nI at_)])), (p1, .inl (aT 1, 60, .inl fX)), (p2, .inl (aT 0, 3, .inl fA))]) ∨ (¬ (at_ < ln ∧ isD (fX at_) = true) ∧ r = nI 0 ∧ W1 = [(p0, .inr (9, [.ref p1, .ref p2, .ref p3, .int (nI ln), .int (nI at_)])), (p1, .inl (aT 1, 60, .inl fX)), (p2, .inl (aT 0, 3, .inl fA))]))) (fun _ _ => False) := by
  refine CxG.of RX6 (by decide +kernel) rfl (Nat.le_of_ble_eq_true rfl) ?_
  intro p e s m below meth c A ls C hml hl hA hr hlocks hex hnm hZ hW
  have hl : lv_has ls 1 [(0, .ref p0)] := hl
  have hx := C.1
  have hb := C.2.1
  refine lv_aload_n hx hb dX6_digitAhead_0 rfl (lv_at hl 0 rfl) ?_
  refine cx_get C hW 0 4 rfl rfl (by decide) inX6 gw_301 rfl rfl dX6_digitAhead_1 ?_
  refine lv_aload_n hx hb dX6_digitAhead_4 rfl (lv_at hl 0 rfl) ?_
  refine cx_get C hW 0 3 rfl rfl (by decide) inX6 gw_300 rfl rfl dX6_digitAhead_5 ?_
  refine r_geN hx hb (a := at_) (b := ln) (by omega) (by omega) (tgt := 43) dX6_digitAhead_8 (by decide) (fun c_8 => ?_) (fun c_8 => ?_)
  · refine lv_iconst (v := nI 0) hx hb dX6_digitAhead_43 (by decide) ?_
    exact cx_iret C hr hlocks (by decide) hW ⟨Nat.le_of_ble_eq_true rfl, Nat.le_of_ble_eq_true rfl⟩ (Or.inr ⟨fun z => by omega, rfl, rfl⟩) dX6_digitAhead_44
  · refine lv_aload_n hx hb dX6_digitAhead_11 rfl (lv_at hl 0 rfl) ?_
    refine cx_get C hW 0 0 rfl rfl (by decide) inX6 gw_296 rfl rfl dX6_digitAhead_12 ?_
    refine lv_aload_n hx hb dX6_digitAhead_15 rfl (lv_at hl 0 rfl) ?_
    refine cx_get C hW 0 4 rfl rfl (by decide) inX6 gw_301 rfl rfl dX6_digitAhead_16 ?_
    refine cx_cald C hW 1 1 (j := at_) rfl rfl rfl (by omega) (by first | decide | omega) dX6_digitAhead_19 ?_
    refine lv_bipush (v := nI 48) hx hb dX6_digitAhead_20 (by decide) ?_
    refine lv_icmp_lt hx hb (x := (fX at_)) (y := (nI 48)) (tgt := 43) dX6_digitAhead_22 (by decide) (fun c_22 => ?_) (fun c_22 => ?_)
    · refine lv_iconst (v := nI 0) hx hb dX6_digitAhead_43 (by decide) ?_
      exact cx_iret C hr hlocks (by decide) hW ⟨Nat.le_of_ble_eq_true rfl, Nat.le_of_ble_eq_true rfl⟩ (Or.inr ⟨fun z => by rw [isD_lo c_22] at z; exact absurd z.2 (by decide), rfl, rfl⟩) dX6_digitAhead_44
    · refine lv_aload_n hx hb dX6_digitAhead_25 rfl (lv_at hl 0 rfl) ?_
      refine cx_get C hW 0 0 rfl rfl (by decide) inX6 gw_296 rfl rfl dX6_digitAhead_26 ?_
      refine lv_aload_n hx hb dX6_digitAhead_29 rfl (lv_at hl 0 rfl) ?_
      refine cx_get C hW 0 4 rfl rfl (by decide) inX6 gw_301 rfl rfl dX6_digitAhead_30 ?_
      refine cx_cald C hW 1 1 (j := at_) rfl rfl rfl (by omega) (by first | decide | omega) dX6_digitAhead_33 ?_
      refine lv_bipush (v := nI 57) hx hb dX6_digitAhead_34 (by decide) ?_
      refine lv_icmp_gt hx hb (x := (fX at_)) (y := (nI 57)) (tgt := 43) dX6_digitAhead_36 (by decide) (fun c_36 => ?_) (fun c_36 => ?_)
      · refine lv_iconst (v := nI 0) hx hb dX6_digitAhead_43 (by decide) ?_
        exact cx_iret C hr hlocks (by decide) hW ⟨Nat.le_of_ble_eq_true rfl, Nat.le_of_ble_eq_true rfl⟩ (Or.inr ⟨fun z => by rw [isD_hi c_36] at z; exact absurd z.2 (by decide), rfl, rfl⟩) dX6_digitAhead_44
      · refine lv_iconst (v := nI 1) hx hb dX6_digitAhead_39 (by decide) ?_
        refine lv_goto (tgt := 44) hx hb dX6_digitAhead_40 (by decide) ?_
        exact cx_iret C hr hlocks (by decide) hW ⟨Nat.le_of_ble_eq_true rfl, Nat.le_of_ble_eq_true rfl⟩ (Or.inl ⟨by omega, isD_in c_22 c_36, rfl, rfl⟩) dX6_digitAhead_44
theorem dX6_readDigits_0 : decode cX6_readDigits 0 = .ok (.aload_n 0, 1) := by decide +kernel
theorem dX6_readDigits_1 : decode cX6_readDigits 1 = .ok (.getfield 9, 3) := by decide +kernel
theorem dX6_readDigits_4 : decode cX6_readDigits 4 = .ok (.aload_n 0, 1) := by decide +kernel
theorem dX6_readDigits_5 : decode cX6_readDigits 5 = .ok (.getfield 30, 3) := by decide +kernel
theorem dX6_readDigits_8 : decode cX6_readDigits 8 = .ok (.caload, 1) := by decide +kernel
theorem dX6_readDigits_9 : decode cX6_readDigits 9 = .ok (.bipush 48, 2) := by decide +kernel
theorem dX6_readDigits_11 : decode cX6_readDigits 11 = .ok (.isub, 1) := by decide +kernel
theorem dX6_readDigits_12 : decode cX6_readDigits 12 = .ok (.istore_n 2, 1) := by decide +kernel
theorem dX6_readDigits_13 : decode cX6_readDigits 13 = .ok (.aload_n 0, 1) := by decide +kernel
theorem dX6_readDigits_14 : decode cX6_readDigits 14 = .ok (.dup, 1) := by decide +kernel
theorem dX6_readDigits_15 : decode cX6_readDigits 15 = .ok (.getfield 30, 3) := by decide +kernel
theorem dX6_readDigits_18 : decode cX6_readDigits 18 = .ok (.iconst 1, 1) := by decide +kernel
theorem dX6_readDigits_19 : decode cX6_readDigits 19 = .ok (.iadd, 1) := by decide +kernel
theorem dX6_readDigits_20 : decode cX6_readDigits 20 = .ok (.putfield 30, 3) := by decide +kernel
theorem dX6_readDigits_23 : decode cX6_readDigits 23 = .ok (.iload_n 1, 1) := by decide +kernel
theorem dX6_readDigits_24 : decode cX6_readDigits 24 = .ok (.ifCond .eq 38, 3) := by decide +kernel
theorem dX6_readDigits_27 : decode cX6_readDigits 27 = .ok (.aload_n 0, 1) := by decide +kernel
theorem dX6_readDigits_28 : decode cX6_readDigits 28 = .ok (.invokevirtual 69, 3) := by decide +kernel
theorem dX6_readDigits_31 : decode cX6_readDigits 31 = .ok (.ifCond .eq 31, 3) := by decide +kernel
theorem dX6_readDigits_34 : decode cX6_readDigits 34 = .ok (.bipush 10, 2) := by decide +kernel
theorem dX6_readDigits_36 : decode cX6_readDigits 36 = .ok (.iload_n 2, 1) := by decide +kernel
theorem dX6_readDigits_37 : decode cX6_readDigits 37 = .ok (.imul, 1) := by decide +kernel
theorem dX6_readDigits_38 : decode cX6_readDigits 38 = .ok (.aload_n 0, 1) := by decide +kernel
theorem dX6_readDigits_39 : decode cX6_readDigits 39 = .ok (.getfield 9, 3) := by decide +kernel
theorem dX6_readDigits_42 : decode cX6_readDigits 42 = .ok (.aload_n 0, 1) := by decide +kernel
theorem dX6_readDigits_43 : decode cX6_readDigits 43 = .ok (.getfield 30, 3) := by decide +kernel
theorem dX6_readDigits_46 : decode cX6_readDigits 46 = .ok (.caload, 1) := by decide +kernel
theorem dX6_readDigits_47 : decode cX6_readDigits 47 = .ok (.iadd, 1) := by decide +kernel
theorem dX6_readDigits_48 : decode cX6_readDigits 48 = .ok (.bipush 48, 2) := by decide +kernel
theorem dX6_readDigits_50 : decode cX6_readDigits 50 = .ok (.isub, 1) := by decide +kernel
theorem dX6_readDigits_51 : decode cX6_readDigits 51 = .ok (.istore_n 2, 1) := by decide +kernel
theorem dX6_readDigits_52 : decode cX6_readDigits 52 = .ok (.aload_n 0, 1) := by decide +kernel
theorem dX6_readDigits_53 : decode cX6_readDigits 53 = .ok (.dup, 1) := by decide +kernel
theorem dX6_readDigits_54 : decode cX6_readDigits 54 = .ok (.getfield 30, 3) := by decide +kernel
theorem dX6_readDigits_57 : decode cX6_readDigits 57 = .ok (.iconst 1, 1) := by decide +kernel
theorem dX6_readDigits_58 : decode cX6_readDigits 58 = .ok (.iadd, 1) := by decide +kernel
theorem dX6_readDigits_59 : decode cX6_readDigits 59 = .ok (.putfield 30, 3) := by decide +kernel
theorem dX6_readDigits_62 : decode cX6_readDigits 62 = .ok (.iload_n 2, 1) := by decide +kernel
theorem dX6_readDigits_63 : decode cX6_readDigits 63 = .ok (.ireturn, 1) := by decide +kernel
set_option maxHeartbeats 2000000 in
set_option maxRecDepth 20000 in
theorem k_X6_readDigits_0 (l : Launch) (hfl : l.stackTraces = false) (D : va_G) (aT : Nat → ClassId) (p0 : Nat) (p1 : Nat) (p2 : Nat) (p3 : Nat) (ln : Nat) (at_ : Nat) (fX : Nat → Int32) (fA : Nat → Int32) (h60 : ln ≤ 60) (hal : at_ ≤ ln) (hat : at_ < ln) : CxG l yX6_readDigits cX6_readDigits 3 (some (.int)) 0 0 0 0 D aT [.ref p0, .int (nI 0)] [(p0, .inr (9, [.ref p1, .ref p2, .ref p3, .int (nI ln), .int (nI at_)])), (p1, .inl (aT 1, 60, .inl fX)), (p2, .inl (aT 0, 3, .inl fA))] (qI D aT (fun r W1 => r = fX at_ - nI 48 ∧ W1 = [(p0, .inr (9, [.ref p1, .ref p2, .ref p3, .int (nI ln), .int (nI (at_ + 1))])), (p1, .inl (aT 1, 60, .inl fX)), (p2, .inl (aT 0, 3, .inl fA))])) (fun _ _ => False) := by
  refine CxG.of RX6 (by decide +kernel) rfl (Nat.le_of_ble_eq_true rfl) ?_
  intro p e s m below meth c A ls C hml hl hA hr hlocks hex hnm hZ hW
  have hl : lv_has ls 3 [(0, .ref p0), (1, .int (nI 0))] := hl
  have hx := C.1
  have hb := C.2.1
  refine lv_aload_n hx hb dX6_readDigits_0 rfl (lv_at hl 0 rfl) ?_
  refine cx_get C hW 0 0 rfl rfl (by decide) inX6 gw_296 rfl rfl dX6_readDigits_1 ?_
  refine lv_aload_n hx hb dX6_readDigits_4 rfl (lv_at hl 0 rfl) ?_
  refine cx_get C hW 0 4 rfl rfl (by decide) inX6 gw_301 rfl rfl dX6_readDigits_5 ?_
  refine cx_cald C hW 1 1 (j := at_) rfl rfl rfl (by omega) (by first | decide | omega) dX6_readDigits_8 ?_
  refine lv_bipush (v := nI 48) hx hb dX6_readDigits_9 (by decide) ?_
  refine lv_isub hx hb dX6_readDigits_11 ?_
  refine lv_istore_n (lv' := [(2, .int ((fX at_) - (nI 48))), (0, .ref p0), (1, .int (nI 0))]) hx hb dX6_readDigits_12 rfl hl (by decide) rfl (fun ls hl => ?_)
  refine lv_aload_n hx hb dX6_readDigits_13 rfl (lv_at hl 1 rfl) ?_
  refine lv_dup hx hb dX6_readDigits_14 rfl ?_
  refine cx_get C hW 0 4 rfl rfl (by decide) inX6 gw_301 rfl rfl dX6_readDigits_15 ?_
  refine lv_iconst (v := nI 1) hx hb dX6_readDigits_18 (by decide) ?_
  refine r_iaddN hx hb (a := at_) (b := 1) dX6_readDigits_19 ?_
  refine cx_put C hW 0 4 (W1 := [(p0, .inr (9, [.ref p1, .ref p2, .ref p3, .int (nI ln), .int (nI (at_ + 1))])), (p1, .inl (aT 1, 60, .inl fX)), (p2, .inl (aT 0, 3, .inl fA))]) rfl rfl (by decide) inX6 tyX6 tyX6_ok nmX6 gw_301 rfl rfl rfl rfl rfl (Nat.le_of_ble_eq_true rfl) rfl dX6_readDigits_20 (fun H locs hW => ?_)
  refine lv_iload_n hx hb dX6_readDigits_23 rfl (lv_at hl 2 rfl) ?_
  refine lv_if_eq hx hb (x := (nI 0)) (tgt := 62) dX6_readDigits_24 (by decide) (fun c_24 => ?_) (fun c_24 => ?_)
  · refine lv_iload_n hx hb dX6_readDigits_62 rfl (lv_at hl 0 rfl) ?_
    exact cx_iret C hr hlocks rfl hW ⟨Nat.le_of_ble_eq_true rfl, Nat.le_of_ble_eq_true rfl⟩ (⟨rfl, rfl⟩) dX6_readDigits_63
  · exact absurd (by decide) c_24
theorem gV_X6_X6_digitAhead_69 : GoodIn gw (wsV RX6 69 RX6 yX6_digitAhead (Cond.code yX6_digitAhead cX6_digitAhead 1 (some .boolean) :: gw)) := gdV gw_1178 gw_1180 gw_13 gw_73 gw_1181
theorem hV_X6_digitAhead : yX6_digitAhead.cls = RX6 ∧ yX6_digitAhead.cls ≠ "java/lang/invoke/MethodHandle" ∧ yX6_digitAhead.cls ≠ "java/lang/invoke/VarHandle" ∧ (parseMethodDescriptor yX6_digitAhead.desc).map (fun d => d.parameters.length) = some 0 := ⟨rfl, by decide +kernel, by decide +kernel, by decide +kernel⟩
set_option maxHeartbeats 2000000 in
set_option maxRecDepth 20000 in
theorem k_X6_readDigits_1 (l : Launch) (hfl : l.stackTraces = false) (D : va_G) (aT : Nat → ClassId) (p0 : Nat) (p1 : Nat) (p2 : Nat) (p3 : Nat) (ln : Nat) (at_ : Nat) (fX : Nat → Int32) (fA : Nat → Int32) (h60 : ln ≤ 60) (hal : at_ ≤ ln) (hat : at_ < ln) : CxG l yX6_readDigits cX6_readDigits 3 (some (.int)) 1 0 0 20 D aT [.ref p0, .int (nI 1)] [(p0, .inr (9, [.ref p1, .ref p2, .ref p3, .int (nI ln), .int (nI at_)])), (p1, .inl (aT 1, 60, .inl fX)), (p2, .inl (aT 0, 3, .inl fA))] (qI D aT (fun r W1 => (at_ + 1 < ln ∧ isD (fX (at_ + 1)) = true ∧ r = nI 10 * (fX at_ - nI 48) + (fX (at_ + 1) - nI 48) ∧ W1 = [(p0, .inr (9, [.ref p1, .ref p2, .ref p3, .int (nI ln), .int (nI (at_ + 2))])), (p1, .inl (aT 1, 60, .inl fX)), (p2, .inl (aT 0, 3, .inl fA))]) ∨ (¬ (at_ + 1 < ln ∧ isD (fX (at_ + 1)) = true) ∧ r = fX at_ - nI 48 ∧ W1 = [(p0, .inr (9, [.ref p1, .ref p2, .ref p3, .int (nI ln), .int (nI (at_ + 1))])), (p1, .inl (aT 1, 60, .inl fX)), (p2, .inl (aT 0, 3, .inl fA))]))) (fun _ _ => False) := by
  refine CxG.of RX6 (by decide +kernel) rfl (Nat.le_of_ble_eq_true rfl) ?_
  intro p e s m below meth c A ls C hml hl hA hr hlocks hex hnm hZ hW
  have hl : lv_has ls 3 [(0, .ref p0), (1, .int (nI 1))] := hl
  have hx := C.1
  have hb := C.2.1
  refine lv_aload_n hx hb dX6_readDigits_0 rfl (lv_at hl 0 rfl) ?_
  refine cx_get C hW 0 0 rfl rfl (by decide) inX6 gw_296 rfl rfl dX6_readDigits_1 ?_
  refine lv_aload_n hx hb dX6_readDigits_4 rfl (lv_at hl 0 rfl) ?_
  refine cx_get C hW 0 4 rfl rfl (by decide) inX6 gw_301 rfl rfl dX6_readDigits_5 ?_
  refine cx_cald C hW 1 1 (j := at_) rfl rfl rfl (by omega) (by first | decide | omega) dX6_readDigits_8 ?_
  refine lv_bipush (v := nI 48) hx hb dX6_readDigits_9 (by decide) ?_
  refine lv_isub hx hb dX6_readDigits_11 ?_
  refine lv_istore_n (lv' := [(2, .int ((fX at_) - (nI 48))), (0, .ref p0), (1, .int (nI 1))]) hx hb dX6_readDigits_12 rfl hl (by decide) rfl (fun ls hl => ?_)
  refine lv_aload_n hx hb dX6_readDigits_13 rfl (lv_at hl 1 rfl) ?_
  refine lv_dup hx hb dX6_readDigits_14 rfl ?_
  refine cx_get C hW 0 4 rfl rfl (by decide) inX6 gw_301 rfl rfl dX6_readDigits_15 ?_
  refine lv_iconst (v := nI 1) hx hb dX6_readDigits_18 (by decide) ?_
  refine r_iaddN hx hb (a := at_) (b := 1) dX6_readDigits_19 ?_
  refine cx_put C hW 0 4 (W1 := [(p0, .inr (9, [.ref p1, .ref p2, .ref p3, .int (nI ln), .int (nI (at_ + 1))])), (p1, .inl (aT 1, 60, .inl fX)), (p2, .inl (aT 0, 3, .inl fA))]) rfl rfl (by decide) inX6 tyX6 tyX6_ok nmX6 gw_301 rfl rfl rfl rfl rfl (Nat.le_of_ble_eq_true rfl) rfl dX6_readDigits_20 (fun H locs hW => ?_)
  refine lv_iload_n hx hb dX6_readDigits_23 rfl (lv_at hl 2 rfl) ?_
  refine lv_if_eq hx hb (x := (nI 1)) (tgt := 62) dX6_readDigits_24 (by decide) (fun c_24 => ?_) (fun c_24 => ?_)
  · exact absurd c_24 (by decide)
  · refine lv_aload_n hx hb dX6_readDigits_27 rfl (lv_at hl 1 rfl) ?_
    refine cx_calli (Wr := []) (cx_runV C hml hl.1 hZ hW hA (As := []) (rest := []) (k_X6_digitAhead l hfl D aT p0 p1 p2 p3 ln (at_ + 1) fX fA h60 (by omega)) gV_X6_X6_digitAhead_69 hV_X6_digitAhead rfl ⟨Nat.le_of_ble_eq_true rfl, Nat.le_of_ble_eq_true rfl⟩ ⟨Nat.le_of_ble_eq_true rfl, Nat.le_of_ble_eq_true rfl⟩ [0, 1, 2] rfl (by decide) 0 9 rfl rfl rfl rfl (Nat.le_of_ble_eq_true rfl) dX6_readDigits_28) hW hA [0, 1, 2] [] rfl rfl (by decide) (by decide) (fun _ _ _ _ _ _ h9 => h9.elim) (fun r_28 W_28 H locs hq hW => ?_)
    rcases hq with ⟨hs_28, he_28, rfl, rfl⟩ | ⟨hs_28, rfl, rfl⟩
    · have hW : CxB D [(p0, .inr (9, [.ref p1, .ref p2, .ref p3, .int (nI ln), .int (nI (at_ + 1))])), (p1, .inl (aT 1, 60, .inl fX)), (p2, .inl (aT 0, 3, .inl fA))] A s.heap H _ := hW
      refine lv_if_eq hx hb (x := (nI 1)) (tgt := 62) dX6_readDigits_31 (by decide) (fun c_31 => ?_) (fun c_31 => ?_)
      · exact absurd c_31 (by decide)
      · refine lv_bipush (v := nI 10) hx hb dX6_readDigits_34 (by decide) ?_
        refine lv_iload_n hx hb dX6_readDigits_36 rfl (lv_at hl 0 rfl) ?_
        refine lv_imul hx hb dX6_readDigits_37 ?_
        refine lv_aload_n hx hb dX6_readDigits_38 rfl (lv_at hl 1 rfl) ?_
        refine cx_get C hW 0 0 rfl rfl (by decide) inX6 gw_296 rfl rfl dX6_readDigits_39 ?_
        refine lv_aload_n hx hb dX6_readDigits_42 rfl (lv_at hl 1 rfl) ?_
        refine cx_get C hW 0 4 rfl rfl (by decide) inX6 gw_301 rfl rfl dX6_readDigits_43 ?_
        refine cx_cald C hW 1 1 (j := at_ + 1) rfl rfl rfl (by omega) (by first | decide | omega) dX6_readDigits_46 ?_
        refine lv_iadd hx hb dX6_readDigits_47 ?_
        refine lv_bipush (v := nI 48) hx hb dX6_readDigits_48 (by decide) ?_
        refine lv_isub hx hb dX6_readDigits_50 ?_
        refine lv_istore_n (lv' := [(2, .int ((((nI 10) * ((fX at_) - (nI 48))) + (fX (at_ + 1))) - (nI 48))), (0, .ref p0), (1, .int (nI 1))]) hx hb dX6_readDigits_51 rfl hl (by decide) rfl (fun ls hl => ?_)
        refine lv_aload_n hx hb dX6_readDigits_52 rfl (lv_at hl 1 rfl) ?_
        refine lv_dup hx hb dX6_readDigits_53 rfl ?_
        refine cx_get C hW 0 4 rfl rfl (by decide) inX6 gw_301 rfl rfl dX6_readDigits_54 ?_
        refine lv_iconst (v := nI 1) hx hb dX6_readDigits_57 (by decide) ?_
        refine r_iaddN hx hb (a := at_ + 1) (b := 1) dX6_readDigits_58 ?_
        refine cx_put C hW 0 4 (W1 := [(p0, .inr (9, [.ref p1, .ref p2, .ref p3, .int (nI ln), .int (nI (at_ + 1 + 1))])), (p1, .inl (aT 1, 60, .inl fX)), (p2, .inl (aT 0, 3, .inl fA))]) rfl rfl (by decide) inX6 tyX6 tyX6_ok nmX6 gw_301 rfl rfl rfl rfl rfl (Nat.le_of_ble_eq_true rfl) rfl dX6_readDigits_59 (fun H locs hW => ?_)
        refine lv_iload_n hx hb dX6_readDigits_62 rfl (lv_at hl 0 rfl) ?_
        exact cx_iret C hr hlocks rfl hW ⟨Nat.le_of_ble_eq_true rfl, Nat.le_of_ble_eq_true rfl⟩ (Or.inl ⟨hs_28, he_28, num_as _ _, rfl⟩) dX6_readDigits_63
    · have hW : CxB D [(p0, .inr (9, [.ref p1, .ref p2, .ref p3, .int (nI ln), .int (nI (at_ + 1))])), (p1, .inl (aT 1, 60, .inl fX)), (p2, .inl (aT 0, 3, .inl fA))] A s.heap H _ := hW
      refine lv_if_eq hx hb (x := (nI 0)) (tgt := 62) dX6_readDigits_31 (by decide) (fun c_31 => ?_) (fun c_31 => ?_)
      · refine lv_iload_n hx hb dX6_readDigits_62 rfl (lv_at hl 0 rfl) ?_
        exact cx_iret C hr hlocks rfl hW ⟨Nat.le_of_ble_eq_true rfl, Nat.le_of_ble_eq_true rfl⟩ (Or.inr ⟨hs_28, rfl, rfl⟩) dX6_readDigits_63
      · exact absurd (by decide) c_31
theorem dX6_kindAhead_0 : decode cX6_kindAhead 0 = .ok (.aload_n 0, 1) := by decide +kernel
theorem dX6_kindAhead_1 : decode cX6_kindAhead 1 = .ok (.getfield 30, 3) := by decide +kernel
theorem dX6_kindAhead_4 : decode cX6_kindAhead 4 = .ok (.aload_n 0, 1) := by decide +kernel
theorem dX6_kindAhead_5 : decode cX6_kindAhead 5 = .ok (.getfield 26, 3) := by decide +kernel
theorem dX6_kindAhead_8 : decode cX6_kindAhead 8 = .ok (.if_icmp .ge 52, 3) := by decide +kernel
theorem dX6_kindAhead_11 : decode cX6_kindAhead 11 = .ok (.getstatic 85, 3) := by decide +kernel
theorem dX6_kindAhead_14 : decode cX6_kindAhead 14 = .ok (.astore_n 1, 1) := by decide +kernel
theorem dX6_kindAhead_15 : decode cX6_kindAhead 15 = .ok (.aload_n 1, 1) := by decide +kernel
theorem dX6_kindAhead_16 : decode cX6_kindAhead 16 = .ok (.arraylength, 1) := by decide +kernel
theorem dX6_kindAhead_17 : decode cX6_kindAhead 17 = .ok (.istore_n 2, 1) := by decide +kernel
theorem dX6_kindAhead_18 : decode cX6_kindAhead 18 = .ok (.iconst 0, 1) := by decide +kernel
theorem dX6_kindAhead_19 : decode cX6_kindAhead 19 = .ok (.istore_n 3, 1) := by decide +kernel
theorem dX6_kindAhead_20 : decode cX6_kindAhead 20 = .ok (.iload_n 3, 1) := by decide +kernel
theorem dX6_kindAhead_21 : decode cX6_kindAhead 21 = .ok (.iload_n 2, 1) := by decide +kernel
theorem dX6_kindAhead_22 : decode cX6_kindAhead 22 = .ok (.if_icmp .ge 38, 3) := by decide +kernel
theorem dX6_kindAhead_25 : decode cX6_kindAhead 25 = .ok (.aload_n 1, 1) := by decide +kernel
theorem dX6_kindAhead_26 : decode cX6_kindAhead 26 = .ok (.iload_n 3, 1) := by decide +kernel
theorem dX6_kindAhead_27 : decode cX6_kindAhead 27 = .ok (.aaload, 1) := by decide +kernel
theorem dX6_kindAhead_28 : decode cX6_kindAhead 28 = .ok (.astore 4, 2) := by decide +kernel
theorem dX6_kindAhead_30 : decode cX6_kindAhead 30 = .ok (.aload 4, 2) := by decide +kernel
theorem dX6_kindAhead_32 : decode cX6_kindAhead 32 = .ok (.getfield 54, 3) := by decide +kernel
theorem dX6_kindAhead_35 : decode cX6_kindAhead 35 = .ok (.iconst 0, 1) := by decide +kernel
theorem dX6_kindAhead_36 : decode cX6_kindAhead 36 = .ok (.invokevirtual 65, 3) := by decide +kernel
theorem dX6_kindAhead_39 : decode cX6_kindAhead 39 = .ok (.aload_n 0, 1) := by decide +kernel
theorem dX6_kindAhead_40 : decode cX6_kindAhead 40 = .ok (.getfield 9, 3) := by decide +kernel
theorem dX6_kindAhead_43 : decode cX6_kindAhead 43 = .ok (.aload_n 0, 1) := by decide +kernel
theorem dX6_kindAhead_44 : decode cX6_kindAhead 44 = .ok (.getfield 30, 3) := by decide +kernel
theorem dX6_kindAhead_47 : decode cX6_kindAhead 47 = .ok (.caload, 1) := by decide +kernel
theorem dX6_kindAhead_48 : decode cX6_kindAhead 48 = .ok (.if_icmp .ne 6, 3) := by decide +kernel
theorem dX6_kindAhead_51 : decode cX6_kindAhead 51 = .ok (.aload 4, 2) := by decide +kernel
theorem dX6_kindAhead_53 : decode cX6_kindAhead 53 = .ok (.areturn, 1) := by decide +kernel
theorem dX6_kindAhead_54 : decode cX6_kindAhead 54 = .ok (.iinc 3 1, 3) := by decide +kernel
theorem dX6_kindAhead_57 : decode cX6_kindAhead 57 = .ok (.goto (-37), 3) := by decide +kernel
theorem dX6_kindAhead_60 : decode cX6_kindAhead 60 = .ok (.aconst_null, 1) := by decide +kernel
theorem dX6_kindAhead_61 : decode cX6_kindAhead 61 = .ok (.areturn, 1) := by decide +kernel
theorem gV_X6_J0_charAt_5068e_65 : GoodIn gw (wsV RX6 65 RJ0 yJ0_charAt_5068e (Cond.code yJ0_charAt_5068e cJ0_charAt_5068e 2 (some .char) :: gw)) := gdV gw_1130 gw_1131 gw_1132 gw_79 gw_1133
theorem hV_J0_charAt_5068e : yJ0_charAt_5068e.cls = RJ0 ∧ yJ0_charAt_5068e.cls ≠ "java/lang/invoke/MethodHandle" ∧ yJ0_charAt_5068e.cls ≠ "java/lang/invoke/VarHandle" ∧ (parseMethodDescriptor yJ0_charAt_5068e.desc).map (fun d => d.parameters.length) = some 1 := ⟨rfl, by decide +kernel, by decide +kernel, by decide +kernel⟩
set_option maxHeartbeats 2000000 in
set_option maxRecDepth 20000 in
theorem k_X6_kindAhead (l : Launch) (hfl : l.stackTraces = false) (D : va_G) (aT : Nat → ClassId) (p0 : Nat) (p1 : Nat) (p2 : Nat) (p3 : Nat) (ln : Nat) (at_ : Nat) (fX : Nat → Int32) (fA : Nat → Int32) (h60 : ln ≤ 60) (hal : at_ ≤ ln) : CxG l yX6_kindAhead cX6_kindAhead 5 (some ((.object "HedgeCommittee$Kind"))) 4 0 0 85 D aT [.ref p0] [(p0, .inr (9, [.ref p1, .ref p2, .ref p3, .int (nI ln), .int (nI at_)])), (p1, .inl (aT 1, 60, .inl fX)), (p2, .inl (aT 0, 3, .inl fA))] (qR D aT (fun r W1 => ((r = none ∧ (∀ w, w < 7 → ¬ (at_ < ln ∧ fX at_ = nI (ltN (bgN w))))) ∨ (at_ < ln ∧ fX at_ = nI 104 ∧ r = some (zs D 10)) ∨ (at_ < ln ∧ fX at_ = nI 109 ∧ r = some (zs D 11)) ∨ (at_ < ln ∧ fX at_ = nI 97 ∧ r = some (zs D 12)) ∨ (at_ < ln ∧ fX at_ = nI 112 ∧ r = some (zs D 13)) ∨ (at_ < ln ∧ fX at_ = nI 114 ∧ r = some (zs D 14)) ∨ (at_ < ln ∧ fX at_ = nI 118 ∧ r = some (zs D 15)) ∨ (at_ < ln ∧ fX at_ = nI 115 ∧ r = some (zs D 16))) ∧ W1 = [(p0, .inr (9, [.ref p1, .ref p2, .ref p3, .int (nI ln), .int (nI at_)])), (p1, .inl (aT 1, 60, .inl fX)), (p2, .inl (aT 0, 3, .inl fA))])) (fun _ _ => False) := by
  refine CxG.of RX6 (by decide +kernel) rfl (Nat.le_of_ble_eq_true rfl) ?_
  intro p e s m below meth c A ls C hml hl hA hr hlocks hex hnm hZ hW
  have hl : lv_has ls 5 [(0, .ref p0)] := hl
  have hx := C.1
  have hb := C.2.1
  refine lv_aload_n hx hb dX6_kindAhead_0 rfl (lv_at hl 0 rfl) ?_
  refine cx_get C hW 0 4 rfl rfl (by decide) inX6 gw_301 rfl rfl dX6_kindAhead_1 ?_
  refine lv_aload_n hx hb dX6_kindAhead_4 rfl (lv_at hl 0 rfl) ?_
  refine cx_get C hW 0 3 rfl rfl (by decide) inX6 gw_300 rfl rfl dX6_kindAhead_5 ?_
  refine r_geN hx hb (a := at_) (b := ln) (by omega) (by omega) (tgt := 60) dX6_kindAhead_8 (by decide) (fun c_8 => ?_) (fun c_8 => ?_)
  · refine lv_null hx hb dX6_kindAhead_60 ?_
    exact cx_aret C hr (Or.inl ⟨_, rfl⟩) hlocks none hW ⟨Nat.le_of_ble_eq_true rfl, Nat.le_of_ble_eq_true rfl⟩ (⟨Or.inl ⟨rfl, fun w hw z => by omega⟩, rfl⟩) dX6_kindAhead_61
  · refine va_gets hx hb hZ.2.2.2.2.2.2.2.2.2.2.1.1 hW.2.2 C.2.2.2.1 (C.2.2.1 _ gw_1128) (fun _ h9 => h9) dX6_kindAhead_11 ?_
    refine lv_astore_n (lv' := [(1, .ref (zs D 1)), (0, .ref p0)]) hx hb dX6_kindAhead_14 rfl hl (by decide) rfl (fun ls hl => ?_)
    refine lv_aload_n hx hb dX6_kindAhead_15 rfl (lv_at hl 0 rfl) ?_
    refine va_tlen (v := nI 7) hx hb (hZ.2.2.2.2.2.2.2.2.2.2.1.2.1) hW.2.2 rfl dX6_kindAhead_16 ?_
    refine lv_istore_n (lv' := [(2, .int (nI 7)), (1, .ref (zs D 1)), (0, .ref p0)]) hx hb dX6_kindAhead_17 rfl hl (by decide) rfl (fun ls hl => ?_)
    refine lv_iconst (v := nI 0) hx hb dX6_kindAhead_18 (by decide) ?_
    refine lv_istore_n (lv' := [(3, .int (nI 0)), (2, .int (nI 7)), (1, .ref (zs D 1)), (0, .ref p0)]) hx hb dX6_kindAhead_19 rfl hl (by decide) rfl (fun ls hl => ?_)
    refine lv_iload_n hx hb dX6_kindAhead_20 rfl (lv_at hl 0 rfl) ?_
    refine lv_iload_n hx hb dX6_kindAhead_21 rfl (lv_at hl 1 rfl) ?_
    refine lv_icmp_ge hx hb (x := (nI 0)) (y := (nI 7)) (tgt := 60) dX6_kindAhead_22 (by decide) (fun c_22 => ?_) (fun c_22 => ?_)
    · exact absurd c_22 (by decide)
    · refine lv_aload_n hx hb dX6_kindAhead_25 rfl (lv_at hl 2 rfl) ?_
      refine lv_iload_n hx hb dX6_kindAhead_26 rfl (lv_at hl 0 rfl) ?_
      refine vb_tq (v := .ref (zs D 10)) hx hb (hZ.2.2.2.2.2.2.2.2.2.2.1.2.1) hW.2.2 (i := nI 0) (vp_in_nI (by decide) (by decide)) (by rw [nI_clamp (by decide)]) dX6_kindAhead_27 ?_
      refine lv_astore (lv' := [(4, .ref (zs D 10)), (3, .int (nI 0)), (2, .int (nI 7)), (1, .ref (zs D 1)), (0, .ref p0)]) hx hb dX6_kindAhead_28 hl (by decide) rfl (fun ls hl => ?_)
      refine lv_aload hx hb dX6_kindAhead_30 (lv_at hl 0 rfl) ?_
      refine cx_gkN C hZ hW (v := .ref (zs D 20)) (q := (zs D 10)) (show va_OF "HedgeCommittee$Kind" "pattern" "Ljava/lang/String;" (.ref (zs D 20)) (zs D 10) A s s.heap from hZ.2.2.2.2.2.2.2.2.2.2.1.2.2.2.1 0 (by decide)) nw_2144 rfl dX6_kindAhead_32 ?_
      refine lv_iconst (v := nI 0) hx hb dX6_kindAhead_35 (by decide) ?_
      refine cx_calli (Wr := [(p0, .inr (9, [.ref p1, .ref p2, .ref p3, .int (nI ln), .int (nI at_)])), (p1, .inl (aT 1, 60, .inl fX)), (p2, .inl (aT 0, 3, .inl fA))]) (cx_runVO C hml hl.1 hZ hW hA (As := [.int (nI 0)]) (rest := []) (k_J0_charAt_5068e l hfl D aT 0 (by decide) 0 (by decide)) gV_X6_J0_charAt_5068e_65 hV_J0_charAt_5068e rfl ⟨Nat.le_of_ble_eq_true rfl, Nat.le_of_ble_eq_true rfl⟩ ⟨Nat.le_of_ble_eq_true rfl, Nat.le_of_ble_eq_true rfl⟩ [] rfl (by decide) ((hZ.2.2.2.2.2.2.2.2.2.2.1.2.2.2.2.2.1.1 0 (by decide)).1) rfl (Nat.le_of_ble_eq_true rfl) dX6_kindAhead_36) hW hA [] [0, 1, 2] rfl rfl (by decide) (by decide) (fun _ _ _ _ _ _ h9 => h9.elim) (fun r_36 W_36 H locs hq hW => ?_)
      obtain ⟨rfl, rfl⟩ := hq
      have hW : CxB D [(p0, .inr (9, [.ref p1, .ref p2, .ref p3, .int (nI ln), .int (nI at_)])), (p1, .inl (aT 1, 60, .inl fX)), (p2, .inl (aT 0, 3, .inl fA))] A s.heap H _ := hW
      refine lv_aload_n hx hb dX6_kindAhead_39 rfl (lv_at hl 4 rfl) ?_
      refine cx_get C hW 0 0 rfl rfl (by decide) inX6 gw_296 rfl rfl dX6_kindAhead_40 ?_
      refine lv_aload_n hx hb dX6_kindAhead_43 rfl (lv_at hl 4 rfl) ?_
      refine cx_get C hW 0 4 rfl rfl (by decide) inX6 gw_301 rfl rfl dX6_kindAhead_44 ?_
      refine cx_cald C hW 1 1 (j := at_) rfl rfl rfl (by omega) (by first | decide | omega) dX6_kindAhead_47 ?_
      refine lv_icmp_ne hx hb (x := (nI 104)) (y := (fX at_)) (tgt := 54) dX6_kindAhead_48 (by decide) (fun c_48 => ?_) (fun c_48 => ?_)
      · have k_0 := c_48
        refine lv_iinc (v := (nI 1)) (lv' := [(3, .int (nI 1)), (4, .ref (zs D 10)), (2, .int (nI 7)), (1, .ref (zs D 1)), (0, .ref p0)]) hx hb dX6_kindAhead_54 hl (k := 1) rfl rfl (by decide) rfl (fun ls hl => ?_)
        refine lv_goto (tgt := 20) hx hb dX6_kindAhead_57 (by decide) ?_
        refine lv_iload_n hx hb dX6_kindAhead_20 rfl (lv_at hl 0 rfl) ?_
        refine lv_iload_n hx hb dX6_kindAhead_21 rfl (lv_at hl 2 rfl) ?_
        refine lv_icmp_ge hx hb (x := (nI 1)) (y := (nI 7)) (tgt := 60) dX6_kindAhead_22 (by decide) (fun c_22 => ?_) (fun c_22 => ?_)
        · exact absurd c_22 (by decide)
        · refine lv_aload_n hx hb dX6_kindAhead_25 rfl (lv_at hl 3 rfl) ?_
          refine lv_iload_n hx hb dX6_kindAhead_26 rfl (lv_at hl 0 rfl) ?_
          refine vb_tq (v := .ref (zs D 11)) hx hb (hZ.2.2.2.2.2.2.2.2.2.2.1.2.1) hW.2.2 (i := nI 1) (vp_in_nI (by decide) (by decide)) (by rw [nI_clamp (by decide)]) dX6_kindAhead_27 ?_
          refine lv_astore (lv' := [(4, .ref (zs D 11)), (3, .int (nI 1)), (2, .int (nI 7)), (1, .ref (zs D 1)), (0, .ref p0)]) hx hb dX6_kindAhead_28 hl (by decide) rfl (fun ls hl => ?_)
          refine lv_aload hx hb dX6_kindAhead_30 (lv_at hl 0 rfl) ?_
          refine cx_gkN C hZ hW (v := .ref (zs D 21)) (q := (zs D 11)) (show va_OF "HedgeCommittee$Kind" "pattern" "Ljava/lang/String;" (.ref (zs D 21)) (zs D 11) A s s.heap from hZ.2.2.2.2.2.2.2.2.2.2.1.2.2.2.1 1 (by decide)) nw_2144 rfl dX6_kindAhead_32 ?_
          refine lv_iconst (v := nI 0) hx hb dX6_kindAhead_35 (by decide) ?_
          refine cx_calli (Wr := [(p0, .inr (9, [.ref p1, .ref p2, .ref p3, .int (nI ln), .int (nI at_)])), (p1, .inl (aT 1, 60, .inl fX)), (p2, .inl (aT 0, 3, .inl fA))]) (cx_runVO C hml hl.1 hZ hW hA (As := [.int (nI 0)]) (rest := []) (k_J0_charAt_5068e l hfl D aT 1 (by decide) 0 (by decide)) gV_X6_J0_charAt_5068e_65 hV_J0_charAt_5068e rfl ⟨Nat.le_of_ble_eq_true rfl, Nat.le_of_ble_eq_true rfl⟩ ⟨Nat.le_of_ble_eq_true rfl, Nat.le_of_ble_eq_true rfl⟩ [] rfl (by decide) ((hZ.2.2.2.2.2.2.2.2.2.2.1.2.2.2.2.2.1.1 1 (by decide)).1) rfl (Nat.le_of_ble_eq_true rfl) dX6_kindAhead_36) hW hA [] [0, 1, 2] rfl rfl (by decide) (by decide) (fun _ _ _ _ _ _ h9 => h9.elim) (fun r_36 W_36 H locs hq hW => ?_)
          obtain ⟨rfl, rfl⟩ := hq
          have hW : CxB D [(p0, .inr (9, [.ref p1, .ref p2, .ref p3, .int (nI ln), .int (nI at_)])), (p1, .inl (aT 1, 60, .inl fX)), (p2, .inl (aT 0, 3, .inl fA))] A s.heap H _ := hW
          refine lv_aload_n hx hb dX6_kindAhead_39 rfl (lv_at hl 4 rfl) ?_
          refine cx_get C hW 0 0 rfl rfl (by decide) inX6 gw_296 rfl rfl dX6_kindAhead_40 ?_
          refine lv_aload_n hx hb dX6_kindAhead_43 rfl (lv_at hl 4 rfl) ?_
          refine cx_get C hW 0 4 rfl rfl (by decide) inX6 gw_301 rfl rfl dX6_kindAhead_44 ?_
          refine cx_cald C hW 1 1 (j := at_) rfl rfl rfl (by omega) (by first | decide | omega) dX6_kindAhead_47 ?_
          refine lv_icmp_ne hx hb (x := (nI 109)) (y := (fX at_)) (tgt := 54) dX6_kindAhead_48 (by decide) (fun c_48 => ?_) (fun c_48 => ?_)
          · have k_1 := c_48
            refine lv_iinc (v := (nI 2)) (lv' := [(3, .int (nI 2)), (4, .ref (zs D 11)), (2, .int (nI 7)), (1, .ref (zs D 1)), (0, .ref p0)]) hx hb dX6_kindAhead_54 hl (k := 1) rfl rfl (by decide) rfl (fun ls hl => ?_)
            refine lv_goto (tgt := 20) hx hb dX6_kindAhead_57 (by decide) ?_
            refine lv_iload_n hx hb dX6_kindAhead_20 rfl (lv_at hl 0 rfl) ?_
            refine lv_iload_n hx hb dX6_kindAhead_21 rfl (lv_at hl 2 rfl) ?_
            refine lv_icmp_ge hx hb (x := (nI 2)) (y := (nI 7)) (tgt := 60) dX6_kindAhead_22 (by decide) (fun c_22 => ?_) (fun c_22 => ?_)
            · exact absurd c_22 (by decide)
            · refine lv_aload_n hx hb dX6_kindAhead_25 rfl (lv_at hl 3 rfl) ?_
              refine lv_iload_n hx hb dX6_kindAhead_26 rfl (lv_at hl 0 rfl) ?_
              refine vb_tq (v := .ref (zs D 12)) hx hb (hZ.2.2.2.2.2.2.2.2.2.2.1.2.1) hW.2.2 (i := nI 2) (vp_in_nI (by decide) (by decide)) (by rw [nI_clamp (by decide)]) dX6_kindAhead_27 ?_
              refine lv_astore (lv' := [(4, .ref (zs D 12)), (3, .int (nI 2)), (2, .int (nI 7)), (1, .ref (zs D 1)), (0, .ref p0)]) hx hb dX6_kindAhead_28 hl (by decide) rfl (fun ls hl => ?_)
              refine lv_aload hx hb dX6_kindAhead_30 (lv_at hl 0 rfl) ?_
              refine cx_gkN C hZ hW (v := .ref (zs D 22)) (q := (zs D 12)) (show va_OF "HedgeCommittee$Kind" "pattern" "Ljava/lang/String;" (.ref (zs D 22)) (zs D 12) A s s.heap from hZ.2.2.2.2.2.2.2.2.2.2.1.2.2.2.1 2 (by decide)) nw_2144 rfl dX6_kindAhead_32 ?_
              refine lv_iconst (v := nI 0) hx hb dX6_kindAhead_35 (by decide) ?_
              refine cx_calli (Wr := [(p0, .inr (9, [.ref p1, .ref p2, .ref p3, .int (nI ln), .int (nI at_)])), (p1, .inl (aT 1, 60, .inl fX)), (p2, .inl (aT 0, 3, .inl fA))]) (cx_runVO C hml hl.1 hZ hW hA (As := [.int (nI 0)]) (rest := []) (k_J0_charAt_5068e l hfl D aT 2 (by decide) 0 (by decide)) gV_X6_J0_charAt_5068e_65 hV_J0_charAt_5068e rfl ⟨Nat.le_of_ble_eq_true rfl, Nat.le_of_ble_eq_true rfl⟩ ⟨Nat.le_of_ble_eq_true rfl, Nat.le_of_ble_eq_true rfl⟩ [] rfl (by decide) ((hZ.2.2.2.2.2.2.2.2.2.2.1.2.2.2.2.2.1.1 2 (by decide)).1) rfl (Nat.le_of_ble_eq_true rfl) dX6_kindAhead_36) hW hA [] [0, 1, 2] rfl rfl (by decide) (by decide) (fun _ _ _ _ _ _ h9 => h9.elim) (fun r_36 W_36 H locs hq hW => ?_)
              obtain ⟨rfl, rfl⟩ := hq
              have hW : CxB D [(p0, .inr (9, [.ref p1, .ref p2, .ref p3, .int (nI ln), .int (nI at_)])), (p1, .inl (aT 1, 60, .inl fX)), (p2, .inl (aT 0, 3, .inl fA))] A s.heap H _ := hW
              refine lv_aload_n hx hb dX6_kindAhead_39 rfl (lv_at hl 4 rfl) ?_
              refine cx_get C hW 0 0 rfl rfl (by decide) inX6 gw_296 rfl rfl dX6_kindAhead_40 ?_
              refine lv_aload_n hx hb dX6_kindAhead_43 rfl (lv_at hl 4 rfl) ?_
              refine cx_get C hW 0 4 rfl rfl (by decide) inX6 gw_301 rfl rfl dX6_kindAhead_44 ?_
              refine cx_cald C hW 1 1 (j := at_) rfl rfl rfl (by omega) (by first | decide | omega) dX6_kindAhead_47 ?_
              refine lv_icmp_ne hx hb (x := (nI 97)) (y := (fX at_)) (tgt := 54) dX6_kindAhead_48 (by decide) (fun c_48 => ?_) (fun c_48 => ?_)
              · have k_2 := c_48
                refine lv_iinc (v := (nI 3)) (lv' := [(3, .int (nI 3)), (4, .ref (zs D 12)), (2, .int (nI 7)), (1, .ref (zs D 1)), (0, .ref p0)]) hx hb dX6_kindAhead_54 hl (k := 1) rfl rfl (by decide) rfl (fun ls hl => ?_)
                refine lv_goto (tgt := 20) hx hb dX6_kindAhead_57 (by decide) ?_
                refine lv_iload_n hx hb dX6_kindAhead_20 rfl (lv_at hl 0 rfl) ?_
                refine lv_iload_n hx hb dX6_kindAhead_21 rfl (lv_at hl 2 rfl) ?_
                refine lv_icmp_ge hx hb (x := (nI 3)) (y := (nI 7)) (tgt := 60) dX6_kindAhead_22 (by decide) (fun c_22 => ?_) (fun c_22 => ?_)
                · exact absurd c_22 (by decide)
                · refine lv_aload_n hx hb dX6_kindAhead_25 rfl (lv_at hl 3 rfl) ?_
                  refine lv_iload_n hx hb dX6_kindAhead_26 rfl (lv_at hl 0 rfl) ?_
                  refine vb_tq (v := .ref (zs D 13)) hx hb (hZ.2.2.2.2.2.2.2.2.2.2.1.2.1) hW.2.2 (i := nI 3) (vp_in_nI (by decide) (by decide)) (by rw [nI_clamp (by decide)]) dX6_kindAhead_27 ?_
                  refine lv_astore (lv' := [(4, .ref (zs D 13)), (3, .int (nI 3)), (2, .int (nI 7)), (1, .ref (zs D 1)), (0, .ref p0)]) hx hb dX6_kindAhead_28 hl (by decide) rfl (fun ls hl => ?_)
                  refine lv_aload hx hb dX6_kindAhead_30 (lv_at hl 0 rfl) ?_
                  refine cx_gkN C hZ hW (v := .ref (zs D 23)) (q := (zs D 13)) (show va_OF "HedgeCommittee$Kind" "pattern" "Ljava/lang/String;" (.ref (zs D 23)) (zs D 13) A s s.heap from hZ.2.2.2.2.2.2.2.2.2.2.1.2.2.2.1 3 (by decide)) nw_2144 rfl dX6_kindAhead_32 ?_
                  refine lv_iconst (v := nI 0) hx hb dX6_kindAhead_35 (by decide) ?_
                  refine cx_calli (Wr := [(p0, .inr (9, [.ref p1, .ref p2, .ref p3, .int (nI ln), .int (nI at_)])), (p1, .inl (aT 1, 60, .inl fX)), (p2, .inl (aT 0, 3, .inl fA))]) (cx_runVO C hml hl.1 hZ hW hA (As := [.int (nI 0)]) (rest := []) (k_J0_charAt_5068e l hfl D aT 3 (by decide) 0 (by decide)) gV_X6_J0_charAt_5068e_65 hV_J0_charAt_5068e rfl ⟨Nat.le_of_ble_eq_true rfl, Nat.le_of_ble_eq_true rfl⟩ ⟨Nat.le_of_ble_eq_true rfl, Nat.le_of_ble_eq_true rfl⟩ [] rfl (by decide) ((hZ.2.2.2.2.2.2.2.2.2.2.1.2.2.2.2.2.1.1 3 (by decide)).1) rfl (Nat.le_of_ble_eq_true rfl) dX6_kindAhead_36) hW hA [] [0, 1, 2] rfl rfl (by decide) (by decide) (fun _ _ _ _ _ _ h9 => h9.elim) (fun r_36 W_36 H locs hq hW => ?_)
                  obtain ⟨rfl, rfl⟩ := hq
                  have hW : CxB D [(p0, .inr (9, [.ref p1, .ref p2, .ref p3, .int (nI ln), .int (nI at_)])), (p1, .inl (aT 1, 60, .inl fX)), (p2, .inl (aT 0, 3, .inl fA))] A s.heap H _ := hW
                  refine lv_aload_n hx hb dX6_kindAhead_39 rfl (lv_at hl 4 rfl) ?_
                  refine cx_get C hW 0 0 rfl rfl (by decide) inX6 gw_296 rfl rfl dX6_kindAhead_40 ?_
                  refine lv_aload_n hx hb dX6_kindAhead_43 rfl (lv_at hl 4 rfl) ?_
                  refine cx_get C hW 0 4 rfl rfl (by decide) inX6 gw_301 rfl rfl dX6_kindAhead_44 ?_
                  refine cx_cald C hW 1 1 (j := at_) rfl rfl rfl (by omega) (by first | decide | omega) dX6_kindAhead_47 ?_
                  refine lv_icmp_ne hx hb (x := (nI 112)) (y := (fX at_)) (tgt := 54) dX6_kindAhead_48 (by decide) (fun c_48 => ?_) (fun c_48 => ?_)
                  · have k_3 := c_48
                    refine lv_iinc (v := (nI 4)) (lv' := [(3, .int (nI 4)), (4, .ref (zs D 13)), (2, .int (nI 7)), (1, .ref (zs D 1)), (0, .ref p0)]) hx hb dX6_kindAhead_54 hl (k := 1) rfl rfl (by decide) rfl (fun ls hl => ?_)
                    refine lv_goto (tgt := 20) hx hb dX6_kindAhead_57 (by decide) ?_
                    refine lv_iload_n hx hb dX6_kindAhead_20 rfl (lv_at hl 0 rfl) ?_
                    refine lv_iload_n hx hb dX6_kindAhead_21 rfl (lv_at hl 2 rfl) ?_
                    refine lv_icmp_ge hx hb (x := (nI 4)) (y := (nI 7)) (tgt := 60) dX6_kindAhead_22 (by decide) (fun c_22 => ?_) (fun c_22 => ?_)
                    · exact absurd c_22 (by decide)
                    · refine lv_aload_n hx hb dX6_kindAhead_25 rfl (lv_at hl 3 rfl) ?_
                      refine lv_iload_n hx hb dX6_kindAhead_26 rfl (lv_at hl 0 rfl) ?_
                      refine vb_tq (v := .ref (zs D 14)) hx hb (hZ.2.2.2.2.2.2.2.2.2.2.1.2.1) hW.2.2 (i := nI 4) (vp_in_nI (by decide) (by decide)) (by rw [nI_clamp (by decide)]) dX6_kindAhead_27 ?_
                      refine lv_astore (lv' := [(4, .ref (zs D 14)), (3, .int (nI 4)), (2, .int (nI 7)), (1, .ref (zs D 1)), (0, .ref p0)]) hx hb dX6_kindAhead_28 hl (by decide) rfl (fun ls hl => ?_)
                      refine lv_aload hx hb dX6_kindAhead_30 (lv_at hl 0 rfl) ?_
                      refine cx_gkN C hZ hW (v := .ref (zs D 24)) (q := (zs D 14)) (show va_OF "HedgeCommittee$Kind" "pattern" "Ljava/lang/String;" (.ref (zs D 24)) (zs D 14) A s s.heap from hZ.2.2.2.2.2.2.2.2.2.2.1.2.2.2.1 4 (by decide)) nw_2144 rfl dX6_kindAhead_32 ?_
                      refine lv_iconst (v := nI 0) hx hb dX6_kindAhead_35 (by decide) ?_
                      refine cx_calli (Wr := [(p0, .inr (9, [.ref p1, .ref p2, .ref p3, .int (nI ln), .int (nI at_)])), (p1, .inl (aT 1, 60, .inl fX)), (p2, .inl (aT 0, 3, .inl fA))]) (cx_runVO C hml hl.1 hZ hW hA (As := [.int (nI 0)]) (rest := []) (k_J0_charAt_5068e l hfl D aT 4 (by decide) 0 (by decide)) gV_X6_J0_charAt_5068e_65 hV_J0_charAt_5068e rfl ⟨Nat.le_of_ble_eq_true rfl, Nat.le_of_ble_eq_true rfl⟩ ⟨Nat.le_of_ble_eq_true rfl, Nat.le_of_ble_eq_true rfl⟩ [] rfl (by decide) ((hZ.2.2.2.2.2.2.2.2.2.2.1.2.2.2.2.2.1.1 4 (by decide)).1) rfl (Nat.le_of_ble_eq_true rfl) dX6_kindAhead_36) hW hA [] [0, 1, 2] rfl rfl (by decide) (by decide) (fun _ _ _ _ _ _ h9 => h9.elim) (fun r_36 W_36 H locs hq hW => ?_)
                      obtain ⟨rfl, rfl⟩ := hq
                      have hW : CxB D [(p0, .inr (9, [.ref p1, .ref p2, .ref p3, .int (nI ln), .int (nI at_)])), (p1, .inl (aT 1, 60, .inl fX)), (p2, .inl (aT 0, 3, .inl fA))] A s.heap H _ := hW
                      refine lv_aload_n hx hb dX6_kindAhead_39 rfl (lv_at hl 4 rfl) ?_
                      refine cx_get C hW 0 0 rfl rfl (by decide) inX6 gw_296 rfl rfl dX6_kindAhead_40 ?_
                      refine lv_aload_n hx hb dX6_kindAhead_43 rfl (lv_at hl 4 rfl) ?_
                      refine cx_get C hW 0 4 rfl rfl (by decide) inX6 gw_301 rfl rfl dX6_kindAhead_44 ?_
                      refine cx_cald C hW 1 1 (j := at_) rfl rfl rfl (by omega) (by first | decide | omega) dX6_kindAhead_47 ?_
                      refine lv_icmp_ne hx hb (x := (nI 114)) (y := (fX at_)) (tgt := 54) dX6_kindAhead_48 (by decide) (fun c_48 => ?_) (fun c_48 => ?_)
                      · have k_4 := c_48
                        refine lv_iinc (v := (nI 5)) (lv' := [(3, .int (nI 5)), (4, .ref (zs D 14)), (2, .int (nI 7)), (1, .ref (zs D 1)), (0, .ref p0)]) hx hb dX6_kindAhead_54 hl (k := 1) rfl rfl (by decide) rfl (fun ls hl => ?_)
                        refine lv_goto (tgt := 20) hx hb dX6_kindAhead_57 (by decide) ?_
                        refine lv_iload_n hx hb dX6_kindAhead_20 rfl (lv_at hl 0 rfl) ?_
                        refine lv_iload_n hx hb dX6_kindAhead_21 rfl (lv_at hl 2 rfl) ?_
                        refine lv_icmp_ge hx hb (x := (nI 5)) (y := (nI 7)) (tgt := 60) dX6_kindAhead_22 (by decide) (fun c_22 => ?_) (fun c_22 => ?_)
                        · exact absurd c_22 (by decide)
                        · refine lv_aload_n hx hb dX6_kindAhead_25 rfl (lv_at hl 3 rfl) ?_
                          refine lv_iload_n hx hb dX6_kindAhead_26 rfl (lv_at hl 0 rfl) ?_
                          refine vb_tq (v := .ref (zs D 15)) hx hb (hZ.2.2.2.2.2.2.2.2.2.2.1.2.1) hW.2.2 (i := nI 5) (vp_in_nI (by decide) (by decide)) (by rw [nI_clamp (by decide)]) dX6_kindAhead_27 ?_
                          refine lv_astore (lv' := [(4, .ref (zs D 15)), (3, .int (nI 5)), (2, .int (nI 7)), (1, .ref (zs D 1)), (0, .ref p0)]) hx hb dX6_kindAhead_28 hl (by decide) rfl (fun ls hl => ?_)
                          refine lv_aload hx hb dX6_kindAhead_30 (lv_at hl 0 rfl) ?_
                          refine cx_gkN C hZ hW (v := .ref (zs D 25)) (q := (zs D 15)) (show va_OF "HedgeCommittee$Kind" "pattern" "Ljava/lang/String;" (.ref (zs D 25)) (zs D 15) A s s.heap from hZ.2.2.2.2.2.2.2.2.2.2.1.2.2.2.1 5 (by decide)) nw_2144 rfl dX6_kindAhead_32 ?_
                          refine lv_iconst (v := nI 0) hx hb dX6_kindAhead_35 (by decide) ?_
                          refine cx_calli (Wr := [(p0, .inr (9, [.ref p1, .ref p2, .ref p3, .int (nI ln), .int (nI at_)])), (p1, .inl (aT 1, 60, .inl fX)), (p2, .inl (aT 0, 3, .inl fA))]) (cx_runVO C hml hl.1 hZ hW hA (As := [.int (nI 0)]) (rest := []) (k_J0_charAt_5068e l hfl D aT 5 (by decide) 0 (by decide)) gV_X6_J0_charAt_5068e_65 hV_J0_charAt_5068e rfl ⟨Nat.le_of_ble_eq_true rfl, Nat.le_of_ble_eq_true rfl⟩ ⟨Nat.le_of_ble_eq_true rfl, Nat.le_of_ble_eq_true rfl⟩ [] rfl (by decide) ((hZ.2.2.2.2.2.2.2.2.2.2.1.2.2.2.2.2.1.1 5 (by decide)).1) rfl (Nat.le_of_ble_eq_true rfl) dX6_kindAhead_36) hW hA [] [0, 1, 2] rfl rfl (by decide) (by decide) (fun _ _ _ _ _ _ h9 => h9.elim) (fun r_36 W_36 H locs hq hW => ?_)
                          obtain ⟨rfl, rfl⟩ := hq
                          have hW : CxB D [(p0, .inr (9, [.ref p1, .ref p2, .ref p3, .int (nI ln), .int (nI at_)])), (p1, .inl (aT 1, 60, .inl fX)), (p2, .inl (aT 0, 3, .inl fA))] A s.heap H _ := hW
                          refine lv_aload_n hx hb dX6_kindAhead_39 rfl (lv_at hl 4 rfl) ?_
                          refine cx_get C hW 0 0 rfl rfl (by decide) inX6 gw_296 rfl rfl dX6_kindAhead_40 ?_
                          refine lv_aload_n hx hb dX6_kindAhead_43 rfl (lv_at hl 4 rfl) ?_
                          refine cx_get C hW 0 4 rfl rfl (by decide) inX6 gw_301 rfl rfl dX6_kindAhead_44 ?_
                          refine cx_cald C hW 1 1 (j := at_) rfl rfl rfl (by omega) (by first | decide | omega) dX6_kindAhead_47 ?_
                          refine lv_icmp_ne hx hb (x := (nI 118)) (y := (fX at_)) (tgt := 54) dX6_kindAhead_48 (by decide) (fun c_48 => ?_) (fun c_48 => ?_)
                          · have k_5 := c_48
                            refine lv_iinc (v := (nI 6)) (lv' := [(3, .int (nI 6)), (4, .ref (zs D 15)), (2, .int (nI 7)), (1, .ref (zs D 1)), (0, .ref p0)]) hx hb dX6_kindAhead_54 hl (k := 1) rfl rfl (by decide) rfl (fun ls hl => ?_)
                            refine lv_goto (tgt := 20) hx hb dX6_kindAhead_57 (by decide) ?_
                            refine lv_iload_n hx hb dX6_kindAhead_20 rfl (lv_at hl 0 rfl) ?_
                            refine lv_iload_n hx hb dX6_kindAhead_21 rfl (lv_at hl 2 rfl) ?_
                            refine lv_icmp_ge hx hb (x := (nI 6)) (y := (nI 7)) (tgt := 60) dX6_kindAhead_22 (by decide) (fun c_22 => ?_) (fun c_22 => ?_)
                            · exact absurd c_22 (by decide)
                            · refine lv_aload_n hx hb dX6_kindAhead_25 rfl (lv_at hl 3 rfl) ?_
                              refine lv_iload_n hx hb dX6_kindAhead_26 rfl (lv_at hl 0 rfl) ?_
                              refine vb_tq (v := .ref (zs D 16)) hx hb (hZ.2.2.2.2.2.2.2.2.2.2.1.2.1) hW.2.2 (i := nI 6) (vp_in_nI (by decide) (by decide)) (by rw [nI_clamp (by decide)]) dX6_kindAhead_27 ?_
                              refine lv_astore (lv' := [(4, .ref (zs D 16)), (3, .int (nI 6)), (2, .int (nI 7)), (1, .ref (zs D 1)), (0, .ref p0)]) hx hb dX6_kindAhead_28 hl (by decide) rfl (fun ls hl => ?_)
                              refine lv_aload hx hb dX6_kindAhead_30 (lv_at hl 0 rfl) ?_
                              refine cx_gkN C hZ hW (v := .ref (zs D 26)) (q := (zs D 16)) (show va_OF "HedgeCommittee$Kind" "pattern" "Ljava/lang/String;" (.ref (zs D 26)) (zs D 16) A s s.heap from hZ.2.2.2.2.2.2.2.2.2.2.1.2.2.2.1 6 (by decide)) nw_2144 rfl dX6_kindAhead_32 ?_
                              refine lv_iconst (v := nI 0) hx hb dX6_kindAhead_35 (by decide) ?_
                              refine cx_calli (Wr := [(p0, .inr (9, [.ref p1, .ref p2, .ref p3, .int (nI ln), .int (nI at_)])), (p1, .inl (aT 1, 60, .inl fX)), (p2, .inl (aT 0, 3, .inl fA))]) (cx_runVO C hml hl.1 hZ hW hA (As := [.int (nI 0)]) (rest := []) (k_J0_charAt_5068e l hfl D aT 6 (by decide) 0 (by decide)) gV_X6_J0_charAt_5068e_65 hV_J0_charAt_5068e rfl ⟨Nat.le_of_ble_eq_true rfl, Nat.le_of_ble_eq_true rfl⟩ ⟨Nat.le_of_ble_eq_true rfl, Nat.le_of_ble_eq_true rfl⟩ [] rfl (by decide) ((hZ.2.2.2.2.2.2.2.2.2.2.1.2.2.2.2.2.1.1 6 (by decide)).1) rfl (Nat.le_of_ble_eq_true rfl) dX6_kindAhead_36) hW hA [] [0, 1, 2] rfl rfl (by decide) (by decide) (fun _ _ _ _ _ _ h9 => h9.elim) (fun r_36 W_36 H locs hq hW => ?_)
                              obtain ⟨rfl, rfl⟩ := hq
                              have hW : CxB D [(p0, .inr (9, [.ref p1, .ref p2, .ref p3, .int (nI ln), .int (nI at_)])), (p1, .inl (aT 1, 60, .inl fX)), (p2, .inl (aT 0, 3, .inl fA))] A s.heap H _ := hW
                              refine lv_aload_n hx hb dX6_kindAhead_39 rfl (lv_at hl 4 rfl) ?_
                              refine cx_get C hW 0 0 rfl rfl (by decide) inX6 gw_296 rfl rfl dX6_kindAhead_40 ?_
                              refine lv_aload_n hx hb dX6_kindAhead_43 rfl (lv_at hl 4 rfl) ?_
                              refine cx_get C hW 0 4 rfl rfl (by decide) inX6 gw_301 rfl rfl dX6_kindAhead_44 ?_
                              refine cx_cald C hW 1 1 (j := at_) rfl rfl rfl (by omega) (by first | decide | omega) dX6_kindAhead_47 ?_
                              refine lv_icmp_ne hx hb (x := (nI 115)) (y := (fX at_)) (tgt := 54) dX6_kindAhead_48 (by decide) (fun c_48 => ?_) (fun c_48 => ?_)
                              · have k_6 := c_48
                                refine lv_iinc (v := (nI 7)) (lv' := [(3, .int (nI 7)), (4, .ref (zs D 16)), (2, .int (nI 7)), (1, .ref (zs D 1)), (0, .ref p0)]) hx hb dX6_kindAhead_54 hl (k := 1) rfl rfl (by decide) rfl (fun ls hl => ?_)
                                refine lv_goto (tgt := 20) hx hb dX6_kindAhead_57 (by decide) ?_
                                refine lv_iload_n hx hb dX6_kindAhead_20 rfl (lv_at hl 0 rfl) ?_
                                refine lv_iload_n hx hb dX6_kindAhead_21 rfl (lv_at hl 2 rfl) ?_
                                refine lv_icmp_ge hx hb (x := (nI 7)) (y := (nI 7)) (tgt := 60) dX6_kindAhead_22 (by decide) (fun c_22 => ?_) (fun c_22 => ?_)
                                · refine lv_null hx hb dX6_kindAhead_60 ?_
                                  exact cx_aret C hr (Or.inl ⟨_, rfl⟩) hlocks none hW ⟨Nat.le_of_ble_eq_true rfl, Nat.le_of_ble_eq_true rfl⟩ (⟨Or.inl ⟨rfl, kd_no k_0 k_1 k_2 k_3 k_4 k_5 k_6⟩, rfl⟩) dX6_kindAhead_61
                                · exact absurd (by decide) c_22
                              · refine lv_aload hx hb dX6_kindAhead_51 (lv_at hl 0 rfl) ?_
                                exact cx_aret C hr (Or.inl ⟨_, rfl⟩) hlocks (some (zs D 16)) hW ⟨Nat.le_of_ble_eq_true rfl, Nat.le_of_ble_eq_true rfl⟩ (⟨Or.inr (Or.inr (Or.inr (Or.inr (Or.inr (Or.inr (Or.inr ((⟨by omega, (by simpa using c_48 : nI 115 = fX at_).symm, rfl⟩)))))))), rfl⟩) dX6_kindAhead_53
                          · refine lv_aload hx hb dX6_kindAhead_51 (lv_at hl 0 rfl) ?_
                            exact cx_aret C hr (Or.inl ⟨_, rfl⟩) hlocks (some (zs D 15)) hW ⟨Nat.le_of_ble_eq_true rfl, Nat.le_of_ble_eq_true rfl⟩ (⟨Or.inr (Or.inr (Or.inr (Or.inr (Or.inr (Or.inr (Or.inl (⟨by omega, (by simpa using c_48 : nI 118 = fX at_).symm, rfl⟩))))))), rfl⟩) dX6_kindAhead_53
                      · refine lv_aload hx hb dX6_kindAhead_51 (lv_at hl 0 rfl) ?_
                        exact cx_aret C hr (Or.inl ⟨_, rfl⟩) hlocks (some (zs D 14)) hW ⟨Nat.le_of_ble_eq_true rfl, Nat.le_of_ble_eq_true rfl⟩ (⟨Or.inr (Or.inr (Or.inr (Or.inr (Or.inr (Or.inl (⟨by omega, (by simpa using c_48 : nI 114 = fX at_).symm, rfl⟩)))))), rfl⟩) dX6_kindAhead_53
                  · refine lv_aload hx hb dX6_kindAhead_51 (lv_at hl 0 rfl) ?_
                    exact cx_aret C hr (Or.inl ⟨_, rfl⟩) hlocks (some (zs D 13)) hW ⟨Nat.le_of_ble_eq_true rfl, Nat.le_of_ble_eq_true rfl⟩ (⟨Or.inr (Or.inr (Or.inr (Or.inr (Or.inl (⟨by omega, (by simpa using c_48 : nI 112 = fX at_).symm, rfl⟩))))), rfl⟩) dX6_kindAhead_53
              · refine lv_aload hx hb dX6_kindAhead_51 (lv_at hl 0 rfl) ?_
                exact cx_aret C hr (Or.inl ⟨_, rfl⟩) hlocks (some (zs D 12)) hW ⟨Nat.le_of_ble_eq_true rfl, Nat.le_of_ble_eq_true rfl⟩ (⟨Or.inr (Or.inr (Or.inr (Or.inl (⟨by omega, (by simpa using c_48 : nI 97 = fX at_).symm, rfl⟩)))), rfl⟩) dX6_kindAhead_53
          · refine lv_aload hx hb dX6_kindAhead_51 (lv_at hl 0 rfl) ?_
            exact cx_aret C hr (Or.inl ⟨_, rfl⟩) hlocks (some (zs D 11)) hW ⟨Nat.le_of_ble_eq_true rfl, Nat.le_of_ble_eq_true rfl⟩ (⟨Or.inr (Or.inr (Or.inl (⟨by omega, (by simpa using c_48 : nI 109 = fX at_).symm, rfl⟩))), rfl⟩) dX6_kindAhead_53
      · refine lv_aload hx hb dX6_kindAhead_51 (lv_at hl 0 rfl) ?_
        exact cx_aret C hr (Or.inl ⟨_, rfl⟩) hlocks (some (zs D 10)) hW ⟨Nat.le_of_ble_eq_true rfl, Nat.le_of_ble_eq_true rfl⟩ (⟨Or.inr (Or.inl (⟨by omega, (by simpa using c_48 : nI 104 = fX at_).symm, rfl⟩)), rfl⟩) dX6_kindAhead_53
