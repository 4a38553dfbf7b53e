theorem gm_abs : Cond.static Lib.Math.abs.name ∈ gw ∧ Cond.code Lib.Math.abs.name Lib.Math.abs.code 1 (some .int) ∈ gw := ⟨gw_1811, by rw [show Lib.Math.abs.code = prog_28_method_59_code by decide +kernel]; exact gw_1812⟩
theorem gm_max : Cond.static Lib.Math.max.name ∈ gw ∧ Cond.code Lib.Math.max.name Lib.Math.max.code 2 (some .int) ∈ gw := ⟨gw_412, by rw [show Lib.Math.max.code = prog_28_method_65_code by decide +kernel]; exact gw_413⟩
theorem gm_min : Cond.static Lib.Math.min.name ∈ gw ∧ Cond.code Lib.Math.min.name Lib.Math.min.code 2 (some .int) ∈ gw := ⟨gw_409, by rw [show Lib.Math.min.code = prog_28_method_69_code by decide +kernel]; exact gw_410⟩
section MDM
variable {p : Program} {l : Launch} {e : Env} {R : Room} {s : State} {m : MethodId} {args : Array Value} {below : List Frame} {meth : Method} {c : Code} {H : Heap} {locs : List Loc} {cells slots : Nat} {Q : State → Prop} {cc : ByteArray} {pc : Nat} {ls : Array Slot} {rest : List Value} {D : va_G} {aT : Nat → ClassId} {nL : Nat}
theorem md_abs (C : MdX p c cc s args m D aT) (hml : c.maxLocals = nL) (hls : ls.size = nL) {index : Nat} (hk : Cond.methodLink RX10 index Lib.Math.abs.name ∈ gw) (hR : 1 ≤ R.frames ∧ 21 ≤ R.locals ∧ (rest.map fun v => v.category).sum ≤ 8) (hcs : cells ≤ R.cells ∧ slots ≤ R.slots) {x : Int32} (hdg : decode cc pc = .ok (.invokestatic index, 3))
    (kk : W p l e R s m args below meth c H locs cells slots Q (F0 m (pc + 3) ls (.int (if 0 ≤ x then x else 0 - x) :: rest))) : W p l e R s m args below meth c H locs cells slots Q (F0 m pc ls (.int x :: rest)) :=
  va_mabs C.1 C.2.1 (by rw [hml, hls]) C.2.2.2.1 (C.2.2.1 _ hk) (C.2.2.1 _ gm_abs.1) (C.2.2.1 _ gw_89) (C.2.2.1 _ gm_abs.2) hR.1 (by omega) hcs.1 hcs.2 hdg kk
theorem md_max (C : MdX p c cc s args m D aT) (hml : c.maxLocals = nL) (hls : ls.size = nL) {index : Nat} (hk : Cond.methodLink RX10 index Lib.Math.max.name ∈ gw) (hR : 1 ≤ R.frames ∧ 21 ≤ R.locals ∧ (rest.map fun v => v.category).sum ≤ 8) (hcs : cells ≤ R.cells ∧ slots ≤ R.slots) {x y : Int32} (hdg : decode cc pc = .ok (.invokestatic index, 3))
    (kk : W p l e R s m args below meth c H locs cells slots Q (F0 m (pc + 3) ls (.int (if x < y then y else x) :: rest))) : W p l e R s m args below meth c H locs cells slots Q (F0 m pc ls (.int y :: .int x :: rest)) :=
  va_mmax C.1 C.2.1 (by rw [hml, hls]) C.2.2.2.1 (C.2.2.1 _ hk) (C.2.2.1 _ gm_max.1) (C.2.2.1 _ gw_89) (C.2.2.1 _ gm_max.2) hR.1 (by omega) hcs.1 hcs.2 hdg kk
theorem md_min (C : MdX p c cc s args m D aT) (hml : c.maxLocals = nL) (hls : ls.size = nL) {index : Nat} (hk : Cond.methodLink RX10 index Lib.Math.min.name ∈ gw) (hR : 1 ≤ R.frames ∧ 21 ≤ R.locals ∧ (rest.map fun v => v.category).sum ≤ 8) (hcs : cells ≤ R.cells ∧ slots ≤ R.slots) {x y : Int32} (hdg : decode cc pc = .ok (.invokestatic index, 3))
    (kk : W p l e R s m args below meth c H locs cells slots Q (F0 m (pc + 3) ls (.int (if y < x then y else x) :: rest))) : W p l e R s m args below meth c H locs cells slots Q (F0 m pc ls (.int y :: .int x :: rest)) :=
  va_mmin C.1 C.2.1 (by rw [hml, hls]) C.2.2.2.1 (C.2.2.1 _ hk) (C.2.2.1 _ gm_min.1) (C.2.2.1 _ gw_89) (C.2.2.1 _ gm_min.2) hR.1 (by omega) hcs.1 hcs.2 hdg kk
theorem gk_max : Cond.methodLink RX10 138 Lib.Math.max.name ∈ gw := gw_1793
theorem gk_abs : Cond.methodLink RX10 89 Lib.Math.abs.name ∈ gw := gw_1810
theorem gk_min : Cond.methodLink RX10 160 Lib.Math.min.name ∈ gw := gw_1833
end MDM
theorem gT_throwing : GoodIn gw (wsV RX10 101 RX10 yX10_throwing (Cond.code yX10_throwing cX10_throwing 2 (some .int) :: gw)) := gdV gw_1713 gw_1715 gw_23 gw_81 gw_1716
theorem hd_throwing : yX10_throwing.cls = RX10 ∧ yX10_throwing.cls ≠ "java/lang/invoke/MethodHandle" ∧ yX10_throwing.cls ≠ "java/lang/invoke/VarHandle" ∧ (parseMethodDescriptor yX10_throwing.desc).map (fun d => d.parameters.length) = some 1 := ⟨rfl, by decide +kernel, by decide +kernel, by decide +kernel⟩
theorem dX10_throwing_0 : decode cX10_throwing 0 = .ok (.aload_n 0, 1) := by decide +kernel
theorem dX10_throwing_1 : decode cX10_throwing 1 = .ok (.iload_n 1, 1) := by decide +kernel
theorem dX10_throwing_2 : decode cX10_throwing 2 = .ok (.putfield 57, 3) := by decide +kernel
theorem dX10_throwing_5 : decode cX10_throwing 5 = .ok (.iconst (-1), 1) := by decide +kernel
theorem dX10_throwing_6 : decode cX10_throwing 6 = .ok (.ireturn, 1) := by decide +kernel
set_option maxHeartbeats 1000000 in
set_option maxRecDepth 20000 in
theorem m_throwing (l : Launch) (D : va_G) (aT : Nat → ClassId) (ad : Nat → Nat) (S : MSt) (t : Nat) : MdI l yX10_throwing cX10_throwing 2 .int 0 0 D aT ad [.ref (ad 0), .int (nI t)] S (fun r S1 => r = -1 ∧ S1 = ss S 8 (nI t)) := by
  refine MdI.of (by decide +kernel) rfl (Nat.le_of_ble_eq_true rfl) ?_
  intro p e s m below meth c A ls C hml hl hA hr hlocks hW
  have hl : lv_has ls 2 [(0, .ref (ad 0)), (1, .int (nI t))] := hl
  have hx := C.1
  have hb := C.2.1
  refine lv_aload_n hx hb dX10_throwing_0 rfl (lv_at hl 0 rfl) ?_
  refine lv_iload_n hx hb dX10_throwing_1 rfl (lv_at hl 1 rfl) ?_
  refine md_put_thrown C hW dX10_throwing_2 (fun H locs hW => ?_)
  refine lv_iconst (v := (-1)) hx hb dX10_throwing_5 (by decide) ?_
  exact md_iret C hr hlocks rfl hW (⟨rfl, rfl⟩) dX10_throwing_6
theorem gT_far : GoodIn gw (wsV RX10 94 RX10 yX10_far (Cond.code yX10_far cX10_far 3 (some .int) :: gw)) := gdV gw_1806 gw_1808 gw_40 gw_81 gw_1809
theorem hd_far : yX10_far.cls = RX10 ∧ yX10_far.cls ≠ "java/lang/invoke/MethodHandle" ∧ yX10_far.cls ≠ "java/lang/invoke/VarHandle" ∧ (parseMethodDescriptor yX10_far.desc).map (fun d => d.parameters.length) = some 2 := ⟨rfl, by decide +kernel, by decide +kernel, by decide +kernel⟩
theorem dX10_far_0 : decode cX10_far 0 = .ok (.aload_n 0, 1) := by decide +kernel
theorem dX10_far_1 : decode cX10_far 1 = .ok (.getfield 9, 3) := by decide +kernel
theorem dX10_far_4 : decode cX10_far 4 = .ok (.iload_n 1, 1) := by decide +kernel
theorem dX10_far_5 : decode cX10_far 5 = .ok (.invokestatic 86, 3) := by decide +kernel
theorem dX10_far_8 : decode cX10_far 8 = .ok (.iconst 2, 1) := by decide +kernel
theorem dX10_far_9 : decode cX10_far 9 = .ok (.iadd, 1) := by decide +kernel
theorem dX10_far_10 : decode cX10_far 10 = .ok (.iaload, 1) := by decide +kernel
theorem dX10_far_11 : decode cX10_far 11 = .ok (.aload_n 0, 1) := by decide +kernel
theorem dX10_far_12 : decode cX10_far 12 = .ok (.iload_n 2, 1) := by decide +kernel
theorem dX10_far_13 : decode cX10_far 13 = .ok (.iconst 2, 1) := by decide +kernel
theorem dX10_far_14 : decode cX10_far 14 = .ok (.invokevirtual 67, 3) := by decide +kernel
theorem dX10_far_17 : decode cX10_far 17 = .ok (.isub, 1) := by decide +kernel
theorem dX10_far_18 : decode cX10_far 18 = .ok (.invokestatic 89, 3) := by decide +kernel
theorem dX10_far_21 : decode cX10_far 21 = .ok (.ireturn, 1) := by decide +kernel
set_option maxHeartbeats 1000000 in
set_option maxRecDepth 20000 in
theorem m_far (l : Launch) (D : va_G) (aT : Nat → ClassId) (ad : Nat → Nat) (S : MSt) (i k a b : Nat) (ha : S 0 (11 + 3 * i + 2) = nI a) (hb2 : S 0 (29 + 4 * k + 2) = nI b) (ha9 : a ≤ 9) (hb9 : b ≤ 9) (hi : i < 6) (hk : k < 12) : MdG l yX10_far cX10_far 3 .int 1 24 D aT ad [.ref (ad 0), .int (nI i), .int (nI k)] S (fun r => r = nI (dif a b)) := by
  refine MdI.of (by decide +kernel) rfl (Nat.le_of_ble_eq_true rfl) ?_
  intro p e s m below meth c A ls C hml hl hA hr hlocks hW
  have hl : lv_has ls 3 [(0, .ref (ad 0)), (1, .int (nI i)), (2, .int (nI k))] := hl
  have hx := C.1
  have hb := C.2.1
  refine lv_aload_n hx hb dX10_far_0 rfl (lv_at hl 0 rfl) ?_
  refine md_geta_m C hW dX10_far_1 ?_
  refine lv_iload_n hx hb dX10_far_4 rfl (lv_at hl 1 rfl) ?_
  refine md_calls C hml hl.1 (As := [.int (nI i)]) (rest := [.ref (ad 1)]) (m_hedgeAt l i) gT_hedgeAt hd_hedgeAt rfl ⟨Nat.le_of_ble_eq_true rfl, Nat.le_of_ble_eq_true rfl⟩ ⟨Nat.le_refl _, Nat.le_refl _⟩ rfl (Nat.le_of_ble_eq_true rfl) dX10_far_5 (fun r_5 hq => ?_)
  subst hq
  refine lv_iconst (v := nI 2) hx hb dX10_far_8 (by decide) ?_
  refine r_iaddN hx hb (a := (11 + 3 * i)) (b := 2) dX10_far_9 ?_
  refine md_ald_m C hW (i := 11 + 3 * i + 2) (by omega) dX10_far_10 ?_
  refine r_eq (ha) ?_
  refine lv_aload_n hx hb dX10_far_11 rfl (lv_at hl 0 rfl) ?_
  refine lv_iload_n hx hb dX10_far_12 rfl (lv_at hl 2 rfl) ?_
  refine lv_iconst (v := nI 2) hx hb dX10_far_13 (by decide) ?_
  refine md_callg C hml hl.1 (As := [.int (nI k), .int (nI 2)]) (rest := [.int (nI a)]) (m_of l D aT ad S k 2 (by omega)) gT_of hd_of rfl ⟨Nat.le_of_ble_eq_true rfl, Nat.le_of_ble_eq_true rfl⟩ ⟨Nat.le_refl _, Nat.le_refl _⟩ hW hA rfl (Nat.le_of_ble_eq_true rfl) dX10_far_14 (fun r_14 H locs hq hW => ?_)
  subst hq
  refine r_eq (hb2) ?_
  refine lv_isub hx hb dX10_far_17 ?_
  refine md_abs C hml hl.1 gk_abs ⟨Nat.le_of_ble_eq_true rfl, Nat.le_of_ble_eq_true rfl, Nat.le_of_ble_eq_true rfl⟩ ⟨Nat.le_refl _, Nat.le_refl _⟩ dX10_far_18 ?_
  refine r_eq (dif_abs (by omega) (by omega)) ?_
  exact md_iret C hr hlocks rfl hW (⟨rfl, rfl⟩) dX10_far_21
