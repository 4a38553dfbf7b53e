theorem gm_abs : Cond.static Lib.Math.abs.name ∈ gw ∧ Cond.code Lib.Math.abs.name Lib.Math.abs.code 1 (some .int) ∈ gw := ⟨gw_1817, by rw [show Lib.Math.abs.code = prog_28_method_59_code by decide +kernel]; exact gw_1818⟩
theorem gm_max : Cond.static Lib.Math.max.name ∈ gw ∧ Cond.code Lib.Math.max.name Lib.Math.max.code 2 (some .int) ∈ gw := ⟨gw_413, by rw [show Lib.Math.max.code = prog_28_method_65_code by decide +kernel]; exact gw_414⟩
theorem gm_min : Cond.static Lib.Math.min.name ∈ gw ∧ Cond.code Lib.Math.min.name Lib.Math.min.code 2 (some .int) ∈ gw := ⟨gw_410, by rw [show Lib.Math.min.code = prog_28_method_69_code by decide +kernel]; exact gw_411⟩
section MDM
variable {p : Program} {l : Launch} {e : Env} {R : Room} {s : State} {m : MethodId} {args : Array Value} {below : List Frame} {meth : Method} {c : Code} {H : Heap} {locs : List Loc} {cells slots : Nat} {Q : State → Prop} {cc : ByteArray} {pc : Nat} {ls : Array Slot} {rest : List Value} {D : va_G} {aT : Nat → ClassId} {nL : Nat}
theorem md_abs (C : MdX p c cc s args m D aT) (hml : c.maxLocals = nL) (hls : ls.size = nL) {index : Nat} (hk : Cond.methodLink RX10 index Lib.Math.abs.name ∈ gw) (hR : 1 ≤ R.frames ∧ 21 ≤ R.locals ∧ (rest.map fun v => v.category).sum ≤ 8) (hcs : cells ≤ R.cells ∧ slots ≤ R.slots) {x : Int32} (hdg : decode cc pc = .ok (.invokestatic index, 3))
    (kk : W p l e R s m args below meth c H locs cells slots Q (F0 m (pc + 3) ls (.int (if 0 ≤ x then x else 0 - x) :: rest))) : W p l e R s m args below meth c H locs cells slots Q (F0 m pc ls (.int x :: rest)) :=
  va_mabs C.1 C.2.1 (by rw [hml, hls]) C.2.2.2.1 (C.2.2.1 _ hk) (C.2.2.1 _ gm_abs.1) (C.2.2.1 _ gw_89) (C.2.2.1 _ gm_abs.2) hR.1 (by omega) hcs.1 hcs.2 hdg kk
theorem md_max (C : MdX p c cc s args m D aT) (hml : c.maxLocals = nL) (hls : ls.size = nL) {index : Nat} (hk : Cond.methodLink RX10 index Lib.Math.max.name ∈ gw) (hR : 1 ≤ R.frames ∧ 21 ≤ R.locals ∧ (rest.map fun v => v.category).sum ≤ 8) (hcs : cells ≤ R.cells ∧ slots ≤ R.slots) {x y : Int32} (hdg : decode cc pc = .ok (.invokestatic index, 3))
    (kk : W p l e R s m args below meth c H locs cells slots Q (F0 m (pc + 3) ls (.int (if x < y then y else x) :: rest))) : W p l e R s m args below meth c H locs cells slots Q (F0 m pc ls (.int y :: .int x :: rest)) :=
  va_mmax C.1 C.2.1 (by rw [hml, hls]) C.2.2.2.1 (C.2.2.1 _ hk) (C.2.2.1 _ gm_max.1) (C.2.2.1 _ gw_89) (C.2.2.1 _ gm_max.2) hR.1 (by omega) hcs.1 hcs.2 hdg kk
theorem md_min (C : MdX p c cc s args m D aT) (hml : c.maxLocals = nL) (hls : ls.size = nL) {index : Nat} (hk : Cond.methodLink RX10 index Lib.Math.min.name ∈ gw) (hR : 1 ≤ R.frames ∧ 21 ≤ R.locals ∧ (rest.map fun v => v.category).sum ≤ 8) (hcs : cells ≤ R.cells ∧ slots ≤ R.slots) {x y : Int32} (hdg : decode cc pc = .ok (.invokestatic index, 3))
    (kk : W p l e R s m args below meth c H locs cells slots Q (F0 m (pc + 3) ls (.int (if y < x then y else x) :: rest))) : W p l e R s m args below meth c H locs cells slots Q (F0 m pc ls (.int y :: .int x :: rest)) :=
  va_mmin C.1 C.2.1 (by rw [hml, hls]) C.2.2.2.1 (C.2.2.1 _ hk) (C.2.2.1 _ gm_min.1) (C.2.2.1 _ gw_89) (C.2.2.1 _ gm_min.2) hR.1 (by omega) hcs.1 hcs.2 hdg kk
theorem gk_max : Cond.methodLink RX10 138 Lib.Math.max.name ∈ gw := gw_1799
theorem gk_abs : Cond.methodLink RX10 89 Lib.Math.abs.name ∈ gw := gw_1816
theorem gk_min : Cond.methodLink RX10 160 Lib.Math.min.name ∈ gw := gw_1839
end MDM
theorem gT_throwing : GoodIn gw (wsV RX10 101 RX10 yX10_throwing (Cond.code yX10_throwing cX10_throwing 2 (some .int) :: gw)) := gdV gw_1719 gw_1721 gw_23 gw_81 gw_1722
theorem hd_throwing : yX10_throwing.cls = RX10 ∧ yX10_throwing.cls ≠ "java/lang/invoke/MethodHandle" ∧ yX10_throwing.cls ≠ "java/lang/invoke/VarHandle" ∧ (parseMethodDescriptor yX10_throwing.desc).map (fun d => d.parameters.length) = some 1 := ⟨rfl, by decide +kernel, by decide +kernel, by decide +kernel⟩
theorem dX10_throwing_0 : decode cX10_throwing 0 = .ok (.aload_n 0, 1) := by decide +kernel
theorem dX10_throwing_1 : decode cX10_throwing 1 = .ok (.iload_n 1, 1) := by decide +kernel
theorem dX10_throwing_2 : decode cX10_throwing 2 = .ok (.putfield 57, 3) := by decide +kernel
theorem dX10_throwing_5 : decode cX10_throwing 5 = .ok (.iconst (-1), 1) := by decide +kernel
theorem dX10_throwing_6 : decode cX10_throwing 6 = .ok (.ireturn, 1) := by decide +kernel
set_option maxHeartbeats 1000000 in
set_option maxRecDepth 20000 in
theorem m_throwing (l : Launch) (D : va_G) (aT : Nat → ClassId) (ad : Nat → Nat) (S : MSt) (t : Nat) : MdI l yX10_throwing cX10_throwing 2 .int 0 0 D aT ad [.ref (ad 0), .int (nI t)] S (fun r S1 => r = -1 ∧ S1 = ss S 8 (nI t)) := by
  refine MdI.of (by decide +kernel) rfl (Nat.le_of_ble_eq_true rfl) ?_
  intro p e s m below meth c A ls C hml hl hA hr hlocks hW
  have hl : lv_has ls 2 [(0, .ref (ad 0)), (1, .int (nI t))] := hl
  have hx := C.1
  have hb := C.2.1
  refine lv_aload_n hx hb dX10_throwing_0 rfl (lv_at hl 0 rfl) ?_
  refine lv_iload_n hx hb dX10_throwing_1 rfl (lv_at hl 1 rfl) ?_
  refine md_put_thrown C hW dX10_throwing_2 (fun H locs hW => ?_)
  refine lv_iconst (v := (-1)) hx hb dX10_throwing_5 (by decide) ?_
  exact md_iret C hr hlocks rfl hW (⟨rfl, rfl⟩) dX10_throwing_6
theorem gT_far : GoodIn gw (wsV RX10 94 RX10 yX10_far (Cond.code yX10_far cX10_far 3 (some .int) :: gw)) := gdV gw_1812 gw_1814 gw_40 gw_81 gw_1815
theorem hd_far : yX10_far.cls = RX10 ∧ yX10_far.cls ≠ "java/lang/invoke/MethodHandle" ∧ yX10_far.cls ≠ "java/lang/invoke/VarHandle" ∧ (parseMethodDescriptor yX10_far.desc).map (fun d => d.parameters.length) = some 2 := ⟨rfl, by decide +kernel, by decide +kernel, by decide +kernel⟩
theorem dX10_far_0 : decode cX10_far 0 = .ok (.aload_n 0, 1) := by decide +kernel
theorem dX10_far_1 : decode cX10_far 1 = .ok (.getfield 9, 3) := by decide +kernel
theorem dX10_far_4 : decode cX10_far 4 = .ok (.iload_n 1, 1) := by decide +kernel
theorem dX10_far_5 : decode cX10_far 5 = .ok (.invokestatic 86, 3) := by decide +kernel
theorem dX10_far_8 : decode cX10_far 8 = .ok (.iconst 2, 1) := by decide +kernel
theorem dX10_far_9 : decode cX10_far 9 = .ok (.iadd, 1) := by decide +kernel
theorem dX10_far_10 : decode cX10_far 10 = .ok (.iaload, 1) := by decide +kernel
theorem dX10_far_11 : decode cX10_far 11 = .ok (.aload_n 0, 1) := by decide +kernel
theorem dX10_far_12 : decode cX10_far 12 = .ok (.iload_n 2, 1) := by decide +kernel
theorem dX10_far_13 : decode cX10_far 13 = .ok (.iconst 2, 1) := by decide +kernel
theorem dX10_far_14 : decode cX10_far 14 = .ok (.invokevirtual 67, 3) := by decide +kernel
theorem dX10_far_17 : decode cX10_far 17 = .ok (.isub, 1) := by decide +kernel
theorem dX10_far_18 : decode cX10_far 18 = .ok (.invokestatic 89, 3) := by decide +kernel
theorem dX10_far_21 : decode cX10_far 21 = .ok (.ireturn, 1) := by decide +kernel
set_option maxHeartbeats 1000000 in
set_option maxRecDepth 20000 in
theorem m_far (l : Launch) (D : va_G) (aT : Nat → ClassId) (ad : Nat → Nat) (S : MSt) (i k a b : Nat) (ha : S 0 (11 + 3 * i + 2) = nI a) (hb2 : S 0 (29 + 4 * k + 2) = nI b) (ha9 : a ≤ 9) (hb9 : b ≤ 9) (hi : i < 6) (hk : k < 12) : MdG l yX10_far cX10_far 3 .int 1 24 D aT ad [.ref (ad 0), .int (nI i), .int (nI k)] S (fun r => r = nI (dif a b)) := by
  refine MdI.of (by decide +kernel) rfl (Nat.le_of_ble_eq_true rfl) ?_
  intro p e s m below meth c A ls C hml hl hA hr hlocks hW
  have hl : lv_has ls 3 [(0, .ref (ad 0)), (1, .int (nI i)), (2, .int (nI k))] := hl
  have hx := C.1
  have hb := C.2.1
  refine lv_aload_n hx hb dX10_far_0 rfl (lv_at hl 0 rfl) ?_
  refine md_geta_m C hW dX10_far_1 ?_
  refine lv_iload_n hx hb dX10_far_4 rfl (lv_at hl 1 rfl) ?_
  refine md_calls C hml hl.1 (As := [.int (nI i)]) (rest := [.ref (ad 1)]) (m_hedgeAt l i) gT_hedgeAt hd_hedgeAt rfl ⟨Nat.le_of_ble_eq_true rfl, Nat.le_of_ble_eq_true rfl⟩ ⟨Nat.le_refl _, Nat.le_refl _⟩ rfl (Nat.le_of_ble_eq_true rfl) dX10_far_5 (fun r_5 hq => ?_)
  subst hq
  refine lv_iconst (v := nI 2) hx hb dX10_far_8 (by decide) ?_
  refine r_iaddN hx hb (a := (11 + 3 * i)) (b := 2) dX10_far_9 ?_
  refine md_ald_m C hW (i := 11 + 3 * i + 2) (by omega) dX10_far_10 ?_
  refine r_eq (y := (nI a)) (ha) ?_
  refine lv_aload_n hx hb dX10_far_11 rfl (lv_at hl 0 rfl) ?_
  refine lv_iload_n hx hb dX10_far_12 rfl (lv_at hl 2 rfl) ?_
  refine lv_iconst (v := nI 2) hx hb dX10_far_13 (by decide) ?_
  refine md_callg C hml hl.1 (As := [.int (nI k), .int (nI 2)]) (rest := [.int (nI a)]) (m_of l D aT ad S k 2 (by omega)) gT_of hd_of rfl ⟨Nat.le_of_ble_eq_true rfl, Nat.le_of_ble_eq_true rfl⟩ ⟨Nat.le_refl _, Nat.le_refl _⟩ hW hA rfl (Nat.le_of_ble_eq_true rfl) dX10_far_14 (fun r_14 H locs hq hW => ?_)
  subst hq
  refine r_eq (y := (nI b)) (hb2) ?_
  refine lv_isub hx hb dX10_far_17 ?_
  refine md_abs C hml hl.1 gk_abs ⟨Nat.le_of_ble_eq_true rfl, Nat.le_of_ble_eq_true rfl, Nat.le_of_ble_eq_true rfl⟩ ⟨Nat.le_refl _, Nat.le_refl _⟩ dX10_far_18 ?_
  refine r_eq (y := (nI (dif a b))) (dif_abs (by omega) (by omega)) ?_
  exact md_iret C hr hlocks rfl hW (⟨rfl, rfl⟩) dX10_far_21
theorem gT_vetoes : GoodIn gw (wsV RX10 144 RX10 yX10_vetoes (Cond.code yX10_vetoes cX10_vetoes 3 (some .boolean) :: gw)) := gdV gw_1808 gw_1810 gw_39 gw_81 gw_1811
theorem hd_vetoes : yX10_vetoes.cls = RX10 ∧ yX10_vetoes.cls ≠ "java/lang/invoke/MethodHandle" ∧ yX10_vetoes.cls ≠ "java/lang/invoke/VarHandle" ∧ (parseMethodDescriptor yX10_vetoes.desc).map (fun d => d.parameters.length) = some 2 := ⟨rfl, by decide +kernel, by decide +kernel, by decide +kernel⟩
theorem dX10_vetoes_0 : decode cX10_vetoes 0 = .ok (.aload_n 0, 1) := by decide +kernel
theorem dX10_vetoes_1 : decode cX10_vetoes 1 = .ok (.iload_n 1, 1) := by decide +kernel
theorem dX10_vetoes_2 : decode cX10_vetoes 2 = .ok (.iload_n 2, 1) := by decide +kernel
theorem dX10_vetoes_3 : decode cX10_vetoes 3 = .ok (.invokevirtual 94, 3) := by decide +kernel
theorem dX10_vetoes_6 : decode cX10_vetoes 6 = .ok (.bipush 7, 2) := by decide +kernel
theorem dX10_vetoes_8 : decode cX10_vetoes 8 = .ok (.if_icmp .lt 21, 3) := by decide +kernel
theorem dX10_vetoes_11 : decode cX10_vetoes 11 = .ok (.aload_n 0, 1) := by decide +kernel
theorem dX10_vetoes_12 : decode cX10_vetoes 12 = .ok (.getfield 9, 3) := by decide +kernel
theorem dX10_vetoes_15 : decode cX10_vetoes 15 = .ok (.iload_n 1, 1) := by decide +kernel
theorem dX10_vetoes_16 : decode cX10_vetoes 16 = .ok (.invokestatic 86, 3) := by decide +kernel
theorem dX10_vetoes_19 : decode cX10_vetoes 19 = .ok (.iconst 1, 1) := by decide +kernel
theorem dX10_vetoes_20 : decode cX10_vetoes 20 = .ok (.iadd, 1) := by decide +kernel
theorem dX10_vetoes_21 : decode cX10_vetoes 21 = .ok (.iaload, 1) := by decide +kernel
theorem dX10_vetoes_22 : decode cX10_vetoes 22 = .ok (.ifCond .le 7, 3) := by decide +kernel
theorem dX10_vetoes_25 : decode cX10_vetoes 25 = .ok (.iconst 1, 1) := by decide +kernel
theorem dX10_vetoes_26 : decode cX10_vetoes 26 = .ok (.goto 4, 3) := by decide +kernel
theorem dX10_vetoes_29 : decode cX10_vetoes 29 = .ok (.iconst 0, 1) := by decide +kernel
theorem dX10_vetoes_30 : decode cX10_vetoes 30 = .ok (.ireturn, 1) := by decide +kernel
set_option maxHeartbeats 1000000 in
set_option maxRecDepth 20000 in
theorem m_vetoes (l : Launch) (D : va_G) (aT : Nat → ClassId) (ad : Nat → Nat) (S : MSt) (h : Nat) (lv th ta : Nat → Nat) (hH : HeR (S 0) h lv th ta) (n : Nat) (idn : Nat → Nat) (pr : Nat → Option Nat) (tn : Nat → Nat) (hF : FoR (S 0) n idn pr tn) (i k : Nat) (hi : i < h) (hk : k < n) : MdG l yX10_vetoes cX10_vetoes 3 .boolean 2 46 D aT ad [.ref (ad 0), .int (nI i), .int (nI k)] S (fun r => r = bI (vetB (dif (ta i) (tn k)) (th i))) := by
  refine MdI.of (by decide +kernel) rfl (Nat.le_of_ble_eq_true rfl) ?_
  intro p e s m below meth c A ls C hml hl hA hr hlocks hW
  have hl : lv_has ls 3 [(0, .ref (ad 0)), (1, .int (nI i)), (2, .int (nI k))] := hl
  have hx := C.1
  have hb := C.2.1
  refine lv_aload_n hx hb dX10_vetoes_0 rfl (lv_at hl 0 rfl) ?_
  refine lv_iload_n hx hb dX10_vetoes_1 rfl (lv_at hl 1 rfl) ?_
  refine lv_iload_n hx hb dX10_vetoes_2 rfl (lv_at hl 2 rfl) ?_
  refine md_callg C hml hl.1 (As := [.int (nI i), .int (nI k)]) (rest := []) (m_far l D aT ad S i k (ta i) (tn k) (hH.2.2.2.2 _ (hi)).1 (hF.2.2.2.2.2.2 _ (hk)).1 (hH.2.2.2.2 _ (hi)).2 (hF.2.2.2.2.2.2 _ (hk)).2 (Nat.lt_of_lt_of_le (hi) hH.2.1) (Nat.lt_of_lt_of_le (hk) hF.2.1)) gT_far hd_far rfl ⟨Nat.le_of_ble_eq_true rfl, Nat.le_of_ble_eq_true rfl⟩ ⟨Nat.le_refl _, Nat.le_refl _⟩ hW hA rfl (Nat.le_of_ble_eq_true rfl) dX10_vetoes_3 (fun r_3 H locs hq hW => ?_)
  subst hq
  refine lv_bipush (v := nI 7) hx hb dX10_vetoes_6 (by decide) ?_
  refine r_ltN hx hb (a := (dif (ta i) (tn k))) (b := 7) (by have := (hH.2.2.2.2 i hi).2; have := (hF.2.2.2.2.2.2 k hk).2; first | omega | (unfold dif; omega)) (by have := (hH.2.2.2.2 i hi).2; have := (hF.2.2.2.2.2.2 k hk).2; first | omega | (unfold dif; omega)) (tgt := 29) dX10_vetoes_8 (by decide) (fun c_8 => ?_) (fun c_8 => ?_)
  · refine lv_iconst (v := nI 0) hx hb dX10_vetoes_29 (by decide) ?_
    exact md_iret C hr hlocks (by decide) hW (⟨by rw [show vetB _ _ = false from decide_eq_false (by omega)]; rfl, rfl⟩) dX10_vetoes_30
  · refine lv_aload_n hx hb dX10_vetoes_11 rfl (lv_at hl 0 rfl) ?_
    refine md_geta_m C hW dX10_vetoes_12 ?_
    refine lv_iload_n hx hb dX10_vetoes_15 rfl (lv_at hl 1 rfl) ?_
    refine md_calls C hml hl.1 (As := [.int (nI i)]) (rest := [.ref (ad 1)]) (m_hedgeAt l i) gT_hedgeAt hd_hedgeAt rfl ⟨Nat.le_of_ble_eq_true rfl, Nat.le_of_ble_eq_true rfl⟩ ⟨Nat.le_refl _, Nat.le_refl _⟩ rfl (Nat.le_of_ble_eq_true rfl) dX10_vetoes_16 (fun r_16 hq => ?_)
    subst hq
    refine lv_iconst (v := nI 1) hx hb dX10_vetoes_19 (by decide) ?_
    refine r_iaddN hx hb (a := (11 + 3 * i)) (b := 1) dX10_vetoes_20 ?_
    refine md_ald_m C hW (i := 11 + 3 * i + 1) (by have := hH.2.1; omega) dX10_vetoes_21 ?_
    refine r_eq (y := (nI (th i))) ((hH.2.2.2.1 i hi).1) ?_
    refine r_ifleN hx hb (a := (th i)) (by have := (hH.2.2.2.1 i hi).2; omega) (tgt := 29) dX10_vetoes_22 (by decide) (fun c_22 => ?_) (fun c_22 => ?_)
    · refine lv_iconst (v := nI 0) hx hb dX10_vetoes_29 (by decide) ?_
      exact md_iret C hr hlocks (by decide) hW (⟨by rw [show vetB _ _ = false from decide_eq_false (by omega)]; rfl, rfl⟩) dX10_vetoes_30
    · refine lv_iconst (v := nI 1) hx hb dX10_vetoes_25 (by decide) ?_
      refine lv_goto (tgt := 30) hx hb dX10_vetoes_26 (by decide) ?_
      exact md_iret C hr hlocks (by decide) hW (⟨by rw [show vetB _ _ = true from decide_eq_true (by omega)]; rfl, rfl⟩) dX10_vetoes_30
theorem gT_favour : GoodIn gw (wsV RX10 147 RX10 yX10_favour (Cond.code yX10_favour cX10_favour 4 (some .int) :: gw)) := gdV gw_1819 gw_1821 gw_41 gw_81 gw_1822
theorem hd_favour : yX10_favour.cls = RX10 ∧ yX10_favour.cls ≠ "java/lang/invoke/MethodHandle" ∧ yX10_favour.cls ≠ "java/lang/invoke/VarHandle" ∧ (parseMethodDescriptor yX10_favour.desc).map (fun d => d.parameters.length) = some 1 := ⟨rfl, by decide +kernel, by decide +kernel, by decide +kernel⟩
theorem dX10_favour_0 : decode cX10_favour 0 = .ok (.iconst 0, 1) := by decide +kernel
theorem dX10_favour_1 : decode cX10_favour 1 = .ok (.istore_n 2, 1) := by decide +kernel
theorem dX10_favour_2 : decode cX10_favour 2 = .ok (.iconst 0, 1) := by decide +kernel
theorem dX10_favour_3 : decode cX10_favour 3 = .ok (.istore_n 3, 1) := by decide +kernel
theorem dX10_favour_4 : decode cX10_favour 4 = .ok (.iload_n 3, 1) := by decide +kernel
theorem dX10_favour_5 : decode cX10_favour 5 = .ok (.aload_n 0, 1) := by decide +kernel
theorem dX10_favour_6 : decode cX10_favour 6 = .ok (.getfield 9, 3) := by decide +kernel
theorem dX10_favour_9 : decode cX10_favour 9 = .ok (.iconst 0, 1) := by decide +kernel
theorem dX10_favour_10 : decode cX10_favour 10 = .ok (.iaload, 1) := by decide +kernel
theorem dX10_favour_11 : decode cX10_favour 11 = .ok (.if_icmp .ge 35, 3) := by decide +kernel
theorem dX10_favour_14 : decode cX10_favour 14 = .ok (.iload_n 2, 1) := by decide +kernel
theorem dX10_favour_15 : decode cX10_favour 15 = .ok (.aload_n 0, 1) := by decide +kernel
theorem dX10_favour_16 : decode cX10_favour 16 = .ok (.iload_n 3, 1) := by decide +kernel
theorem dX10_favour_17 : decode cX10_favour 17 = .ok (.iload_n 1, 1) := by decide +kernel
theorem dX10_favour_18 : decode cX10_favour 18 = .ok (.invokevirtual 94, 3) := by decide +kernel
theorem dX10_favour_21 : decode cX10_favour 21 = .ok (.iconst 3, 1) := by decide +kernel
theorem dX10_favour_22 : decode cX10_favour 22 = .ok (.if_icmp .gt 15, 3) := by decide +kernel
theorem dX10_favour_25 : decode cX10_favour 25 = .ok (.aload_n 0, 1) := by decide +kernel
theorem dX10_favour_26 : decode cX10_favour 26 = .ok (.getfield 9, 3) := by decide +kernel
theorem dX10_favour_29 : decode cX10_favour 29 = .ok (.iload_n 3, 1) := by decide +kernel
theorem dX10_favour_30 : decode cX10_favour 30 = .ok (.invokestatic 86, 3) := by decide +kernel
theorem dX10_favour_33 : decode cX10_favour 33 = .ok (.iaload, 1) := by decide +kernel
theorem dX10_favour_34 : decode cX10_favour 34 = .ok (.goto 4, 3) := by decide +kernel
theorem dX10_favour_37 : decode cX10_favour 37 = .ok (.iconst 0, 1) := by decide +kernel
theorem dX10_favour_38 : decode cX10_favour 38 = .ok (.iadd, 1) := by decide +kernel
theorem dX10_favour_39 : decode cX10_favour 39 = .ok (.istore_n 2, 1) := by decide +kernel
theorem dX10_favour_40 : decode cX10_favour 40 = .ok (.iinc 3 1, 3) := by decide +kernel
theorem dX10_favour_43 : decode cX10_favour 43 = .ok (.goto (-39), 3) := by decide +kernel
theorem dX10_favour_46 : decode cX10_favour 46 = .ok (.iload_n 2, 1) := by decide +kernel
theorem dX10_favour_47 : decode cX10_favour 47 = .ok (.ireturn, 1) := by decide +kernel
set_option maxHeartbeats 1000000 in
set_option maxRecDepth 20000 in
theorem m_favour (l : Launch) (D : va_G) (aT : Nat → ClassId) (ad : Nat → Nat) (S : MSt) (h : Nat) (lv th ta : Nat → Nat) (hH : HeR (S 0) h lv th ta) (n : Nat) (idn : Nat → Nat) (pr : Nat → Option Nat) (tn : Nat → Nat) (hF : FoR (S 0) n idn pr tn) (k : Nat) (hk : k < n) : MdG l yX10_favour cX10_favour 4 .int 2 46 D aT ad [.ref (ad 0), .int (nI k)] S (fun r => r = nI (fav lv ta (tn k) h)) := by
  refine MdI.of (by decide +kernel) rfl (Nat.le_of_ble_eq_true rfl) ?_
  intro p e s m below meth c A ls C hml hl hA hr hlocks hW
  have hl : lv_has ls 4 [(0, .ref (ad 0)), (1, .int (nI k))] := hl
  have hx := C.1
  have hb := C.2.1
  refine lv_iconst (v := nI 0) hx hb dX10_favour_0 (by decide) ?_
  refine lv_istore_n (lv' := [(2, .int (nI 0)), (0, .ref (ad 0)), (1, .int (nI k))]) hx hb dX10_favour_1 rfl hl (by decide) rfl (fun ls hl => ?_)
  refine lv_iconst (v := nI 0) hx hb dX10_favour_2 (by decide) ?_
  refine lv_istore_n (lv' := [(3, .int (nI 0)), (2, .int (nI 0)), (0, .ref (ad 0)), (1, .int (nI k))]) hx hb dX10_favour_3 rfl hl (by decide) rfl (fun ls hl => ?_)
  refine W_loopH (σ := Nat × Nat) (fun z_ => h - z_.2) (fun z_ H locs g => ∃ ls, g = F0 m 4 ls [] ∧ lv_has ls 4 [(0, .ref (ad 0)), (1, .int (nI k)), (2, .int (nI z_.1)), (3, .int (nI z_.2))] ∧ MdB D aT ad S A s.heap H locs ∧ (z_.1 = fav lv ta (tn k) z_.2 ∧ z_.2 ≤ h)) ?_ (0, 0) _ ⟨_, rfl, lv_sub hl [2, 3, 1, 0] rfl, hW, ⟨rfl, Nat.zero_le _⟩⟩
  clear hW hl
  rintro ⟨a, i⟩ H locs g ⟨ls, rfl, hl, hW, ha, hih⟩ ih_4
  dsimp only at hl hW ha hih ⊢
  refine lv_iload_n hx hb dX10_favour_4 rfl (lv_at hl 3 rfl) ?_
  refine lv_aload_n hx hb dX10_favour_5 rfl (lv_at hl 0 rfl) ?_
  refine md_geta_m C hW dX10_favour_6 ?_
  refine lv_iconst (v := nI 0) hx hb dX10_favour_9 (by decide) ?_
  refine md_ald_m C hW (i := 0) (by omega) dX10_favour_10 ?_
  refine r_eq (y := (nI h)) (hH.1) ?_
  refine r_geN hx hb (a := i) (b := h) (by have := hH.2.1; omega) (by have := hH.2.1; omega) (tgt := 46) dX10_favour_11 (by decide) (fun c_11 => ?_) (fun c_11 => ?_)
  · refine lv_iload_n hx hb dX10_favour_46 rfl (lv_at hl 2 rfl) ?_
    exact md_iret C hr hlocks rfl hW (⟨by rw [ha, show i = h by omega], rfl⟩) dX10_favour_47
  · refine lv_iload_n hx hb dX10_favour_14 rfl (lv_at hl 2 rfl) ?_
    refine lv_aload_n hx hb dX10_favour_15 rfl (lv_at hl 0 rfl) ?_
    refine lv_iload_n hx hb dX10_favour_16 rfl (lv_at hl 3 rfl) ?_
    refine lv_iload_n hx hb dX10_favour_17 rfl (lv_at hl 1 rfl) ?_
    refine md_callg C hml hl.1 (As := [.int (nI i), .int (nI k)]) (rest := [.int (nI a)]) (m_far l D aT ad S i k (ta i) (tn k) (hH.2.2.2.2 _ (show i < h by omega)).1 (hF.2.2.2.2.2.2 _ (hk)).1 (hH.2.2.2.2 _ (show i < h by omega)).2 (hF.2.2.2.2.2.2 _ (hk)).2 (Nat.lt_of_lt_of_le (show i < h by omega) hH.2.1) (Nat.lt_of_lt_of_le (hk) hF.2.1)) gT_far hd_far rfl ⟨Nat.le_of_ble_eq_true rfl, Nat.le_of_ble_eq_true rfl⟩ ⟨Nat.le_refl _, Nat.le_refl _⟩ hW hA rfl (Nat.le_of_ble_eq_true rfl) dX10_favour_18 (fun r_18 H locs hq hW => ?_)
    subst hq
    refine lv_iconst (v := nI 3) hx hb dX10_favour_21 (by decide) ?_
    refine r_gtN hx hb (a := (dif (ta i) (tn k))) (b := 3) (by have := (hH.2.2.2.2 i (by omega)).2; have := (hF.2.2.2.2.2.2 k hk).2; first | omega | (unfold dif; omega)) (by have := (hH.2.2.2.2 i (by omega)).2; have := (hF.2.2.2.2.2.2 k hk).2; first | omega | (unfold dif; omega)) (tgt := 37) dX10_favour_22 (by decide) (fun c_22 => ?_) (fun c_22 => ?_)
    · refine lv_iconst (v := nI 0) hx hb dX10_favour_37 (by decide) ?_
      refine r_iaddN hx hb (a := a) (b := 0) dX10_favour_38 ?_
      refine lv_istore_n (lv' := [(2, .int (nI (a + 0))), (0, .ref (ad 0)), (1, .int (nI k)), (3, .int (nI i))]) hx hb dX10_favour_39 rfl hl (by decide) rfl (fun ls hl => ?_)
      refine lv_iinc (v := (nI (i + 1))) (lv' := [(3, .int (nI (i + 1))), (2, .int (nI (a + 0))), (0, .ref (ad 0)), (1, .int (nI k))]) hx hb dX10_favour_40 hl (k := 3) rfl (nI_1 _) (by decide) rfl (fun ls hl => ?_)
      refine lv_goto (tgt := 4) hx hb dX10_favour_43 (by decide) ?_
      exact ih_4 (a + 0, (i + 1)) _ _ _ (by dsimp only; omega) ⟨_, rfl, lv_sub hl [2, 3, 1, 0] rfl, hW, ⟨by rw [fav, if_neg (by omega), ha], by omega⟩⟩
    · refine lv_aload_n hx hb dX10_favour_25 rfl (lv_at hl 0 rfl) ?_
      refine md_geta_m C hW dX10_favour_26 ?_
      refine lv_iload_n hx hb dX10_favour_29 rfl (lv_at hl 3 rfl) ?_
      refine md_calls C hml hl.1 (As := [.int (nI i)]) (rest := [.ref (ad 1), .int (nI a)]) (m_hedgeAt l i) gT_hedgeAt hd_hedgeAt rfl ⟨Nat.le_of_ble_eq_true rfl, Nat.le_of_ble_eq_true rfl⟩ ⟨Nat.le_refl _, Nat.le_refl _⟩ rfl (Nat.le_of_ble_eq_true rfl) dX10_favour_30 (fun r_30 hq => ?_)
      subst hq
      refine md_ald_m C hW (i := (11 + 3 * i)) (by have := hH.2.1; omega) dX10_favour_33 ?_
      refine r_eq (y := (nI (lv i))) ((hH.2.2.1 i (by omega)).1) ?_
      refine lv_goto (tgt := 38) hx hb dX10_favour_34 (by decide) ?_
      refine r_iaddN hx hb (a := a) (b := (lv i)) dX10_favour_38 ?_
      refine lv_istore_n (lv' := [(2, .int (nI (a + (lv i)))), (0, .ref (ad 0)), (1, .int (nI k)), (3, .int (nI i))]) hx hb dX10_favour_39 rfl hl (by decide) rfl (fun ls hl => ?_)
      refine lv_iinc (v := (nI (i + 1))) (lv' := [(3, .int (nI (i + 1))), (2, .int (nI (a + (lv i)))), (0, .ref (ad 0)), (1, .int (nI k))]) hx hb dX10_favour_40 hl (k := 3) rfl (nI_1 _) (by decide) rfl (fun ls hl => ?_)
      refine lv_goto (tgt := 4) hx hb dX10_favour_43 (by decide) ?_
      exact ih_4 (a + (lv i), (i + 1)) _ _ _ (by dsimp only; omega) ⟨_, rfl, lv_sub hl [2, 3, 1, 0] rfl, hW, ⟨by rw [fav, if_pos (by omega), ha], by omega⟩⟩
theorem gT_leavesAll : GoodIn gw (wsV RX10 150 RX10 yX10_leavesAll (Cond.code yX10_leavesAll cX10_leavesAll 3 (some .int) :: gw)) := gdV gw_1823 gw_1825 gw_42 gw_81 gw_1826
theorem hd_leavesAll : yX10_leavesAll.cls = RX10 ∧ yX10_leavesAll.cls ≠ "java/lang/invoke/MethodHandle" ∧ yX10_leavesAll.cls ≠ "java/lang/invoke/VarHandle" ∧ (parseMethodDescriptor yX10_leavesAll.desc).map (fun d => d.parameters.length) = some 0 := ⟨rfl, by decide +kernel, by decide +kernel, by decide +kernel⟩
theorem dX10_leavesAll_0 : decode cX10_leavesAll 0 = .ok (.iconst 0, 1) := by decide +kernel
theorem dX10_leavesAll_1 : decode cX10_leavesAll 1 = .ok (.istore_n 1, 1) := by decide +kernel
theorem dX10_leavesAll_2 : decode cX10_leavesAll 2 = .ok (.iconst 0, 1) := by decide +kernel
theorem dX10_leavesAll_3 : decode cX10_leavesAll 3 = .ok (.istore_n 2, 1) := by decide +kernel
theorem dX10_leavesAll_4 : decode cX10_leavesAll 4 = .ok (.iload_n 2, 1) := by decide +kernel
theorem dX10_leavesAll_5 : decode cX10_leavesAll 5 = .ok (.aload_n 0, 1) := by decide +kernel
theorem dX10_leavesAll_6 : decode cX10_leavesAll 6 = .ok (.getfield 9, 3) := by decide +kernel
theorem dX10_leavesAll_9 : decode cX10_leavesAll 9 = .ok (.iconst 0, 1) := by decide +kernel
theorem dX10_leavesAll_10 : decode cX10_leavesAll 10 = .ok (.iaload, 1) := by decide +kernel
theorem dX10_leavesAll_11 : decode cX10_leavesAll 11 = .ok (.if_icmp .ge 21, 3) := by decide +kernel
theorem dX10_leavesAll_14 : decode cX10_leavesAll 14 = .ok (.iload_n 1, 1) := by decide +kernel
theorem dX10_leavesAll_15 : decode cX10_leavesAll 15 = .ok (.aload_n 0, 1) := by decide +kernel
theorem dX10_leavesAll_16 : decode cX10_leavesAll 16 = .ok (.getfield 9, 3) := by decide +kernel
theorem dX10_leavesAll_19 : decode cX10_leavesAll 19 = .ok (.iload_n 2, 1) := by decide +kernel
theorem dX10_leavesAll_20 : decode cX10_leavesAll 20 = .ok (.invokestatic 86, 3) := by decide +kernel
theorem dX10_leavesAll_23 : decode cX10_leavesAll 23 = .ok (.iaload, 1) := by decide +kernel
theorem dX10_leavesAll_24 : decode cX10_leavesAll 24 = .ok (.iadd, 1) := by decide +kernel
theorem dX10_leavesAll_25 : decode cX10_leavesAll 25 = .ok (.istore_n 1, 1) := by decide +kernel
theorem dX10_leavesAll_26 : decode cX10_leavesAll 26 = .ok (.iinc 2 1, 3) := by decide +kernel
theorem dX10_leavesAll_29 : decode cX10_leavesAll 29 = .ok (.goto (-25), 3) := by decide +kernel
theorem dX10_leavesAll_32 : decode cX10_leavesAll 32 = .ok (.iload_n 1, 1) := by decide +kernel
theorem dX10_leavesAll_33 : decode cX10_leavesAll 33 = .ok (.ireturn, 1) := by decide +kernel
set_option maxHeartbeats 1000000 in
set_option maxRecDepth 20000 in
theorem m_leavesAll (l : Launch) (D : va_G) (aT : Nat → ClassId) (ad : Nat → Nat) (S : MSt) (h : Nat) (lv th ta : Nat → Nat) (hH : HeR (S 0) h lv th ta) : MdG l yX10_leavesAll cX10_leavesAll 3 .int 1 20 D aT ad [.ref (ad 0)] S (fun r => r = nI (sml lv h)) := by
  refine MdI.of (by decide +kernel) rfl (Nat.le_of_ble_eq_true rfl) ?_
  intro p e s m below meth c A ls C hml hl hA hr hlocks hW
  have hl : lv_has ls 3 [(0, .ref (ad 0))] := hl
  have hx := C.1
  have hb := C.2.1
  refine lv_iconst (v := nI 0) hx hb dX10_leavesAll_0 (by decide) ?_
  refine lv_istore_n (lv' := [(1, .int (nI 0)), (0, .ref (ad 0))]) hx hb dX10_leavesAll_1 rfl hl (by decide) rfl (fun ls hl => ?_)
  refine lv_iconst (v := nI 0) hx hb dX10_leavesAll_2 (by decide) ?_
  refine lv_istore_n (lv' := [(2, .int (nI 0)), (1, .int (nI 0)), (0, .ref (ad 0))]) hx hb dX10_leavesAll_3 rfl hl (by decide) rfl (fun ls hl => ?_)
  refine W_loopH (σ := Nat × Nat) (fun z_ => h - z_.2) (fun z_ H locs g => ∃ ls, g = F0 m 4 ls [] ∧ lv_has ls 3 [(0, .ref (ad 0)), (1, .int (nI z_.1)), (2, .int (nI z_.2))] ∧ MdB D aT ad S A s.heap H locs ∧ (z_.1 = sml lv z_.2 ∧ z_.2 ≤ h)) ?_ (0, 0) _ ⟨_, rfl, lv_sub hl [2, 1, 0] rfl, hW, ⟨rfl, Nat.zero_le _⟩⟩
  clear hW hl
  rintro ⟨a, i⟩ H locs g ⟨ls, rfl, hl, hW, ha, hih⟩ ih_4
  dsimp only at hl hW ha hih ⊢
  refine lv_iload_n hx hb dX10_leavesAll_4 rfl (lv_at hl 2 rfl) ?_
  refine lv_aload_n hx hb dX10_leavesAll_5 rfl (lv_at hl 0 rfl) ?_
  refine md_geta_m C hW dX10_leavesAll_6 ?_
  refine lv_iconst (v := nI 0) hx hb dX10_leavesAll_9 (by decide) ?_
  refine md_ald_m C hW (i := 0) (by omega) dX10_leavesAll_10 ?_
  refine r_eq (y := (nI h)) (hH.1) ?_
  refine r_geN hx hb (a := i) (b := h) (by have := hH.2.1; omega) (by have := hH.2.1; omega) (tgt := 32) dX10_leavesAll_11 (by decide) (fun c_11 => ?_) (fun c_11 => ?_)
  · refine lv_iload_n hx hb dX10_leavesAll_32 rfl (lv_at hl 1 rfl) ?_
    exact md_iret C hr hlocks rfl hW (⟨by rw [ha, show i = h by omega], rfl⟩) dX10_leavesAll_33
  · refine lv_iload_n hx hb dX10_leavesAll_14 rfl (lv_at hl 1 rfl) ?_
    refine lv_aload_n hx hb dX10_leavesAll_15 rfl (lv_at hl 0 rfl) ?_
    refine md_geta_m C hW dX10_leavesAll_16 ?_
    refine lv_iload_n hx hb dX10_leavesAll_19 rfl (lv_at hl 2 rfl) ?_
    refine md_calls C hml hl.1 (As := [.int (nI i)]) (rest := [.ref (ad 1), .int (nI a)]) (m_hedgeAt l i) gT_hedgeAt hd_hedgeAt rfl ⟨Nat.le_of_ble_eq_true rfl, Nat.le_of_ble_eq_true rfl⟩ ⟨Nat.le_refl _, Nat.le_refl _⟩ rfl (Nat.le_of_ble_eq_true rfl) dX10_leavesAll_20 (fun r_20 hq => ?_)
    subst hq
    refine md_ald_m C hW (i := (11 + 3 * i)) (by have := hH.2.1; omega) dX10_leavesAll_23 ?_
    refine r_eq (y := (nI (lv i))) ((hH.2.2.1 i (by omega)).1) ?_
    refine r_iaddN hx hb (a := a) (b := (lv i)) dX10_leavesAll_24 ?_
    refine lv_istore_n (lv' := [(1, .int (nI (a + (lv i)))), (0, .ref (ad 0)), (2, .int (nI i))]) hx hb dX10_leavesAll_25 rfl hl (by decide) rfl (fun ls hl => ?_)
    refine lv_iinc (v := (nI (i + 1))) (lv' := [(2, .int (nI (i + 1))), (1, .int (nI (a + (lv i)))), (0, .ref (ad 0))]) hx hb dX10_leavesAll_26 hl (k := 2) rfl (nI_1 _) (by decide) rfl (fun ls hl => ?_)
    refine lv_goto (tgt := 4) hx hb dX10_leavesAll_29 (by decide) ?_
    exact ih_4 (a + (lv i), (i + 1)) _ _ _ (by dsimp only; omega) ⟨_, rfl, lv_sub hl [2, 1, 0] rfl, hW, ⟨by rw [sml, ha], by omega⟩⟩
theorem gT_adds : GoodIn gw (wsV RX10 116 RX10 yX10_adds (Cond.code yX10_adds cX10_adds 5 (some .int) :: gw)) := gdV gw_1739 gw_1741 gw_26 gw_81 gw_1742
theorem hd_adds : yX10_adds.cls = RX10 ∧ yX10_adds.cls ≠ "java/lang/invoke/MethodHandle" ∧ yX10_adds.cls ≠ "java/lang/invoke/VarHandle" ∧ (parseMethodDescriptor yX10_adds.desc).map (fun d => d.parameters.length) = some 3 := ⟨rfl, by decide +kernel, by decide +kernel, by decide +kernel⟩
theorem dX10_adds_0 : decode cX10_adds 0 = .ok (.bipush 29, 2) := by decide +kernel
theorem dX10_adds_2 : decode cX10_adds 2 = .ok (.iconst 4, 1) := by decide +kernel
theorem dX10_adds_3 : decode cX10_adds 3 = .ok (.aload_n 0, 1) := by decide +kernel
theorem dX10_adds_4 : decode cX10_adds 4 = .ok (.getfield 9, 3) := by decide +kernel
theorem dX10_adds_7 : decode cX10_adds 7 = .ok (.iconst 2, 1) := by decide +kernel
theorem dX10_adds_8 : decode cX10_adds 8 = .ok (.iaload, 1) := by decide +kernel
theorem dX10_adds_9 : decode cX10_adds 9 = .ok (.imul, 1) := by decide +kernel
theorem dX10_adds_10 : decode cX10_adds 10 = .ok (.iadd, 1) := by decide +kernel
theorem dX10_adds_11 : decode cX10_adds 11 = .ok (.istore 4, 2) := by decide +kernel
theorem dX10_adds_13 : decode cX10_adds 13 = .ok (.aload_n 0, 1) := by decide +kernel
theorem dX10_adds_14 : decode cX10_adds 14 = .ok (.getfield 9, 3) := by decide +kernel
theorem dX10_adds_17 : decode cX10_adds 17 = .ok (.iload 4, 2) := by decide +kernel
theorem dX10_adds_19 : decode cX10_adds 19 = .ok (.aload_n 0, 1) := by decide +kernel
theorem dX10_adds_20 : decode cX10_adds 20 = .ok (.getfield 9, 3) := by decide +kernel
theorem dX10_adds_23 : decode cX10_adds 23 = .ok (.iconst 1, 1) := by decide +kernel
theorem dX10_adds_24 : decode cX10_adds 24 = .ok (.iaload, 1) := by decide +kernel
theorem dX10_adds_25 : decode cX10_adds 25 = .ok (.iastore, 1) := by decide +kernel
theorem dX10_adds_26 : decode cX10_adds 26 = .ok (.aload_n 0, 1) := by decide +kernel
theorem dX10_adds_27 : decode cX10_adds 27 = .ok (.getfield 9, 3) := by decide +kernel
theorem dX10_adds_30 : decode cX10_adds 30 = .ok (.iload 4, 2) := by decide +kernel
theorem dX10_adds_32 : decode cX10_adds 32 = .ok (.iconst 1, 1) := by decide +kernel
theorem dX10_adds_33 : decode cX10_adds 33 = .ok (.iadd, 1) := by decide +kernel
theorem dX10_adds_34 : decode cX10_adds 34 = .ok (.iload_n 1, 1) := by decide +kernel
theorem dX10_adds_35 : decode cX10_adds 35 = .ok (.iastore, 1) := by decide +kernel
theorem dX10_adds_36 : decode cX10_adds 36 = .ok (.aload_n 0, 1) := by decide +kernel
theorem dX10_adds_37 : decode cX10_adds 37 = .ok (.getfield 9, 3) := by decide +kernel
theorem dX10_adds_40 : decode cX10_adds 40 = .ok (.iload 4, 2) := by decide +kernel
theorem dX10_adds_42 : decode cX10_adds 42 = .ok (.iconst 2, 1) := by decide +kernel
theorem dX10_adds_43 : decode cX10_adds 43 = .ok (.iadd, 1) := by decide +kernel
theorem dX10_adds_44 : decode cX10_adds 44 = .ok (.iload_n 2, 1) := by decide +kernel
theorem dX10_adds_45 : decode cX10_adds 45 = .ok (.iastore, 1) := by decide +kernel
theorem dX10_adds_46 : decode cX10_adds 46 = .ok (.aload_n 0, 1) := by decide +kernel
theorem dX10_adds_47 : decode cX10_adds 47 = .ok (.getfield 9, 3) := by decide +kernel
theorem dX10_adds_50 : decode cX10_adds 50 = .ok (.iload 4, 2) := by decide +kernel
theorem dX10_adds_52 : decode cX10_adds 52 = .ok (.iconst 3, 1) := by decide +kernel
theorem dX10_adds_53 : decode cX10_adds 53 = .ok (.iadd, 1) := by decide +kernel
theorem dX10_adds_54 : decode cX10_adds 54 = .ok (.iload_n 3, 1) := by decide +kernel
theorem dX10_adds_55 : decode cX10_adds 55 = .ok (.iastore, 1) := by decide +kernel
theorem dX10_adds_56 : decode cX10_adds 56 = .ok (.aload_n 0, 1) := by decide +kernel
theorem dX10_adds_57 : decode cX10_adds 57 = .ok (.getfield 9, 3) := by decide +kernel
theorem dX10_adds_60 : decode cX10_adds 60 = .ok (.iconst 2, 1) := by decide +kernel
theorem dX10_adds_61 : decode cX10_adds 61 = .ok (.dup2, 1) := by decide +kernel
theorem dX10_adds_62 : decode cX10_adds 62 = .ok (.iaload, 1) := by decide +kernel
theorem dX10_adds_63 : decode cX10_adds 63 = .ok (.iconst 1, 1) := by decide +kernel
theorem dX10_adds_64 : decode cX10_adds 64 = .ok (.iadd, 1) := by decide +kernel
theorem dX10_adds_65 : decode cX10_adds 65 = .ok (.iastore, 1) := by decide +kernel
theorem dX10_adds_66 : decode cX10_adds 66 = .ok (.aload_n 0, 1) := by decide +kernel
theorem dX10_adds_67 : decode cX10_adds 67 = .ok (.getfield 9, 3) := by decide +kernel
theorem dX10_adds_70 : decode cX10_adds 70 = .ok (.iconst 1, 1) := by decide +kernel
theorem dX10_adds_71 : decode cX10_adds 71 = .ok (.dup2, 1) := by decide +kernel
theorem dX10_adds_72 : decode cX10_adds 72 = .ok (.iaload, 1) := by decide +kernel
theorem dX10_adds_73 : decode cX10_adds 73 = .ok (.iconst 1, 1) := by decide +kernel
theorem dX10_adds_74 : decode cX10_adds 74 = .ok (.iadd, 1) := by decide +kernel
theorem dX10_adds_75 : decode cX10_adds 75 = .ok (.iastore, 1) := by decide +kernel
theorem dX10_adds_76 : decode cX10_adds 76 = .ok (.aload_n 0, 1) := by decide +kernel
theorem dX10_adds_77 : decode cX10_adds 77 = .ok (.getfield 9, 3) := by decide +kernel
theorem dX10_adds_80 : decode cX10_adds 80 = .ok (.iload 4, 2) := by decide +kernel
theorem dX10_adds_82 : decode cX10_adds 82 = .ok (.iaload, 1) := by decide +kernel
theorem dX10_adds_83 : decode cX10_adds 83 = .ok (.ireturn, 1) := by decide +kernel
set_option maxHeartbeats 1000000 in
set_option maxRecDepth 20000 in
theorem m_adds (l : Launch) (D : va_G) (aT : Nat → ClassId) (ad : Nat → Nat) (S : MSt) (n : Nat) (p0 x w : Int32) (hn : S 0 2 = nI n) (h12 : n < 12) : MdI l yX10_adds cX10_adds 5 .int 0 0 D aT ad [.ref (ad 0), .int p0, .int x, .int w] S (fun r S1 => r = S 0 1 ∧ S1 = sr S 0 (addF (S 0) n p0 x w)) := by
  refine MdI.of (by decide +kernel) rfl (Nat.le_of_ble_eq_true rfl) ?_
  intro p e s m below meth c A ls C hml hl hA hr hlocks hW
  have hl : lv_has ls 5 [(0, .ref (ad 0)), (1, .int p0), (2, .int x), (3, .int w)] := hl
  have hx := C.1
  have hb := C.2.1
  refine lv_bipush (v := nI 29) hx hb dX10_adds_0 (by decide) ?_
  refine lv_iconst (v := nI 4) hx hb dX10_adds_2 (by decide) ?_
  refine lv_aload_n hx hb dX10_adds_3 rfl (lv_at hl 0 rfl) ?_
  refine md_geta_m C hW dX10_adds_4 ?_
  refine lv_iconst (v := nI 2) hx hb dX10_adds_7 (by decide) ?_
  refine md_ald_m C hW (i := 2) (by omega) dX10_adds_8 ?_
  refine r_eq (y := (nI n)) (hn) ?_
  refine r_imulN hx hb (a := 4) (b := n) dX10_adds_9 ?_
  refine r_iaddN hx hb (a := 29) (b := 4 * n) dX10_adds_10 ?_
  refine lv_istore (lv' := [(4, .int (nI (29 + 4 * n))), (0, .ref (ad 0)), (1, .int p0), (2, .int x), (3, .int w)]) hx hb dX10_adds_11 hl (by decide) rfl (fun ls hl => ?_)
  refine lv_aload_n hx hb dX10_adds_13 rfl (lv_at hl 1 rfl) ?_
  refine md_geta_m C hW dX10_adds_14 ?_
  refine lv_iload hx hb dX10_adds_17 (lv_at hl 0 rfl) ?_
  refine lv_aload_n hx hb dX10_adds_19 rfl (lv_at hl 1 rfl) ?_
  refine md_geta_m C hW dX10_adds_20 ?_
  refine lv_iconst (v := nI 1) hx hb dX10_adds_23 (by decide) ?_
  refine md_ald_m C hW (i := 1) (by omega) dX10_adds_24 ?_
  refine md_ast_m C hW (i := 29 + 4 * n) (by omega) dX10_adds_25 (fun H locs hW => ?_)
  refine lv_aload_n hx hb dX10_adds_26 rfl (lv_at hl 1 rfl) ?_
  refine md_geta_m C hW dX10_adds_27 ?_
  refine lv_iload hx hb dX10_adds_30 (lv_at hl 0 rfl) ?_
  refine lv_iconst (v := nI 1) hx hb dX10_adds_32 (by decide) ?_
  refine r_iaddN hx hb (a := 29 + 4 * n) (b := 1) dX10_adds_33 ?_
  refine lv_iload_n hx hb dX10_adds_34 rfl (lv_at hl 2 rfl) ?_
  refine md_ast_m C hW (i := 29 + 4 * n + 1) (by omega) dX10_adds_35 (fun H locs hW => ?_)
  refine lv_aload_n hx hb dX10_adds_36 rfl (lv_at hl 1 rfl) ?_
  refine md_geta_m C hW dX10_adds_37 ?_
  refine lv_iload hx hb dX10_adds_40 (lv_at hl 0 rfl) ?_
  refine lv_iconst (v := nI 2) hx hb dX10_adds_42 (by decide) ?_
  refine r_iaddN hx hb (a := 29 + 4 * n) (b := 2) dX10_adds_43 ?_
  refine lv_iload_n hx hb dX10_adds_44 rfl (lv_at hl 3 rfl) ?_
  refine md_ast_m C hW (i := 29 + 4 * n + 2) (by omega) dX10_adds_45 (fun H locs hW => ?_)
  refine lv_aload_n hx hb dX10_adds_46 rfl (lv_at hl 1 rfl) ?_
  refine md_geta_m C hW dX10_adds_47 ?_
  refine lv_iload hx hb dX10_adds_50 (lv_at hl 0 rfl) ?_
  refine lv_iconst (v := nI 3) hx hb dX10_adds_52 (by decide) ?_
  refine r_iaddN hx hb (a := 29 + 4 * n) (b := 3) dX10_adds_53 ?_
  refine lv_iload_n hx hb dX10_adds_54 rfl (lv_at hl 4 rfl) ?_
  refine md_ast_m C hW (i := 29 + 4 * n + 3) (by omega) dX10_adds_55 (fun H locs hW => ?_)
  refine lv_aload_n hx hb dX10_adds_56 rfl (lv_at hl 1 rfl) ?_
  refine md_geta_m C hW dX10_adds_57 ?_
  refine lv_iconst (v := nI 2) hx hb dX10_adds_60 (by decide) ?_
  refine lv_dup2_11 hx hb dX10_adds_61 rfl rfl ?_
  refine md_ald_m C hW (i := 2) (by omega) dX10_adds_62 ?_
  refine r_eq (y := (nI n)) (by simp only [sr, upd, ↓reduceIte]; (repeat rw [if_neg (by omega)]); exact hn) ?_
  refine lv_iconst (v := nI 1) hx hb dX10_adds_63 (by decide) ?_
  refine r_iaddN hx hb (a := n) (b := 1) dX10_adds_64 ?_
  refine md_ast_m C hW (i := 2) (by omega) dX10_adds_65 (fun H locs hW => ?_)
  refine lv_aload_n hx hb dX10_adds_66 rfl (lv_at hl 1 rfl) ?_
  refine md_geta_m C hW dX10_adds_67 ?_
  refine lv_iconst (v := nI 1) hx hb dX10_adds_70 (by decide) ?_
  refine lv_dup2_11 hx hb dX10_adds_71 rfl rfl ?_
  refine md_ald_m C hW (i := 1) (by omega) dX10_adds_72 ?_
  refine r_eq (y := (S 0 1)) (by simp only [sr, upd, ↓reduceIte]; (repeat rw [if_neg (by omega)]); first | done | rfl) ?_
  refine lv_iconst (v := nI 1) hx hb dX10_adds_73 (by decide) ?_
  refine lv_iadd hx hb dX10_adds_74 ?_
  refine md_ast_m C hW (i := 1) (by omega) dX10_adds_75 (fun H locs hW => ?_)
  refine lv_aload_n hx hb dX10_adds_76 rfl (lv_at hl 1 rfl) ?_
  refine md_geta_m C hW dX10_adds_77 ?_
  refine lv_iload hx hb dX10_adds_80 (lv_at hl 0 rfl) ?_
  refine md_ald_m C hW (i := 29 + 4 * n) (by omega) dX10_adds_82 ?_
  refine r_eq (y := (S 0 1)) (by simp only [sr, upd, ↓reduceIte]; (repeat rw [if_neg (by omega)]); first | done | rw [if_pos rfl] | rfl) ?_
  exact md_iret C hr hlocks rfl hW (⟨rfl, by simp only [sr_sr, sr_s]; rfl⟩) dX10_adds_83
theorem gT_drops : GoodIn gw (wsV RX10 128 RX10 yX10_drops (Cond.code yX10_drops cX10_drops 3 (none) :: gw)) := gdV gw_1779 gw_1781 gw_34 gw_81 gw_1782
theorem hd_drops : yX10_drops.cls = RX10 ∧ yX10_drops.cls ≠ "java/lang/invoke/MethodHandle" ∧ yX10_drops.cls ≠ "java/lang/invoke/VarHandle" ∧ (parseMethodDescriptor yX10_drops.desc).map (fun d => d.parameters.length) = some 1 := ⟨rfl, by decide +kernel, by decide +kernel, by decide +kernel⟩
theorem dX10_drops_0 : decode cX10_drops 0 = .ok (.bipush 29, 2) := by decide +kernel
theorem dX10_drops_2 : decode cX10_drops 2 = .ok (.iconst 4, 1) := by decide +kernel
theorem dX10_drops_3 : decode cX10_drops 3 = .ok (.iload_n 1, 1) := by decide +kernel
theorem dX10_drops_4 : decode cX10_drops 4 = .ok (.imul, 1) := by decide +kernel
theorem dX10_drops_5 : decode cX10_drops 5 = .ok (.iadd, 1) := by decide +kernel
theorem dX10_drops_6 : decode cX10_drops 6 = .ok (.istore_n 2, 1) := by decide +kernel
theorem dX10_drops_7 : decode cX10_drops 7 = .ok (.iload_n 2, 1) := by decide +kernel
theorem dX10_drops_8 : decode cX10_drops 8 = .ok (.bipush 73, 2) := by decide +kernel
theorem dX10_drops_10 : decode cX10_drops 10 = .ok (.if_icmp .ge 23, 3) := by decide +kernel
theorem dX10_drops_13 : decode cX10_drops 13 = .ok (.aload_n 0, 1) := by decide +kernel
theorem dX10_drops_14 : decode cX10_drops 14 = .ok (.getfield 9, 3) := by decide +kernel
theorem dX10_drops_17 : decode cX10_drops 17 = .ok (.iload_n 2, 1) := by decide +kernel
theorem dX10_drops_18 : decode cX10_drops 18 = .ok (.aload_n 0, 1) := by decide +kernel
theorem dX10_drops_19 : decode cX10_drops 19 = .ok (.getfield 9, 3) := by decide +kernel
theorem dX10_drops_22 : decode cX10_drops 22 = .ok (.iload_n 2, 1) := by decide +kernel
theorem dX10_drops_23 : decode cX10_drops 23 = .ok (.iconst 4, 1) := by decide +kernel
theorem dX10_drops_24 : decode cX10_drops 24 = .ok (.iadd, 1) := by decide +kernel
theorem dX10_drops_25 : decode cX10_drops 25 = .ok (.iaload, 1) := by decide +kernel
theorem dX10_drops_26 : decode cX10_drops 26 = .ok (.iastore, 1) := by decide +kernel
theorem dX10_drops_27 : decode cX10_drops 27 = .ok (.iinc 2 1, 3) := by decide +kernel
theorem dX10_drops_30 : decode cX10_drops 30 = .ok (.goto (-23), 3) := by decide +kernel
theorem dX10_drops_33 : decode cX10_drops 33 = .ok (.bipush 73, 2) := by decide +kernel
theorem dX10_drops_35 : decode cX10_drops 35 = .ok (.istore_n 2, 1) := by decide +kernel
theorem dX10_drops_36 : decode cX10_drops 36 = .ok (.iload_n 2, 1) := by decide +kernel
theorem dX10_drops_37 : decode cX10_drops 37 = .ok (.bipush 77, 2) := by decide +kernel
theorem dX10_drops_39 : decode cX10_drops 39 = .ok (.if_icmp .ge 16, 3) := by decide +kernel
theorem dX10_drops_42 : decode cX10_drops 42 = .ok (.aload_n 0, 1) := by decide +kernel
theorem dX10_drops_43 : decode cX10_drops 43 = .ok (.getfield 9, 3) := by decide +kernel
theorem dX10_drops_46 : decode cX10_drops 46 = .ok (.iload_n 2, 1) := by decide +kernel
theorem dX10_drops_47 : decode cX10_drops 47 = .ok (.iconst 0, 1) := by decide +kernel
theorem dX10_drops_48 : decode cX10_drops 48 = .ok (.iastore, 1) := by decide +kernel
theorem dX10_drops_49 : decode cX10_drops 49 = .ok (.iinc 2 1, 3) := by decide +kernel
theorem dX10_drops_52 : decode cX10_drops 52 = .ok (.goto (-16), 3) := by decide +kernel
theorem dX10_drops_55 : decode cX10_drops 55 = .ok (.aload_n 0, 1) := by decide +kernel
theorem dX10_drops_56 : decode cX10_drops 56 = .ok (.getfield 9, 3) := by decide +kernel
theorem dX10_drops_59 : decode cX10_drops 59 = .ok (.iconst 2, 1) := by decide +kernel
theorem dX10_drops_60 : decode cX10_drops 60 = .ok (.dup2, 1) := by decide +kernel
theorem dX10_drops_61 : decode cX10_drops 61 = .ok (.iaload, 1) := by decide +kernel
theorem dX10_drops_62 : decode cX10_drops 62 = .ok (.iconst 1, 1) := by decide +kernel
theorem dX10_drops_63 : decode cX10_drops 63 = .ok (.isub, 1) := by decide +kernel
theorem dX10_drops_64 : decode cX10_drops 64 = .ok (.iastore, 1) := by decide +kernel
theorem dX10_drops_65 : decode cX10_drops 65 = .ok (.return_, 1) := by decide +kernel
set_option maxHeartbeats 1000000 in
set_option maxRecDepth 20000 in
theorem m_drops (l : Launch) (D : va_G) (aT : Nat → ClassId) (ad : Nat → Nat) (S : MSt) (n k : Nat) (hn : S 0 2 = nI n) (h12 : n ≤ 12) (hk : k < n) : MdV l yX10_drops cX10_drops 3 0 0 D aT ad [.ref (ad 0), .int (nI k)] S (fun S1 => S1 = sr S 0 (dropF (S 0) k n)) := by
  refine MdV.of (by decide +kernel) rfl (Nat.le_of_ble_eq_true rfl) ?_
  intro p e s m below meth c A ls C hml hl hA hr hlocks hW
  have hl : lv_has ls 3 [(0, .ref (ad 0)), (1, .int (nI k))] := hl
  have hx := C.1
  have hb := C.2.1
  refine lv_bipush (v := nI 29) hx hb dX10_drops_0 (by decide) ?_
  refine lv_iconst (v := nI 4) hx hb dX10_drops_2 (by decide) ?_
  refine lv_iload_n hx hb dX10_drops_3 rfl (lv_at hl 1 rfl) ?_
  refine r_imulN hx hb (a := 4) (b := k) dX10_drops_4 ?_
  refine r_iaddN hx hb (a := 29) (b := 4 * k) dX10_drops_5 ?_
  refine lv_istore_n (lv' := [(2, .int (nI (29 + 4 * k))), (0, .ref (ad 0)), (1, .int (nI k))]) hx hb dX10_drops_6 rfl hl (by decide) rfl (fun ls hl => ?_)
  refine W_loopH (σ := Nat) (fun z_ => 73 - z_) (fun z_ H locs g => ∃ ls, g = F0 m 7 ls [] ∧ lv_has ls 3 [(0, .ref (ad 0)), (1, .int (nI k)), (2, .int (nI z_))] ∧ MdB D aT ad (sr S 0 (drpF (S 0) k z_)) A s.heap H locs ∧ (29 + 4 * k ≤ z_ ∧ z_ ≤ 73)) ?_ (29 + 4 * k) _ ⟨_, rfl, lv_sub hl [1, 2, 0] rfl, (by rw [drpF_0, sr_self]; exact hW), ⟨Nat.le_refl _, by omega⟩⟩
  clear hW hl
  rintro i H locs g ⟨ls, rfl, hl, hW, hi1, hi2⟩ ih_7
  refine lv_iload_n hx hb dX10_drops_7 rfl (lv_at hl 2 rfl) ?_
  refine lv_bipush (v := nI 73) hx hb dX10_drops_8 (by decide) ?_
  refine r_geN hx hb (a := i) (b := 73) (by omega) (by omega) (tgt := 33) dX10_drops_10 (by decide) (fun c_10 => ?_) (fun c_10 => ?_)
  · refine lv_bipush (v := nI 73) hx hb dX10_drops_33 (by decide) ?_
    refine lv_istore_n (lv' := [(2, .int (nI 73)), (0, .ref (ad 0)), (1, .int (nI k))]) hx hb dX10_drops_35 rfl hl (by decide) rfl (fun ls hl => ?_)
    refine W_loopH (σ := Nat) (fun z_ => 77 - z_) (fun z_ H locs g => ∃ ls, g = F0 m 36 ls [] ∧ lv_has ls 3 [(0, .ref (ad 0)), (1, .int (nI k)), (2, .int (nI z_))] ∧ MdB D aT ad (sr S 0 (drzF (S 0) k z_)) A s.heap H locs ∧ (73 ≤ z_ ∧ z_ ≤ 77)) ?_ 73 _ ⟨_, rfl, lv_sub hl [1, 2, 0] rfl, (by rw [drzF_0]; rw [show i = 73 by omega] at hW; exact hW), ⟨by omega, by omega⟩⟩
    clear hW hl
    rintro j H locs g ⟨ls, rfl, hl, hW, hj1, hj2⟩ ih_36
    refine lv_iload_n hx hb dX10_drops_36 rfl (lv_at hl 2 rfl) ?_
    refine lv_bipush (v := nI 77) hx hb dX10_drops_37 (by decide) ?_
    refine r_geN hx hb (a := j) (b := 77) (by omega) (by omega) (tgt := 55) dX10_drops_39 (by decide) (fun c_39 => ?_) (fun c_39 => ?_)
    · refine lv_aload_n hx hb dX10_drops_55 rfl (lv_at hl 0 rfl) ?_
      refine md_geta_m C hW dX10_drops_56 ?_
      refine lv_iconst (v := nI 2) hx hb dX10_drops_59 (by decide) ?_
      refine lv_dup2_11 hx hb dX10_drops_60 rfl rfl ?_
      refine md_ald_m C hW (i := 2) (by omega) dX10_drops_61 ?_
      refine r_eq (y := (nI n)) (by show drzF (S 0) k j 2 = nI n; unfold drzF drpF; rw [if_neg (by omega), if_neg (by omega)]; exact hn) ?_
      refine lv_iconst (v := nI 1) hx hb dX10_drops_62 (by decide) ?_
      refine r_isubN hx hb (a := n) (b := 1) (by omega) dX10_drops_63 ?_
      refine md_ast_m C hW (i := 2) (by omega) dX10_drops_64 (fun H locs hW => ?_)
      exact md_vret C hr hlocks hW (by rw [sr_sr, sr_s, show j = 77 by omega]; rfl) dX10_drops_65
    · refine lv_aload_n hx hb dX10_drops_42 rfl (lv_at hl 0 rfl) ?_
      refine md_geta_m C hW dX10_drops_43 ?_
      refine lv_iload_n hx hb dX10_drops_46 rfl (lv_at hl 2 rfl) ?_
      refine lv_iconst (v := nI 0) hx hb dX10_drops_47 (by decide) ?_
      refine md_ast_m C hW (i := j) (by omega) dX10_drops_48 (fun H locs hW => ?_)
      refine lv_iinc (v := (nI (j + 1))) (lv' := [(2, .int (nI (j + 1))), (0, .ref (ad 0)), (1, .int (nI k))]) hx hb dX10_drops_49 hl (k := 2) rfl (nI_1 _) (by decide) rfl (fun ls hl => ?_)
      refine lv_goto (tgt := 36) hx hb dX10_drops_52 (by decide) ?_
      exact ih_36 (j + 1) _ _ _ (by omega) ⟨_, rfl, lv_sub hl [1, 2, 0] rfl, (by rw [sr_sr, sr_s, drzF_1 _ _ _ hj1] at hW; exact hW), ⟨by omega, by omega⟩⟩
  · refine lv_aload_n hx hb dX10_drops_13 rfl (lv_at hl 0 rfl) ?_
    refine md_geta_m C hW dX10_drops_14 ?_
    refine lv_iload_n hx hb dX10_drops_17 rfl (lv_at hl 2 rfl) ?_
    refine lv_aload_n hx hb dX10_drops_18 rfl (lv_at hl 0 rfl) ?_
    refine md_geta_m C hW dX10_drops_19 ?_
    refine lv_iload_n hx hb dX10_drops_22 rfl (lv_at hl 2 rfl) ?_
    refine lv_iconst (v := nI 4) hx hb dX10_drops_23 (by decide) ?_
    refine r_iaddN hx hb (a := i) (b := 4) dX10_drops_24 ?_
    refine md_ald_m C hW (i := i + 4) (by omega) dX10_drops_25 ?_
    refine md_ast_m C hW (i := i) (by omega) dX10_drops_26 (fun H locs hW => ?_)
    refine lv_iinc (v := (nI (i + 1))) (lv' := [(2, .int (nI (i + 1))), (0, .ref (ad 0)), (1, .int (nI k))]) hx hb dX10_drops_27 hl (k := 2) rfl (nI_1 _) (by decide) rfl (fun ls hl => ?_)
    refine lv_goto (tgt := 7) hx hb dX10_drops_30 (by decide) ?_
    exact ih_7 (i + 1) _ _ _ (by omega) ⟨_, rfl, lv_sub hl [1, 2, 0] rfl, (by rw [sr_sr, sr_s, drpF_1 _ _ _ hi1] at hW; exact hW), ⟨by omega, by omega⟩⟩
theorem gT_starts : GoodIn gw (wsV RX10 104 RX10 yX10_starts (Cond.code yX10_starts cX10_starts 2 (none) :: gw)) := gdV gw_1706 gw_1708 gw_21 gw_81 gw_1709
theorem hd_starts : yX10_starts.cls = RX10 ∧ yX10_starts.cls ≠ "java/lang/invoke/MethodHandle" ∧ yX10_starts.cls ≠ "java/lang/invoke/VarHandle" ∧ (parseMethodDescriptor yX10_starts.desc).map (fun d => d.parameters.length) = some 0 := ⟨rfl, by decide +kernel, by decide +kernel, by decide +kernel⟩
theorem dX10_starts_0 : decode cX10_starts 0 = .ok (.aload_n 0, 1) := by decide +kernel
theorem dX10_starts_1 : decode cX10_starts 1 = .ok (.iconst 0, 1) := by decide +kernel
theorem dX10_starts_2 : decode cX10_starts 2 = .ok (.putfield 57, 3) := by decide +kernel
theorem dX10_starts_5 : decode cX10_starts 5 = .ok (.iconst 0, 1) := by decide +kernel
theorem dX10_starts_6 : decode cX10_starts 6 = .ok (.istore_n 1, 1) := by decide +kernel
theorem dX10_starts_7 : decode cX10_starts 7 = .ok (.iload_n 1, 1) := by decide +kernel
theorem dX10_starts_8 : decode cX10_starts 8 = .ok (.bipush 77, 2) := by decide +kernel
theorem dX10_starts_10 : decode cX10_starts 10 = .ok (.if_icmp .ge 21, 3) := by decide +kernel
theorem dX10_starts_13 : decode cX10_starts 13 = .ok (.aload_n 0, 1) := by decide +kernel
theorem dX10_starts_14 : decode cX10_starts 14 = .ok (.getfield 13, 3) := by decide +kernel
theorem dX10_starts_17 : decode cX10_starts 17 = .ok (.iload_n 1, 1) := by decide +kernel
theorem dX10_starts_18 : decode cX10_starts 18 = .ok (.aload_n 0, 1) := by decide +kernel
theorem dX10_starts_19 : decode cX10_starts 19 = .ok (.getfield 9, 3) := by decide +kernel
theorem dX10_starts_22 : decode cX10_starts 22 = .ok (.iload_n 1, 1) := by decide +kernel
theorem dX10_starts_23 : decode cX10_starts 23 = .ok (.iaload, 1) := by decide +kernel
theorem dX10_starts_24 : decode cX10_starts 24 = .ok (.iastore, 1) := by decide +kernel
theorem dX10_starts_25 : decode cX10_starts 25 = .ok (.iinc 1 1, 3) := by decide +kernel
theorem dX10_starts_28 : decode cX10_starts 28 = .ok (.goto (-21), 3) := by decide +kernel
theorem dX10_starts_31 : decode cX10_starts 31 = .ok (.return_, 1) := by decide +kernel
set_option maxHeartbeats 1000000 in
set_option maxRecDepth 20000 in
theorem m_starts (l : Launch) (D : va_G) (aT : Nat → ClassId) (ad : Nat → Nat) (S : MSt) : MdV l yX10_starts cX10_starts 2 0 0 D aT ad [.ref (ad 0)] S (fun S1 => S1 = sr (ss S 8 (nI 0)) 1 (cpyF (S 1) (S 0) 77)) := by
  refine MdV.of (by decide +kernel) rfl (Nat.le_of_ble_eq_true rfl) ?_
  intro p e s m below meth c A ls C hml hl hA hr hlocks hW
  have hl : lv_has ls 2 [(0, .ref (ad 0))] := hl
  have hx := C.1
  have hb := C.2.1
  refine lv_aload_n hx hb dX10_starts_0 rfl (lv_at hl 0 rfl) ?_
  refine lv_iconst (v := nI 0) hx hb dX10_starts_1 (by decide) ?_
  refine md_put_thrown C hW dX10_starts_2 (fun H locs hW => ?_)
  refine lv_iconst (v := nI 0) hx hb dX10_starts_5 (by decide) ?_
  refine lv_istore_n (lv' := [(1, .int (nI 0)), (0, .ref (ad 0))]) hx hb dX10_starts_6 rfl hl (by decide) rfl (fun ls hl => ?_)
  refine W_loopH (σ := Nat) (fun z_ => 77 - z_) (fun z_ H locs g => ∃ ls, g = F0 m 7 ls [] ∧ lv_has ls 2 [(0, .ref (ad 0)), (1, .int (nI z_))] ∧ MdB D aT ad (sr (ss S 8 (nI 0)) 1 (cpyF (S 1) (S 0) z_)) A s.heap H locs ∧ (z_ ≤ 77)) ?_ 0 _ ⟨_, rfl, lv_sub hl [1, 0] rfl, (by rw [cpyF_0, show S 1 = (ss S 8 (nI 0)) 1 from rfl, sr_self]; exact hW), Nat.zero_le _⟩
  clear hW hl
  rintro i H locs g ⟨ls, rfl, hl, hW, hi⟩ ih_7
  refine lv_iload_n hx hb dX10_starts_7 rfl (lv_at hl 1 rfl) ?_
  refine lv_bipush (v := nI 77) hx hb dX10_starts_8 (by decide) ?_
  refine r_geN hx hb (a := i) (b := 77) (by omega) (by omega) (tgt := 31) dX10_starts_10 (by decide) (fun c_10 => ?_) (fun c_10 => ?_)
  · exact md_vret C hr hlocks hW (by rw [show i = 77 by omega]) dX10_starts_31
  · refine lv_aload_n hx hb dX10_starts_13 rfl (lv_at hl 0 rfl) ?_
    refine md_geta_aside C hW dX10_starts_14 ?_
    refine lv_iload_n hx hb dX10_starts_17 rfl (lv_at hl 1 rfl) ?_
    refine lv_aload_n hx hb dX10_starts_18 rfl (lv_at hl 0 rfl) ?_
    refine md_geta_m C hW dX10_starts_19 ?_
    refine lv_iload_n hx hb dX10_starts_22 rfl (lv_at hl 1 rfl) ?_
    refine md_ald_m C hW (i := i) (by omega) dX10_starts_23 ?_
    refine r_eq (y := (S 0 i)) (rfl) ?_
    refine md_ast_aside C hW (i := i) (by omega) dX10_starts_24 (fun H locs hW => ?_)
    refine lv_iinc (v := (nI (i + 1))) (lv' := [(1, .int (nI (i + 1))), (0, .ref (ad 0))]) hx hb dX10_starts_25 hl (k := 1) rfl (nI_1 _) (by decide) rfl (fun ls hl => ?_)
    refine lv_goto (tgt := 7) hx hb dX10_starts_28 (by decide) ?_
    exact ih_7 (i + 1) _ _ _ (by omega) ⟨_, rfl, lv_sub hl [1, 0] rfl, (by rw [sr_sr, sr_s, cpyF_1] at hW; exact hW), (by omega)⟩
theorem gT_changed : GoodIn gw (wsV RX10 111 RX10 yX10_changed (Cond.code yX10_changed cX10_changed 3 (some .int) :: gw)) := gdV gw_1726 gw_1728 gw_24 gw_81 gw_1729
theorem hd_changed : yX10_changed.cls = RX10 ∧ yX10_changed.cls ≠ "java/lang/invoke/MethodHandle" ∧ yX10_changed.cls ≠ "java/lang/invoke/VarHandle" ∧ (parseMethodDescriptor yX10_changed.desc).map (fun d => d.parameters.length) = some 1 := ⟨rfl, by decide +kernel, by decide +kernel, by decide +kernel⟩
theorem dX10_changed_0 : decode cX10_changed 0 = .ok (.aload_n 0, 1) := by decide +kernel
theorem dX10_changed_1 : decode cX10_changed 1 = .ok (.getfield 57, 3) := by decide +kernel
theorem dX10_changed_4 : decode cX10_changed 4 = .ok (.ifCond .le 5, 3) := by decide +kernel
theorem dX10_changed_7 : decode cX10_changed 7 = .ok (.iload_n 1, 1) := by decide +kernel
theorem dX10_changed_8 : decode cX10_changed 8 = .ok (.ireturn, 1) := by decide +kernel
theorem dX10_changed_9 : decode cX10_changed 9 = .ok (.aload_n 0, 1) := by decide +kernel
theorem dX10_changed_10 : decode cX10_changed 10 = .ok (.getfield 60, 3) := by decide +kernel
theorem dX10_changed_13 : decode cX10_changed 13 = .ok (.bipush 8, 2) := by decide +kernel
theorem dX10_changed_15 : decode cX10_changed 15 = .ok (.if_icmp .ne 43, 3) := by decide +kernel
theorem dX10_changed_18 : decode cX10_changed 18 = .ok (.iconst 0, 1) := by decide +kernel
theorem dX10_changed_19 : decode cX10_changed 19 = .ok (.istore_n 2, 1) := by decide +kernel
theorem dX10_changed_20 : decode cX10_changed 20 = .ok (.iload_n 2, 1) := by decide +kernel
theorem dX10_changed_21 : decode cX10_changed 21 = .ok (.sipush 539, 3) := by decide +kernel
theorem dX10_changed_24 : decode cX10_changed 24 = .ok (.if_icmp .ge 24, 3) := by decide +kernel
theorem dX10_changed_27 : decode cX10_changed 27 = .ok (.aload_n 0, 1) := by decide +kernel
theorem dX10_changed_28 : decode cX10_changed 28 = .ok (.getfield 19, 3) := by decide +kernel
theorem dX10_changed_31 : decode cX10_changed 31 = .ok (.iload_n 2, 1) := by decide +kernel
theorem dX10_changed_32 : decode cX10_changed 32 = .ok (.aload_n 0, 1) := by decide +kernel
theorem dX10_changed_33 : decode cX10_changed 33 = .ok (.getfield 19, 3) := by decide +kernel
theorem dX10_changed_36 : decode cX10_changed 36 = .ok (.iload_n 2, 1) := by decide +kernel
theorem dX10_changed_37 : decode cX10_changed 37 = .ok (.bipush 77, 2) := by decide +kernel
theorem dX10_changed_39 : decode cX10_changed 39 = .ok (.iadd, 1) := by decide +kernel
theorem dX10_changed_40 : decode cX10_changed 40 = .ok (.iaload, 1) := by decide +kernel
theorem dX10_changed_41 : decode cX10_changed 41 = .ok (.iastore, 1) := by decide +kernel
theorem dX10_changed_42 : decode cX10_changed 42 = .ok (.iinc 2 1, 3) := by decide +kernel
theorem dX10_changed_45 : decode cX10_changed 45 = .ok (.goto (-25), 3) := by decide +kernel
theorem dX10_changed_48 : decode cX10_changed 48 = .ok (.aload_n 0, 1) := by decide +kernel
theorem dX10_changed_49 : decode cX10_changed 49 = .ok (.dup, 1) := by decide +kernel
theorem dX10_changed_50 : decode cX10_changed 50 = .ok (.getfield 60, 3) := by decide +kernel
theorem dX10_changed_53 : decode cX10_changed 53 = .ok (.iconst 1, 1) := by decide +kernel
theorem dX10_changed_54 : decode cX10_changed 54 = .ok (.isub, 1) := by decide +kernel
theorem dX10_changed_55 : decode cX10_changed 55 = .ok (.putfield 60, 3) := by decide +kernel
theorem dX10_changed_58 : decode cX10_changed 58 = .ok (.iconst 0, 1) := by decide +kernel
theorem dX10_changed_59 : decode cX10_changed 59 = .ok (.istore_n 2, 1) := by decide +kernel
theorem dX10_changed_60 : decode cX10_changed 60 = .ok (.iload_n 2, 1) := by decide +kernel
theorem dX10_changed_61 : decode cX10_changed 61 = .ok (.bipush 77, 2) := by decide +kernel
theorem dX10_changed_63 : decode cX10_changed 63 = .ok (.if_icmp .ge 29, 3) := by decide +kernel
theorem dX10_changed_66 : decode cX10_changed 66 = .ok (.aload_n 0, 1) := by decide +kernel
theorem dX10_changed_67 : decode cX10_changed 67 = .ok (.getfield 19, 3) := by decide +kernel
theorem dX10_changed_70 : decode cX10_changed 70 = .ok (.bipush 77, 2) := by decide +kernel
theorem dX10_changed_72 : decode cX10_changed 72 = .ok (.aload_n 0, 1) := by decide +kernel
theorem dX10_changed_73 : decode cX10_changed 73 = .ok (.getfield 60, 3) := by decide +kernel
theorem dX10_changed_76 : decode cX10_changed 76 = .ok (.imul, 1) := by decide +kernel
theorem dX10_changed_77 : decode cX10_changed 77 = .ok (.iload_n 2, 1) := by decide +kernel
theorem dX10_changed_78 : decode cX10_changed 78 = .ok (.iadd, 1) := by decide +kernel
theorem dX10_changed_79 : decode cX10_changed 79 = .ok (.aload_n 0, 1) := by decide +kernel
theorem dX10_changed_80 : decode cX10_changed 80 = .ok (.getfield 13, 3) := by decide +kernel
theorem dX10_changed_83 : decode cX10_changed 83 = .ok (.iload_n 2, 1) := by decide +kernel
theorem dX10_changed_84 : decode cX10_changed 84 = .ok (.iaload, 1) := by decide +kernel
theorem dX10_changed_85 : decode cX10_changed 85 = .ok (.iastore, 1) := by decide +kernel
theorem dX10_changed_86 : decode cX10_changed 86 = .ok (.iinc 2 1, 3) := by decide +kernel
theorem dX10_changed_89 : decode cX10_changed 89 = .ok (.goto (-29), 3) := by decide +kernel
theorem dX10_changed_92 : decode cX10_changed 92 = .ok (.aload_n 0, 1) := by decide +kernel
theorem dX10_changed_93 : decode cX10_changed 93 = .ok (.dup, 1) := by decide +kernel
theorem dX10_changed_94 : decode cX10_changed 94 = .ok (.getfield 60, 3) := by decide +kernel
theorem dX10_changed_97 : decode cX10_changed 97 = .ok (.iconst 1, 1) := by decide +kernel
theorem dX10_changed_98 : decode cX10_changed 98 = .ok (.iadd, 1) := by decide +kernel
theorem dX10_changed_99 : decode cX10_changed 99 = .ok (.putfield 60, 3) := by decide +kernel
theorem dX10_changed_102 : decode cX10_changed 102 = .ok (.iload_n 1, 1) := by decide +kernel
theorem dX10_changed_103 : decode cX10_changed 103 = .ok (.ireturn, 1) := by decide +kernel
set_option maxHeartbeats 1000000 in
set_option maxRecDepth 20000 in
theorem m_changed (l : Launch) (D : va_G) (aT : Nat → ClassId) (ad : Nat → Nat) (S : MSt) (t : Int32) (tt ch : Nat) (htt : S 13 8 = nI tt) (hlt : tt < 1024) (hch : S 13 5 = nI ch) (hc8 : ch ≤ 8) : MdI l yX10_changed cX10_changed 3 .int 0 0 D aT ad [.ref (ad 0), .int t] S (fun r S1 => r = t ∧ S1 = if tt = 0 then ss (sr S 3 (pstF (S 3) (S 1) ch)) 5 (nI (min ch 7 + 1)) else S) := by
  refine MdI.of (by decide +kernel) rfl (Nat.le_of_ble_eq_true rfl) ?_
  intro p e s m below meth c A ls C hml hl hA hr hlocks hW
  have hl : lv_has ls 3 [(0, .ref (ad 0)), (1, .int t)] := hl
  have hx := C.1
  have hb := C.2.1
  refine lv_aload_n hx hb dX10_changed_0 rfl (lv_at hl 0 rfl) ?_
  refine md_get_thrown C hW dX10_changed_1 ?_
  refine r_eq (y := (nI tt)) (htt) ?_
  refine r_ifleN hx hb (a := tt) (by omega) (tgt := 9) dX10_changed_4 (by decide) (fun c_4 => ?_) (fun c_4 => ?_)
  · refine lv_aload_n hx hb dX10_changed_9 rfl (lv_at hl 0 rfl) ?_
    refine md_get_changes C hW dX10_changed_10 ?_
    refine r_eq (y := (nI ch)) (hch) ?_
    refine lv_bipush (v := nI 8) hx hb dX10_changed_13 (by decide) ?_
    refine r_neN hx hb (a := ch) (b := 8) (by omega) (by omega) (tgt := 58) dX10_changed_15 (by decide) (fun c_15 => ?_) (fun c_15 => ?_)
    · refine lv_iconst (v := nI 0) hx hb dX10_changed_58 (by decide) ?_
      refine lv_istore_n (lv' := [(2, .int (nI 0)), (0, .ref (ad 0)), (1, .int t)]) hx hb dX10_changed_59 rfl hl (by decide) rfl (fun ls hl => ?_)
      refine W_loopH (σ := Nat) (fun z_ => 77 - z_) (fun z_ H locs g => ∃ ls, g = F0 m 60 ls [] ∧ lv_has ls 3 [(0, .ref (ad 0)), (1, .int t), (2, .int (nI z_))] ∧ MdB D aT ad (sr S 3 (putF (S 3) (S 1) (77 * ch) z_)) A s.heap H locs ∧ (z_ ≤ 77)) ?_ 0 _ ⟨_, rfl, lv_sub hl [1, 2, 0] rfl, (by rw [putF_0, sr_self]; exact hW), Nat.zero_le _⟩
      clear hW hl
      rintro j H locs g ⟨ls, rfl, hl, hW, hj⟩ ih_60
      refine lv_iload_n hx hb dX10_changed_60 rfl (lv_at hl 2 rfl) ?_
      refine lv_bipush (v := nI 77) hx hb dX10_changed_61 (by decide) ?_
      refine r_geN hx hb (a := j) (b := 77) (by omega) (by omega) (tgt := 92) dX10_changed_63 (by decide) (fun c_63 => ?_) (fun c_63 => ?_)
      · refine lv_aload_n hx hb dX10_changed_92 rfl (lv_at hl 0 rfl) ?_
        refine lv_dup hx hb dX10_changed_93 rfl ?_
        refine md_get_changes C hW dX10_changed_94 ?_
        refine r_eq (y := (nI ch)) (hch) ?_
        refine lv_iconst (v := nI 1) hx hb dX10_changed_97 (by decide) ?_
        refine r_iaddN hx hb (a := ch) (b := 1) dX10_changed_98 ?_
        refine md_put_changes C hW dX10_changed_99 (fun H locs hW => ?_)
        refine lv_iload_n hx hb dX10_changed_102 rfl (lv_at hl 1 rfl) ?_
        exact md_iret C hr hlocks rfl hW (⟨rfl, by rw [if_pos c_4, pstF, if_neg c_15, show min ch 7 = ch by omega, show j = 77 by omega]⟩) dX10_changed_103
      · refine lv_aload_n hx hb dX10_changed_66 rfl (lv_at hl 0 rfl) ?_
        refine md_geta_past C hW dX10_changed_67 ?_
        refine lv_bipush (v := nI 77) hx hb dX10_changed_70 (by decide) ?_
        refine lv_aload_n hx hb dX10_changed_72 rfl (lv_at hl 0 rfl) ?_
        refine md_get_changes C hW dX10_changed_73 ?_
        refine r_eq (y := (nI ch)) (hch) ?_
        refine r_imulN hx hb (a := 77) (b := ch) dX10_changed_76 ?_
        refine lv_iload_n hx hb dX10_changed_77 rfl (lv_at hl 2 rfl) ?_
        refine r_iaddN hx hb (a := 77 * ch) (b := j) dX10_changed_78 ?_
        refine lv_aload_n hx hb dX10_changed_79 rfl (lv_at hl 0 rfl) ?_
        refine md_geta_aside C hW dX10_changed_80 ?_
        refine lv_iload_n hx hb dX10_changed_83 rfl (lv_at hl 2 rfl) ?_
        refine md_ald_aside C hW (i := j) (by omega) dX10_changed_84 ?_
        refine r_eq (y := (S 1 j)) (rfl) ?_
        refine md_ast_past C hW (i := 77 * ch + j) (by omega) dX10_changed_85 (fun H locs hW => ?_)
        refine lv_iinc (v := (nI (j + 1))) (lv' := [(2, .int (nI (j + 1))), (0, .ref (ad 0)), (1, .int t)]) hx hb dX10_changed_86 hl (k := 2) rfl (nI_1 _) (by decide) rfl (fun ls hl => ?_)
        refine lv_goto (tgt := 60) hx hb dX10_changed_89 (by decide) ?_
        exact ih_60 (j + 1) _ _ _ (by omega) ⟨_, rfl, lv_sub hl [1, 2, 0] rfl, (by rw [sr_sr, sr_s, putF_1] at hW; exact hW), (by omega)⟩
    · refine lv_iconst (v := nI 0) hx hb dX10_changed_18 (by decide) ?_
      refine lv_istore_n (lv' := [(2, .int (nI 0)), (0, .ref (ad 0)), (1, .int t)]) hx hb dX10_changed_19 rfl hl (by decide) rfl (fun ls hl => ?_)
      refine W_loopH (σ := Nat) (fun z_ => 539 - z_) (fun z_ H locs g => ∃ ls, g = F0 m 20 ls [] ∧ lv_has ls 3 [(0, .ref (ad 0)), (1, .int t), (2, .int (nI z_))] ∧ MdB D aT ad (sr S 3 (shF (S 3) z_)) A s.heap H locs ∧ (z_ ≤ 539)) ?_ 0 _ ⟨_, rfl, lv_sub hl [1, 2, 0] rfl, (by rw [shF_0, sr_self]; exact hW), Nat.zero_le _⟩
      clear hW hl
      rintro i H locs g ⟨ls, rfl, hl, hW, hi⟩ ih_20
      refine lv_iload_n hx hb dX10_changed_20 rfl (lv_at hl 2 rfl) ?_
      refine lv_sipush (v := nI 539) hx hb dX10_changed_21 (by decide) ?_
      refine r_geN hx hb (a := i) (b := 539) (by omega) (by omega) (tgt := 48) dX10_changed_24 (by decide) (fun c_24 => ?_) (fun c_24 => ?_)
      · refine lv_aload_n hx hb dX10_changed_48 rfl (lv_at hl 0 rfl) ?_
        refine lv_dup hx hb dX10_changed_49 rfl ?_
        refine md_get_changes C hW dX10_changed_50 ?_
        refine r_eq (y := (nI ch)) (hch) ?_
        refine lv_iconst (v := nI 1) hx hb dX10_changed_53 (by decide) ?_
        refine r_isubN hx hb (a := ch) (b := 1) (by omega) dX10_changed_54 ?_
        refine md_put_changes C hW dX10_changed_55 (fun H locs hW => ?_)
        have hW : MdB D aT ad (ss (sr S 3 (shF (S 3) i)) 5 (nI 7)) A s.heap H locs := by rw [show nI 7 = nI (ch - 1) by rw [c_15]]; exact hW
        refine lv_iconst (v := nI 0) hx hb dX10_changed_58 (by decide) ?_
        refine lv_istore_n (lv' := [(2, .int (nI 0)), (0, .ref (ad 0)), (1, .int t)]) hx hb dX10_changed_59 rfl hl (by decide) rfl (fun ls hl => ?_)
        refine W_loopH (σ := Nat) (fun z_ => 77 - z_) (fun z_ H locs g => ∃ ls, g = F0 m 60 ls [] ∧ lv_has ls 3 [(0, .ref (ad 0)), (1, .int t), (2, .int (nI z_))] ∧ MdB D aT ad (ss (sr S 3 (putF (shF (S 3) 539) (S 1) (77 * 7) z_)) 5 (nI 7)) A s.heap H locs ∧ (z_ ≤ 77)) ?_ 0 _ ⟨_, rfl, lv_sub hl [1, 2, 0] rfl, (by rw [putF_0]; rw [show i = 539 by omega] at hW; exact hW), Nat.zero_le _⟩
        clear hW hl
        rintro j H locs g ⟨ls, rfl, hl, hW, hj⟩ ih_60
        refine lv_iload_n hx hb dX10_changed_60 rfl (lv_at hl 2 rfl) ?_
        refine lv_bipush (v := nI 77) hx hb dX10_changed_61 (by decide) ?_
        refine r_geN hx hb (a := j) (b := 77) (by omega) (by omega) (tgt := 92) dX10_changed_63 (by decide) (fun c_63 => ?_) (fun c_63 => ?_)
        · refine lv_aload_n hx hb dX10_changed_92 rfl (lv_at hl 0 rfl) ?_
          refine lv_dup hx hb dX10_changed_93 rfl ?_
          refine md_get_changes C hW dX10_changed_94 ?_
          refine r_eq (y := (nI 7)) (ss_s _ _ _) ?_
          refine lv_iconst (v := nI 1) hx hb dX10_changed_97 (by decide) ?_
          refine r_iaddN hx hb (a := 7) (b := 1) dX10_changed_98 ?_
          refine md_put_changes C hW dX10_changed_99 (fun H locs hW => ?_)
          refine lv_iload_n hx hb dX10_changed_102 rfl (lv_at hl 1 rfl) ?_
          exact md_iret C hr hlocks rfl hW (⟨rfl, by rw [if_pos c_4, pstF, if_pos c_15, ss_ss, c_15, show j = 77 by omega]; rfl⟩) dX10_changed_103
        · refine lv_aload_n hx hb dX10_changed_66 rfl (lv_at hl 0 rfl) ?_
          refine md_geta_past C hW dX10_changed_67 ?_
          refine lv_bipush (v := nI 77) hx hb dX10_changed_70 (by decide) ?_
          refine lv_aload_n hx hb dX10_changed_72 rfl (lv_at hl 0 rfl) ?_
          refine md_get_changes C hW dX10_changed_73 ?_
          refine r_eq (y := (nI 7)) (ss_s _ _ _) ?_
          refine r_imulN hx hb (a := 77) (b := 7) dX10_changed_76 ?_
          refine lv_iload_n hx hb dX10_changed_77 rfl (lv_at hl 2 rfl) ?_
          refine r_iaddN hx hb (a := 77 * 7) (b := j) dX10_changed_78 ?_
          refine lv_aload_n hx hb dX10_changed_79 rfl (lv_at hl 0 rfl) ?_
          refine md_geta_aside C hW dX10_changed_80 ?_
          refine lv_iload_n hx hb dX10_changed_83 rfl (lv_at hl 2 rfl) ?_
          refine md_ald_aside C hW (i := j) (by omega) dX10_changed_84 ?_
          refine r_eq (y := (S 1 j)) (rfl) ?_
          refine md_ast_past C hW (i := 77 * 7 + j) (by omega) dX10_changed_85 (fun H locs hW => ?_)
          refine lv_iinc (v := (nI (j + 1))) (lv' := [(2, .int (nI (j + 1))), (0, .ref (ad 0)), (1, .int t)]) hx hb dX10_changed_86 hl (k := 2) rfl (nI_1 _) (by decide) rfl (fun ls hl => ?_)
          refine lv_goto (tgt := 60) hx hb dX10_changed_89 (by decide) ?_
          exact ih_60 (j + 1) _ _ _ (by omega) ⟨_, rfl, lv_sub hl [1, 2, 0] rfl, (by rw [sr_ss _ _ _ _ _ (by decide), sr_sr, ss_n _ _ _ _ (by decide), sr_s, putF_1] at hW; exact hW), (by omega)⟩
      · refine lv_aload_n hx hb dX10_changed_27 rfl (lv_at hl 0 rfl) ?_
        refine md_geta_past C hW dX10_changed_28 ?_
        refine lv_iload_n hx hb dX10_changed_31 rfl (lv_at hl 2 rfl) ?_
        refine lv_aload_n hx hb dX10_changed_32 rfl (lv_at hl 0 rfl) ?_
        refine md_geta_past C hW dX10_changed_33 ?_
        refine lv_iload_n hx hb dX10_changed_36 rfl (lv_at hl 2 rfl) ?_
        refine lv_bipush (v := nI 77) hx hb dX10_changed_37 (by decide) ?_
        refine r_iaddN hx hb (a := i) (b := 77) dX10_changed_39 ?_
        refine md_ald_past C hW (i := i + 77) (by omega) dX10_changed_40 ?_
        refine md_ast_past C hW (i := i) (by omega) dX10_changed_41 (fun H locs hW => ?_)
        refine lv_iinc (v := (nI (i + 1))) (lv' := [(2, .int (nI (i + 1))), (0, .ref (ad 0)), (1, .int t)]) hx hb dX10_changed_42 hl (k := 2) rfl (nI_1 _) (by decide) rfl (fun ls hl => ?_)
        refine lv_goto (tgt := 20) hx hb dX10_changed_45 (by decide) ?_
        exact ih_20 (i + 1) _ _ _ (by omega) ⟨_, rfl, lv_sub hl [1, 2, 0] rfl, (by rw [sr_sr, sr_s, shF_1] at hW; exact hW), (by omega)⟩
  · refine lv_iload_n hx hb dX10_changed_7 rfl (lv_at hl 1 rfl) ?_
    exact md_iret C hr hlocks rfl hW (⟨rfl, by rw [if_neg (by omega)]⟩) dX10_changed_8
