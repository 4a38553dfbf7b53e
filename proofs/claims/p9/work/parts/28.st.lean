theorem rg_i {A B : Int64} {a b : Int32} (hA : A.toInt = a.toInt) (hB : B.toInt = b.toInt) (x : Int32) : rgB A B x = decide (a ≤ x ∧ x ≤ b) := by
  unfold rgB
  refine decide_eq_decide.mpr ?_
  rw [Int64.le_iff_toInt_le, Int64.le_iff_toInt_le, Int32.toInt_toInt64, hA, hB, Int32.le_iff_toInt_le, Int32.le_iff_toInt_le]
theorem rg_lo {A B : Int64} {a b : Int32} (hA : A.toInt = a.toInt) (hB : B.toInt = b.toInt) {x : Int32} (h : x < a) : rgB A B x = false := by
  rw [rg_i hA hB]
  exact decide_eq_false (fun q => absurd q.1 (Int32.not_le.mpr h))
theorem rg_hi {A B : Int64} {a b : Int32} (hA : A.toInt = a.toInt) (hB : B.toInt = b.toInt) {x : Int32} (h : b < x) : rgB A B x = false := by
  rw [rg_i hA hB]
  exact decide_eq_false (fun q => absurd q.2 (Int32.not_le.mpr h))
theorem rg_in {A B : Int64} {a b : Int32} (hA : A.toInt = a.toInt) (hB : B.toInt = b.toInt) {x : Int32} (h1 : ¬ x < a) (h2 : ¬ b < x) : rgB A B x = true := by
  rw [rg_i hA hB]
  exact decide_eq_true ⟨Int32.not_lt.mp h1, Int32.not_lt.mp h2⟩
theorem dg_lo {x : Int32} (h : x < 0) : rgB 0 9 x = false := rg_lo (a := 0) (b := 9) (by decide) (by decide) h
theorem dg_hi {x : Int32} (h : nI 9 < x) : rgB 0 9 x = false := rg_hi (a := 0) (b := nI 9) (by decide) (by decide) h
theorem dg_in {x : Int32} (h1 : ¬ x < 0) (h2 : ¬ nI 9 < x) : rgB 0 9 x = true := rg_in (a := 0) (b := nI 9) (by decide) (by decide) h1 h2
theorem pd_1 (a : Nat) : nI (a + 1) + -1 = nI a := by rw [pd_eq (by omega)]; rfl
theorem dX7_isDigit_0 : decode cX7_isDigit 0 = .ok (.iload_n 0, 1) := by decide +kernel
theorem dX7_isDigit_1 : decode cX7_isDigit 1 = .ok (.ifCond .lt 13, 3) := by decide +kernel
theorem dX7_isDigit_4 : decode cX7_isDigit 4 = .ok (.iload_n 0, 1) := by decide +kernel
theorem dX7_isDigit_5 : decode cX7_isDigit 5 = .ok (.bipush 9, 2) := by decide +kernel
theorem dX7_isDigit_7 : decode cX7_isDigit 7 = .ok (.if_icmp .gt 7, 3) := by decide +kernel
theorem dX7_isDigit_10 : decode cX7_isDigit 10 = .ok (.iconst 1, 1) := by decide +kernel
theorem dX7_isDigit_11 : decode cX7_isDigit 11 = .ok (.goto 4, 3) := by decide +kernel
theorem dX7_isDigit_14 : decode cX7_isDigit 14 = .ok (.iconst 0, 1) := by decide +kernel
theorem dX7_isDigit_15 : decode cX7_isDigit 15 = .ok (.ireturn, 1) := by decide +kernel
set_option maxHeartbeats 2000000 in
set_option maxRecDepth 20000 in
theorem k_X7_isDigit (l : Launch) (hfl : l.stackTraces = false) (D : va_G) (aT : Nat → ClassId) (x : Int32) : CxG l yX7_isDigit cX7_isDigit 1 (some (.boolean)) 0 0 0 0 D aT [.int x] [] (qI D aT (fun r W1 => r = bI (rgB 0 9 x) ∧ W1 = [])) (fun _ _ => False) := by
  refine CxG.of RX7 (by decide +kernel) rfl (Nat.le_of_ble_eq_true rfl) ?_
  intro p e s m below meth c A ls C hml hl hA hr hlocks hex hnm hZ hW
  have hl : lv_has ls 1 [(0, .int x)] := hl
  have hx := C.1
  have hb := C.2.1
  refine lv_iload_n hx hb dX7_isDigit_0 rfl (lv_at hl 0 rfl) ?_
  refine lv_if_lt hx hb (x := x) (tgt := 14) dX7_isDigit_1 (by decide) (fun c_1 => ?_) (fun c_1 => ?_)
  · refine lv_iconst (v := nI 0) hx hb dX7_isDigit_14 (by decide) ?_
    exact cx_iret C hr hlocks (by decide) hW ⟨Nat.le_of_ble_eq_true rfl, Nat.le_of_ble_eq_true rfl⟩ (⟨by rw [dg_lo c_1]; rfl, rfl⟩) dX7_isDigit_15
  · refine lv_iload_n hx hb dX7_isDigit_4 rfl (lv_at hl 0 rfl) ?_
    refine lv_bipush (v := nI 9) hx hb dX7_isDigit_5 (by decide) ?_
    refine lv_icmp_gt hx hb (x := x) (y := (nI 9)) (tgt := 14) dX7_isDigit_7 (by decide) (fun c_7 => ?_) (fun c_7 => ?_)
    · refine lv_iconst (v := nI 0) hx hb dX7_isDigit_14 (by decide) ?_
      exact cx_iret C hr hlocks (by decide) hW ⟨Nat.le_of_ble_eq_true rfl, Nat.le_of_ble_eq_true rfl⟩ (⟨by rw [dg_hi c_7]; rfl, rfl⟩) dX7_isDigit_15
    · refine lv_iconst (v := nI 1) hx hb dX7_isDigit_10 (by decide) ?_
      refine lv_goto (tgt := 15) hx hb dX7_isDigit_11 (by decide) ?_
      exact cx_iret C hr hlocks (by decide) hW ⟨Nat.le_of_ble_eq_true rfl, Nat.le_of_ble_eq_true rfl⟩ (⟨by rw [dg_in c_1 c_7]; rfl, rfl⟩) dX7_isDigit_15
theorem dX7_requireToneAndWeight_0 : decode cX7_requireToneAndWeight 0 = .ok (.iload_n 0, 1) := by decide +kernel
theorem dX7_requireToneAndWeight_1 : decode cX7_requireToneAndWeight 1 = .ok (.invokestatic 67, 3) := by decide +kernel
theorem dX7_requireToneAndWeight_4 : decode cX7_requireToneAndWeight 4 = .ok (.ifCond .eq 14, 3) := by decide +kernel
theorem dX7_requireToneAndWeight_7 : decode cX7_requireToneAndWeight 7 = .ok (.iload_n 1, 1) := by decide +kernel
theorem dX7_requireToneAndWeight_8 : decode cX7_requireToneAndWeight 8 = .ok (.iconst 1, 1) := by decide +kernel
theorem dX7_requireToneAndWeight_9 : decode cX7_requireToneAndWeight 9 = .ok (.if_icmp .lt 9, 3) := by decide +kernel
theorem dX7_requireToneAndWeight_12 : decode cX7_requireToneAndWeight 12 = .ok (.iload_n 1, 1) := by decide +kernel
theorem dX7_requireToneAndWeight_13 : decode cX7_requireToneAndWeight 13 = .ok (.bipush 20, 2) := by decide +kernel
theorem dX7_requireToneAndWeight_15 : decode cX7_requireToneAndWeight 15 = .ok (.if_icmp .le 13, 3) := by decide +kernel
theorem dX7_requireToneAndWeight_18 : decode cX7_requireToneAndWeight 18 = .ok (.new 71, 3) := by decide +kernel
theorem dX7_requireToneAndWeight_21 : decode cX7_requireToneAndWeight 21 = .ok (.dup, 1) := by decide +kernel
theorem dX7_requireToneAndWeight_22 : decode cX7_requireToneAndWeight 22 = .ok (.ldc 162, 2) := by decide +kernel
theorem dX7_requireToneAndWeight_24 : decode cX7_requireToneAndWeight 24 = .ok (.invokespecial 75, 3) := by decide +kernel
theorem dX7_requireToneAndWeight_27 : decode cX7_requireToneAndWeight 27 = .ok (.athrow, 1) := by decide +kernel
theorem dX7_requireToneAndWeight_28 : decode cX7_requireToneAndWeight 28 = .ok (.return_, 1) := by decide +kernel
theorem gS_X7_X7_isDigit_67 : GoodIn gw (va_wsS RX7 67 yX7_isDigit (Cond.code yX7_isDigit cX7_isDigit 1 (some .boolean) :: gw)) := gdS2 gw_556 gw_557 gw_68 gw_558
theorem hS_X7_isDigit : yX7_isDigit.cls ≠ "java/lang/invoke/MethodHandle" ∧ yX7_isDigit.cls ≠ "java/lang/invoke/VarHandle" ∧ (parseMethodDescriptor yX7_isDigit.desc).map (fun d => d.parameters.length) = some 1 := ⟨by decide +kernel, by decide +kernel, by decide +kernel⟩
set_option maxHeartbeats 2000000 in
set_option maxRecDepth 20000 in
theorem k_X7_requireToneAndWeight (l : Launch) (hfl : l.stackTraces = false) (D : va_G) (aT : Nat → ClassId) (x : Int32) (y : Int32) : CxG l yX7_requireToneAndWeight cX7_requireToneAndWeight 2 none 6 1 6 90 D aT [.int x, .int y] [] (qV D aT (fun W1 => (rgB 0 9 x && rgB 1 20 y) = true ∧ W1 = [])) (fun E W1 => (E = "java/lang/IllegalArgumentException" ∧ (rgB 0 9 x && rgB 1 20 y) = false) ∧ W1 = []) := by
  refine CxG.of RX7 (by decide +kernel) rfl (Nat.le_of_ble_eq_true rfl) ?_
  intro p e s m below meth c A ls C hml hl hA hr hlocks hex hnm hZ hW
  have hl : lv_has ls 2 [(0, .int x), (1, .int y)] := hl
  have hx := C.1
  have hb := C.2.1
  refine lv_iload_n hx hb dX7_requireToneAndWeight_0 rfl (lv_at hl 0 rfl) ?_
  refine cx_calli (Wr := []) (cx_runS C hml hl.1 hZ hW hA (As := [.int x]) (rest := []) (k_X7_isDigit l hfl D aT x) gS_X7_X7_isDigit_67 hS_X7_isDigit rfl ⟨Nat.le_of_ble_eq_true rfl, Nat.le_of_ble_eq_true rfl⟩ ⟨Nat.le_of_ble_eq_true rfl, Nat.le_of_ble_eq_true rfl⟩ [] rfl (by decide) rfl (Nat.le_of_ble_eq_true rfl) dX7_requireToneAndWeight_1) hW hA [] [] rfl rfl (by decide) (by decide) (fun _ _ _ _ _ _ h9 => h9.elim) (fun r_1 W_1 H locs hq hW => ?_)
  obtain ⟨rfl, rfl⟩ := hq
  have hW : CxB D [] A s.heap H _ := hW
  refine r_bI_eq hx hb (b := (rgB 0 9 x)) (tgt := 18) dX7_requireToneAndWeight_4 (by decide) (fun c_4 => ?_) (fun c_4 => ?_)
  · exact cx_throw C hfl hex hml hl.1 hlocks hZ hW at_X7_IllegalArgumentException (List.mem_of_getElem? (i := 2) rfl) gw_559 gw_86 (by decide +kernel) dX7_requireToneAndWeight_18 dX7_requireToneAndWeight_21 dX7_requireToneAndWeight_22 dX7_requireToneAndWeight_24 dX7_requireToneAndWeight_27 ⟨Nat.le_of_ble_eq_true rfl, Nat.le_of_ble_eq_true rfl, Nat.le_of_ble_eq_true rfl, Nat.le_of_ble_eq_true rfl⟩ ⟨Nat.le_of_ble_eq_true rfl, Nat.le_of_ble_eq_true rfl⟩ (⟨⟨rfl, by rw [c_4]; rfl⟩, rfl⟩)
  · refine lv_iload_n hx hb dX7_requireToneAndWeight_7 rfl (lv_at hl 1 rfl) ?_
    refine lv_iconst (v := nI 1) hx hb dX7_requireToneAndWeight_8 (by decide) ?_
    refine lv_icmp_lt hx hb (x := y) (y := (nI 1)) (tgt := 18) dX7_requireToneAndWeight_9 (by decide) (fun c_9 => ?_) (fun c_9 => ?_)
    · exact cx_throw C hfl hex hml hl.1 hlocks hZ hW at_X7_IllegalArgumentException (List.mem_of_getElem? (i := 2) rfl) gw_559 gw_86 (by decide +kernel) dX7_requireToneAndWeight_18 dX7_requireToneAndWeight_21 dX7_requireToneAndWeight_22 dX7_requireToneAndWeight_24 dX7_requireToneAndWeight_27 ⟨Nat.le_of_ble_eq_true rfl, Nat.le_of_ble_eq_true rfl, Nat.le_of_ble_eq_true rfl, Nat.le_of_ble_eq_true rfl⟩ ⟨Nat.le_of_ble_eq_true rfl, Nat.le_of_ble_eq_true rfl⟩ (⟨⟨rfl, by rw [rg_lo (a := nI 1) (b := nI 20) (by decide) (by decide) c_9]; simp⟩, rfl⟩)
    · refine lv_iload_n hx hb dX7_requireToneAndWeight_12 rfl (lv_at hl 1 rfl) ?_
      refine lv_bipush (v := nI 20) hx hb dX7_requireToneAndWeight_13 (by decide) ?_
      refine lv_icmp_le hx hb (x := y) (y := (nI 20)) (tgt := 28) dX7_requireToneAndWeight_15 (by decide) (fun c_15 => ?_) (fun c_15 => ?_)
      · exact cx_vret C hr hlocks hW ⟨Nat.le_of_ble_eq_true rfl, Nat.le_of_ble_eq_true rfl⟩ (⟨by rw [c_4, rg_in (a := nI 1) (b := nI 20) (by decide) (by decide) c_9 (Int32.not_lt.mpr c_15)]; rfl, rfl⟩) dX7_requireToneAndWeight_28
      · exact cx_throw C hfl hex hml hl.1 hlocks hZ hW at_X7_IllegalArgumentException (List.mem_of_getElem? (i := 2) rfl) gw_559 gw_86 (by decide +kernel) dX7_requireToneAndWeight_18 dX7_requireToneAndWeight_21 dX7_requireToneAndWeight_22 dX7_requireToneAndWeight_24 dX7_requireToneAndWeight_27 ⟨Nat.le_of_ble_eq_true rfl, Nat.le_of_ble_eq_true rfl, Nat.le_of_ble_eq_true rfl, Nat.le_of_ble_eq_true rfl⟩ ⟨Nat.le_of_ble_eq_true rfl, Nat.le_of_ble_eq_true rfl⟩ (⟨⟨rfl, by rw [rg_hi (a := nI 1) (b := nI 20) (by decide) (by decide) (Int32.not_le.mp c_15)]; simp⟩, rfl⟩)
theorem dX7_newHedge_0 : decode cX7_newHedge 0 = .ok (.iload_n 1, 1) := by decide +kernel
theorem dX7_newHedge_1 : decode cX7_newHedge 1 = .ok (.iconst 1, 1) := by decide +kernel
theorem dX7_newHedge_2 : decode cX7_newHedge 2 = .ok (.if_icmp .lt 23, 3) := by decide +kernel
theorem dX7_newHedge_5 : decode cX7_newHedge 5 = .ok (.iload_n 1, 1) := by decide +kernel
theorem dX7_newHedge_6 : decode cX7_newHedge 6 = .ok (.bipush 99, 2) := by decide +kernel
theorem dX7_newHedge_8 : decode cX7_newHedge 8 = .ok (.if_icmp .gt 17, 3) := by decide +kernel
theorem dX7_newHedge_11 : decode cX7_newHedge 11 = .ok (.iload_n 2, 1) := by decide +kernel
theorem dX7_newHedge_12 : decode cX7_newHedge 12 = .ok (.invokestatic 67, 3) := by decide +kernel
theorem dX7_newHedge_15 : decode cX7_newHedge 15 = .ok (.ifCond .eq 10, 3) := by decide +kernel
theorem dX7_newHedge_18 : decode cX7_newHedge 18 = .ok (.iload_n 3, 1) := by decide +kernel
theorem dX7_newHedge_19 : decode cX7_newHedge 19 = .ok (.invokestatic 67, 3) := by decide +kernel
theorem dX7_newHedge_22 : decode cX7_newHedge 22 = .ok (.ifCond .ne 13, 3) := by decide +kernel
theorem dX7_newHedge_25 : decode cX7_newHedge 25 = .ok (.new 71, 3) := by decide +kernel
theorem dX7_newHedge_28 : decode cX7_newHedge 28 = .ok (.dup, 1) := by decide +kernel
theorem dX7_newHedge_29 : decode cX7_newHedge 29 = .ok (.ldc 73, 2) := by decide +kernel
theorem dX7_newHedge_31 : decode cX7_newHedge 31 = .ok (.invokespecial 75, 3) := by decide +kernel
theorem dX7_newHedge_34 : decode cX7_newHedge 34 = .ok (.athrow, 1) := by decide +kernel
theorem dX7_newHedge_35 : decode cX7_newHedge 35 = .ok (.aload_n 0, 1) := by decide +kernel
theorem dX7_newHedge_36 : decode cX7_newHedge 36 = .ok (.getfield 12, 3) := by decide +kernel
theorem dX7_newHedge_39 : decode cX7_newHedge 39 = .ok (.invokevirtual 78, 3) := by decide +kernel
theorem dX7_newHedge_42 : decode cX7_newHedge 42 = .ok (.ifCond .eq 13, 3) := by decide +kernel
theorem dX7_newHedge_45 : decode cX7_newHedge 45 = .ok (.new 82, 3) := by decide +kernel
theorem dX7_newHedge_48 : decode cX7_newHedge 48 = .ok (.dup, 1) := by decide +kernel
theorem dX7_newHedge_49 : decode cX7_newHedge 49 = .ok (.ldc 84, 2) := by decide +kernel
theorem dX7_newHedge_51 : decode cX7_newHedge 51 = .ok (.invokespecial 86, 3) := by decide +kernel
theorem dX7_newHedge_54 : decode cX7_newHedge 54 = .ok (.athrow, 1) := by decide +kernel
theorem dX7_newHedge_55 : decode cX7_newHedge 55 = .ok (.aload_n 0, 1) := by decide +kernel
theorem dX7_newHedge_56 : decode cX7_newHedge 56 = .ok (.getfield 12, 3) := by decide +kernel
theorem dX7_newHedge_59 : decode cX7_newHedge 59 = .ok (.iload_n 1, 1) := by decide +kernel
theorem dX7_newHedge_60 : decode cX7_newHedge 60 = .ok (.iload_n 2, 1) := by decide +kernel
theorem dX7_newHedge_61 : decode cX7_newHedge 61 = .ok (.iload_n 3, 1) := by decide +kernel
theorem dX7_newHedge_62 : decode cX7_newHedge 62 = .ok (.invokevirtual 87, 3) := by decide +kernel
theorem dX7_newHedge_65 : decode cX7_newHedge 65 = .ok (.ireturn, 1) := by decide +kernel
theorem gV_X7_X2_isFull_78 : GoodIn gw (wsV RX7 78 RX2 yX2_isFull (Cond.code yX2_isFull cX2_isFull 1 (some .boolean) :: gw)) := gdV gw_631 gw_632 gw_633 gw_69 gw_634
theorem hV_X2_isFull : yX2_isFull.cls = RX2 ∧ yX2_isFull.cls ≠ "java/lang/invoke/MethodHandle" ∧ yX2_isFull.cls ≠ "java/lang/invoke/VarHandle" ∧ (parseMethodDescriptor yX2_isFull.desc).map (fun d => d.parameters.length) = some 0 := ⟨rfl, by decide +kernel, by decide +kernel, by decide +kernel⟩
theorem gV_X7_X2_add_87 : GoodIn gw (wsV RX7 87 RX2 yX2_add (Cond.code yX2_add cX2_add 5 (some .int) :: gw)) := gdV gw_651 gw_652 gw_653 gw_69 gw_654
theorem hV_X2_add : yX2_add.cls = RX2 ∧ yX2_add.cls ≠ "java/lang/invoke/MethodHandle" ∧ yX2_add.cls ≠ "java/lang/invoke/VarHandle" ∧ (parseMethodDescriptor yX2_add.desc).map (fun d => d.parameters.length) = some 3 := ⟨rfl, by decide +kernel, by decide +kernel, by decide +kernel⟩
set_option maxHeartbeats 2000000 in
set_option maxRecDepth 20000 in
theorem k_X7_newHedge (l : Launch) (hfl : l.stackTraces = false) (D : va_G) (aT : Nat → ClassId) (a0 : Nat) (a1 : Nat) (a2 : Nat) (a3 : Nat) (a4 : Nat) (a5 : Nat) (a6 : Nat) (a7 : Nat) (a8 : Nat) (a9 : Nat) (a10 : Nat) (bb : Nat → Nat → Int32) (nh : Nat) (nm : Nat) (M : Nat → Int32) (Bd : Nat) (hBd : Bd < 1048000) (hC : CoW M Bd) (hB : BlC bb nh nm M) (x : Int32) (y : Int32) (z : Int32) : CxG l yX7_newHedge cX7_newHedge 4 (some (.int)) 6 1 6 90 D aT [.ref a0, .int x, .int y, .int z] [(a0, .inr (10, [.ref a1, .ref a5, .ref a10, .int (bb 8 1), .int (bb 8 2), .int (bb 8 3), .int (bb 8 4), .int (bb 8 5), .int (bb 8 6), .int (bb 8 7), .int (bb 8 8)])), (a1, .inr (6, [.ref a2, .ref a3, .ref a4, .int (nI nh)])), (a2, .inl (aT 0, 6, .inl (bb 0))), (a3, .inl (aT 0, 6, .inl (bb 1))), (a4, .inl (aT 0, 6, .inl (bb 2))), (a5, .inr (8, [.ref a6, .ref a7, .ref a8, .ref a9, .int (nI nm), .int (bb 8 0)])), (a6, .inl (aT 0, 12, .inl (bb 3))), (a7, .inl (aT 0, 12, .inl (bb 4))), (a8, .inl (aT 0, 12, .inl (bb 5))), (a9, .inl (aT 0, 12, .inl (bb 6))), (a10, .inl (aT 0, 4, .inl (bb 7)))] (qI D aT (fun r W1 => ∃ b2 : Nat → Nat → Int32, ((rgB 1 99 x && rgB 0 9 y && rgB 0 9 z) = true ∧ nh < 6 ∧ r = nI nh) ∧ BlC b2 (nh + 1) nm (hedgeF M (hM M) x y z) ∧ W1 = [(a0, .inr (10, [.ref a1, .ref a5, .ref a10, .int (b2 8 1), .int (b2 8 2), .int (b2 8 3), .int (b2 8 4), .int (b2 8 5), .int (b2 8 6), .int (b2 8 7), .int (b2 8 8)])), (a1, .inr (6, [.ref a2, .ref a3, .ref a4, .int (nI (nh + 1))])), (a2, .inl (aT 0, 6, .inl (b2 0))), (a3, .inl (aT 0, 6, .inl (b2 1))), (a4, .inl (aT 0, 6, .inl (b2 2))), (a5, .inr (8, [.ref a6, .ref a7, .ref a8, .ref a9, .int (nI nm), .int (b2 8 0)])), (a6, .inl (aT 0, 12, .inl (b2 3))), (a7, .inl (aT 0, 12, .inl (b2 4))), (a8, .inl (aT 0, 12, .inl (b2 5))), (a9, .inl (aT 0, 12, .inl (b2 6))), (a10, .inl (aT 0, 4, .inl (b2 7)))])) (fun E W1 => ((E = "java/lang/IllegalArgumentException" ∧ (rgB 1 99 x && rgB 0 9 y && rgB 0 9 z) = false) ∨ (E = "java/lang/IllegalStateException" ∧ (rgB 1 99 x && rgB 0 9 y && rgB 0 9 z) = true ∧ nh = 6)) ∧ W1 = [(a0, .inr (10, [.ref a1, .ref a5, .ref a10, .int (bb 8 1), .int (bb 8 2), .int (bb 8 3), .int (bb 8 4), .int (bb 8 5), .int (bb 8 6), .int (bb 8 7), .int (bb 8 8)])), (a1, .inr (6, [.ref a2, .ref a3, .ref a4, .int (nI nh)])), (a2, .inl (aT 0, 6, .inl (bb 0))), (a3, .inl (aT 0, 6, .inl (bb 1))), (a4, .inl (aT 0, 6, .inl (bb 2))), (a5, .inr (8, [.ref a6, .ref a7, .ref a8, .ref a9, .int (nI nm), .int (bb 8 0)])), (a6, .inl (aT 0, 12, .inl (bb 3))), (a7, .inl (aT 0, 12, .inl (bb 4))), (a8, .inl (aT 0, 12, .inl (bb 5))), (a9, .inl (aT 0, 12, .inl (bb 6))), (a10, .inl (aT 0, 4, .inl (bb 7)))]) := by
  have hH := hB.he hC
  have hO := hB.mo hC
  refine CxG.of RX7 (by decide +kernel) rfl (Nat.le_of_ble_eq_true rfl) ?_
  intro p e s m below meth c A ls C hml hl hA hr hlocks hex hnm hZ hW
  have hl : lv_has ls 4 [(0, .ref a0), (1, .int x), (2, .int y), (3, .int z)] := hl
  have hx := C.1
  have hb := C.2.1
  refine lv_iload_n hx hb dX7_newHedge_0 rfl (lv_at hl 1 rfl) ?_
  refine lv_iconst (v := nI 1) hx hb dX7_newHedge_1 (by decide) ?_
  refine lv_icmp_lt hx hb (x := x) (y := (nI 1)) (tgt := 25) dX7_newHedge_2 (by decide) (fun c_2 => ?_) (fun c_2 => ?_)
  · exact cx_throw C hfl hex hml hl.1 hlocks hZ hW at_X7_IllegalArgumentException (List.mem_of_getElem? (i := 0) rfl) gw_559 gw_86 (by decide +kernel) dX7_newHedge_25 dX7_newHedge_28 dX7_newHedge_29 dX7_newHedge_31 dX7_newHedge_34 ⟨Nat.le_of_ble_eq_true rfl, Nat.le_of_ble_eq_true rfl, Nat.le_of_ble_eq_true rfl, Nat.le_of_ble_eq_true rfl⟩ ⟨Nat.le_of_ble_eq_true rfl, Nat.le_of_ble_eq_true rfl⟩ (⟨Or.inl ⟨rfl, by rw [rg_lo (a := nI 1) (b := nI 99) (by decide) (by decide) c_2]; rfl⟩, rfl⟩)
  · refine lv_iload_n hx hb dX7_newHedge_5 rfl (lv_at hl 1 rfl) ?_
    refine lv_bipush (v := nI 99) hx hb dX7_newHedge_6 (by decide) ?_
    refine lv_icmp_gt hx hb (x := x) (y := (nI 99)) (tgt := 25) dX7_newHedge_8 (by decide) (fun c_8 => ?_) (fun c_8 => ?_)
    · exact cx_throw C hfl hex hml hl.1 hlocks hZ hW at_X7_IllegalArgumentException (List.mem_of_getElem? (i := 0) rfl) gw_559 gw_86 (by decide +kernel) dX7_newHedge_25 dX7_newHedge_28 dX7_newHedge_29 dX7_newHedge_31 dX7_newHedge_34 ⟨Nat.le_of_ble_eq_true rfl, Nat.le_of_ble_eq_true rfl, Nat.le_of_ble_eq_true rfl, Nat.le_of_ble_eq_true rfl⟩ ⟨Nat.le_of_ble_eq_true rfl, Nat.le_of_ble_eq_true rfl⟩ (⟨Or.inl ⟨rfl, by rw [rg_hi (a := nI 1) (b := nI 99) (by decide) (by decide) c_8]; rfl⟩, rfl⟩)
    · refine lv_iload_n hx hb dX7_newHedge_11 rfl (lv_at hl 2 rfl) ?_
      refine cx_calli (Wr := [(a0, .inr (10, [.ref a1, .ref a5, .ref a10, .int (bb 8 1), .int (bb 8 2), .int (bb 8 3), .int (bb 8 4), .int (bb 8 5), .int (bb 8 6), .int (bb 8 7), .int (bb 8 8)])), (a1, .inr (6, [.ref a2, .ref a3, .ref a4, .int (nI nh)])), (a2, .inl (aT 0, 6, .inl (bb 0))), (a3, .inl (aT 0, 6, .inl (bb 1))), (a4, .inl (aT 0, 6, .inl (bb 2))), (a5, .inr (8, [.ref a6, .ref a7, .ref a8, .ref a9, .int (nI nm), .int (bb 8 0)])), (a6, .inl (aT 0, 12, .inl (bb 3))), (a7, .inl (aT 0, 12, .inl (bb 4))), (a8, .inl (aT 0, 12, .inl (bb 5))), (a9, .inl (aT 0, 12, .inl (bb 6))), (a10, .inl (aT 0, 4, .inl (bb 7)))]) (cx_runS C hml hl.1 hZ hW hA (As := [.int y]) (rest := []) (k_X7_isDigit l hfl D aT y) gS_X7_X7_isDigit_67 hS_X7_isDigit rfl ⟨Nat.le_of_ble_eq_true rfl, Nat.le_of_ble_eq_true rfl⟩ ⟨Nat.le_of_ble_eq_true rfl, Nat.le_of_ble_eq_true rfl⟩ [] rfl (by decide) rfl (Nat.le_of_ble_eq_true rfl) dX7_newHedge_12) hW hA [] [0, 1, 2, 3, 4, 5, 6, 7, 8, 9, 10] rfl rfl (by decide) (by decide) (fun _ _ _ _ _ _ h9 => h9.elim) (fun r_12 W_12 H locs hq hW => ?_)
      obtain ⟨rfl, rfl⟩ := hq
      have hW : CxB D [(a0, .inr (10, [.ref a1, .ref a5, .ref a10, .int (bb 8 1), .int (bb 8 2), .int (bb 8 3), .int (bb 8 4), .int (bb 8 5), .int (bb 8 6), .int (bb 8 7), .int (bb 8 8)])), (a1, .inr (6, [.ref a2, .ref a3, .ref a4, .int (nI nh)])), (a2, .inl (aT 0, 6, .inl (bb 0))), (a3, .inl (aT 0, 6, .inl (bb 1))), (a4, .inl (aT 0, 6, .inl (bb 2))), (a5, .inr (8, [.ref a6, .ref a7, .ref a8, .ref a9, .int (nI nm), .int (bb 8 0)])), (a6, .inl (aT 0, 12, .inl (bb 3))), (a7, .inl (aT 0, 12, .inl (bb 4))), (a8, .inl (aT 0, 12, .inl (bb 5))), (a9, .inl (aT 0, 12, .inl (bb 6))), (a10, .inl (aT 0, 4, .inl (bb 7)))] A s.heap H _ := hW
      refine r_bI_eq hx hb (b := (rgB 0 9 y)) (tgt := 25) dX7_newHedge_15 (by decide) (fun c_15 => ?_) (fun c_15 => ?_)
      · exact cx_throw C hfl hex hml hl.1 hlocks hZ hW at_X7_IllegalArgumentException (List.mem_of_getElem? (i := 0) rfl) gw_559 gw_86 (by decide +kernel) dX7_newHedge_25 dX7_newHedge_28 dX7_newHedge_29 dX7_newHedge_31 dX7_newHedge_34 ⟨Nat.le_of_ble_eq_true rfl, Nat.le_of_ble_eq_true rfl, Nat.le_of_ble_eq_true rfl, Nat.le_of_ble_eq_true rfl⟩ ⟨Nat.le_of_ble_eq_true rfl, Nat.le_of_ble_eq_true rfl⟩ (⟨Or.inl ⟨rfl, by rw [c_15]; simp⟩, rfl⟩)
      · refine lv_iload_n hx hb dX7_newHedge_18 rfl (lv_at hl 3 rfl) ?_
        refine cx_calli (Wr := [(a0, .inr (10, [.ref a1, .ref a5, .ref a10, .int (bb 8 1), .int (bb 8 2), .int (bb 8 3), .int (bb 8 4), .int (bb 8 5), .int (bb 8 6), .int (bb 8 7), .int (bb 8 8)])), (a1, .inr (6, [.ref a2, .ref a3, .ref a4, .int (nI nh)])), (a2, .inl (aT 0, 6, .inl (bb 0))), (a3, .inl (aT 0, 6, .inl (bb 1))), (a4, .inl (aT 0, 6, .inl (bb 2))), (a5, .inr (8, [.ref a6, .ref a7, .ref a8, .ref a9, .int (nI nm), .int (bb 8 0)])), (a6, .inl (aT 0, 12, .inl (bb 3))), (a7, .inl (aT 0, 12, .inl (bb 4))), (a8, .inl (aT 0, 12, .inl (bb 5))), (a9, .inl (aT 0, 12, .inl (bb 6))), (a10, .inl (aT 0, 4, .inl (bb 7)))]) (cx_runS C hml hl.1 hZ hW hA (As := [.int z]) (rest := []) (k_X7_isDigit l hfl D aT z) gS_X7_X7_isDigit_67 hS_X7_isDigit rfl ⟨Nat.le_of_ble_eq_true rfl, Nat.le_of_ble_eq_true rfl⟩ ⟨Nat.le_of_ble_eq_true rfl, Nat.le_of_ble_eq_true rfl⟩ [] rfl (by decide) rfl (Nat.le_of_ble_eq_true rfl) dX7_newHedge_19) hW hA [] [0, 1, 2, 3, 4, 5, 6, 7, 8, 9, 10] rfl rfl (by decide) (by decide) (fun _ _ _ _ _ _ h9 => h9.elim) (fun r_19 W_19 H locs hq hW => ?_)
        obtain ⟨rfl, rfl⟩ := hq
        have hW : CxB D [(a0, .inr (10, [.ref a1, .ref a5, .ref a10, .int (bb 8 1), .int (bb 8 2), .int (bb 8 3), .int (bb 8 4), .int (bb 8 5), .int (bb 8 6), .int (bb 8 7), .int (bb 8 8)])), (a1, .inr (6, [.ref a2, .ref a3, .ref a4, .int (nI nh)])), (a2, .inl (aT 0, 6, .inl (bb 0))), (a3, .inl (aT 0, 6, .inl (bb 1))), (a4, .inl (aT 0, 6, .inl (bb 2))), (a5, .inr (8, [.ref a6, .ref a7, .ref a8, .ref a9, .int (nI nm), .int (bb 8 0)])), (a6, .inl (aT 0, 12, .inl (bb 3))), (a7, .inl (aT 0, 12, .inl (bb 4))), (a8, .inl (aT 0, 12, .inl (bb 5))), (a9, .inl (aT 0, 12, .inl (bb 6))), (a10, .inl (aT 0, 4, .inl (bb 7)))] A s.heap H _ := hW
        refine r_bI_ne hx hb (b := (rgB 0 9 z)) (tgt := 35) dX7_newHedge_22 (by decide) (fun c_22 => ?_) (fun c_22 => ?_)
        · refine lv_aload_n hx hb dX7_newHedge_35 rfl (lv_at hl 0 rfl) ?_
          refine cx_get C hW 0 0 rfl rfl (by decide) inX7 gw_179 rfl rfl dX7_newHedge_36 ?_
          refine cx_calli (Wr := [(a0, .inr (10, [.ref a1, .ref a5, .ref a10, .int (bb 8 1), .int (bb 8 2), .int (bb 8 3), .int (bb 8 4), .int (bb 8 5), .int (bb 8 6), .int (bb 8 7), .int (bb 8 8)])), (a5, .inr (8, [.ref a6, .ref a7, .ref a8, .ref a9, .int (nI nm), .int (bb 8 0)])), (a6, .inl (aT 0, 12, .inl (bb 3))), (a7, .inl (aT 0, 12, .inl (bb 4))), (a8, .inl (aT 0, 12, .inl (bb 5))), (a9, .inl (aT 0, 12, .inl (bb 6))), (a10, .inl (aT 0, 4, .inl (bb 7)))]) (cx_runV C hml hl.1 hZ hW hA (As := []) (rest := []) (k_X2_isFull l hfl D aT a1 a2 a3 a4 (bb 0) (bb 1) (bb 2) nh (lvM M) (thM M) (taM M) hH) gV_X7_X2_isFull_78 hV_X2_isFull rfl ⟨Nat.le_of_ble_eq_true rfl, Nat.le_of_ble_eq_true rfl⟩ ⟨Nat.le_of_ble_eq_true rfl, Nat.le_of_ble_eq_true rfl⟩ [1, 2, 3, 4] rfl (by decide) 1 6 rfl rfl rfl rfl (Nat.le_of_ble_eq_true rfl) dX7_newHedge_39) hW hA [1, 2, 3, 4] [0, 5, 6, 7, 8, 9, 10] rfl rfl (by decide) (by decide) (fun _ _ _ _ _ _ h9 => h9.elim) (fun r_39 W_39 H locs hq hW => ?_)
          obtain ⟨rfl, rfl⟩ := hq
          have hW : CxB D [(a0, .inr (10, [.ref a1, .ref a5, .ref a10, .int (bb 8 1), .int (bb 8 2), .int (bb 8 3), .int (bb 8 4), .int (bb 8 5), .int (bb 8 6), .int (bb 8 7), .int (bb 8 8)])), (a5, .inr (8, [.ref a6, .ref a7, .ref a8, .ref a9, .int (nI nm), .int (bb 8 0)])), (a6, .inl (aT 0, 12, .inl (bb 3))), (a7, .inl (aT 0, 12, .inl (bb 4))), (a8, .inl (aT 0, 12, .inl (bb 5))), (a9, .inl (aT 0, 12, .inl (bb 6))), (a10, .inl (aT 0, 4, .inl (bb 7))), (a1, .inr (6, [.ref a2, .ref a3, .ref a4, .int (nI nh)])), (a2, .inl (aT 0, 6, .inl (bb 0))), (a3, .inl (aT 0, 6, .inl (bb 1))), (a4, .inl (aT 0, 6, .inl (bb 2)))] A s.heap H _ := hW
          refine r_bI_eq hx hb (b := (decide (6 ≤ nh))) (tgt := 55) dX7_newHedge_42 (by decide) (fun c_42 => ?_) (fun c_42 => ?_)
          · refine lv_aload_n hx hb dX7_newHedge_55 rfl (lv_at hl 0 rfl) ?_
            refine cx_get C hW 0 0 rfl rfl (by decide) inX7 gw_179 rfl rfl dX7_newHedge_56 ?_
            refine lv_iload_n hx hb dX7_newHedge_59 rfl (lv_at hl 1 rfl) ?_
            refine lv_iload_n hx hb dX7_newHedge_60 rfl (lv_at hl 2 rfl) ?_
            refine lv_iload_n hx hb dX7_newHedge_61 rfl (lv_at hl 3 rfl) ?_
            refine cx_calli (Wr := [(a0, .inr (10, [.ref a1, .ref a5, .ref a10, .int (bb 8 1), .int (bb 8 2), .int (bb 8 3), .int (bb 8 4), .int (bb 8 5), .int (bb 8 6), .int (bb 8 7), .int (bb 8 8)])), (a5, .inr (8, [.ref a6, .ref a7, .ref a8, .ref a9, .int (nI nm), .int (bb 8 0)])), (a6, .inl (aT 0, 12, .inl (bb 3))), (a7, .inl (aT 0, 12, .inl (bb 4))), (a8, .inl (aT 0, 12, .inl (bb 5))), (a9, .inl (aT 0, 12, .inl (bb 6))), (a10, .inl (aT 0, 4, .inl (bb 7)))]) (cx_runV C hml hl.1 hZ hW hA (As := [.int x, .int y, .int z]) (rest := []) (k_X2_add l hfl D aT a1 a2 a3 a4 (bb 0) (bb 1) (bb 2) nh (lvM M) (thM M) (taM M) hH x y z (by have := of_decide_eq_false c_42; omega)) gV_X7_X2_add_87 hV_X2_add rfl ⟨Nat.le_of_ble_eq_true rfl, Nat.le_of_ble_eq_true rfl⟩ ⟨Nat.le_of_ble_eq_true rfl, Nat.le_of_ble_eq_true rfl⟩ [7, 8, 9, 10] rfl (by decide) 7 6 rfl rfl rfl rfl (Nat.le_of_ble_eq_true rfl) dX7_newHedge_62) hW hA [7, 8, 9, 10] [0, 1, 2, 3, 4, 5, 6] rfl rfl (by decide) (by decide) (fun _ _ _ _ _ _ h9 => h9.elim) (fun r_62 W_62 H locs hq hW => ?_)
            obtain ⟨rfl, rfl⟩ := hq
            have hW : CxB D [(a0, .inr (10, [.ref a1, .ref a5, .ref a10, .int (bb 8 1), .int (bb 8 2), .int (bb 8 3), .int (bb 8 4), .int (bb 8 5), .int (bb 8 6), .int (bb 8 7), .int (bb 8 8)])), (a5, .inr (8, [.ref a6, .ref a7, .ref a8, .ref a9, .int (nI nm), .int (bb 8 0)])), (a6, .inl (aT 0, 12, .inl (bb 3))), (a7, .inl (aT 0, 12, .inl (bb 4))), (a8, .inl (aT 0, 12, .inl (bb 5))), (a9, .inl (aT 0, 12, .inl (bb 6))), (a10, .inl (aT 0, 4, .inl (bb 7))), (a1, .inr (6, [.ref a2, .ref a3, .ref a4, .int (nI (nh + 1))])), (a2, .inl (aT 0, 6, .inl (upd (bb 0) nh (x)))), (a3, .inl (aT 0, 6, .inl (upd (bb 1) nh (y)))), (a4, .inl (aT 0, 6, .inl (upd (bb 2) nh (z))))] A s.heap H _ := hW
            have hW : CxB D [(a0, .inr (10, [.ref a1, .ref a5, .ref a10, .int (bb 8 1), .int (bb 8 2), .int (bb 8 3), .int (bb 8 4), .int (bb 8 5), .int (bb 8 6), .int (bb 8 7), .int (bb 8 8)])), (a1, .inr (6, [.ref a2, .ref a3, .ref a4, .int (nI (nh + 1))])), (a2, .inl (aT 0, 6, .inl (upd (bb 0) nh (x)))), (a3, .inl (aT 0, 6, .inl (upd (bb 1) nh (y)))), (a4, .inl (aT 0, 6, .inl (upd (bb 2) nh (z)))), (a5, .inr (8, [.ref a6, .ref a7, .ref a8, .ref a9, .int (nI nm), .int (bb 8 0)])), (a6, .inl (aT 0, 12, .inl (bb 3))), (a7, .inl (aT 0, 12, .inl (bb 4))), (a8, .inl (aT 0, 12, .inl (bb 5))), (a9, .inl (aT 0, 12, .inl (bb 6))), (a10, .inl (aT 0, 4, .inl (bb 7)))] A s.heap H _ := cx_drop hW [0, 7, 8, 9, 10, 1, 2, 3, 4, 5, 6] rfl (by decide)
            exact cx_iret C hr hlocks rfl hW ⟨Nat.le_of_ble_eq_true rfl, Nat.le_of_ble_eq_true rfl⟩ (⟨_, ⟨(by rw [rg_in (a := nI 1) (b := nI 99) (by decide) (by decide) c_2 c_8, c_15, c_22]; rfl), by have := of_decide_eq_false c_42; omega, rfl⟩, hB.hedge hC (by have := of_decide_eq_false c_42; omega), rfl⟩) dX7_newHedge_65
          · have hW : CxB D [(a0, .inr (10, [.ref a1, .ref a5, .ref a10, .int (bb 8 1), .int (bb 8 2), .int (bb 8 3), .int (bb 8 4), .int (bb 8 5), .int (bb 8 6), .int (bb 8 7), .int (bb 8 8)])), (a1, .inr (6, [.ref a2, .ref a3, .ref a4, .int (nI nh)])), (a2, .inl (aT 0, 6, .inl (bb 0))), (a3, .inl (aT 0, 6, .inl (bb 1))), (a4, .inl (aT 0, 6, .inl (bb 2))), (a5, .inr (8, [.ref a6, .ref a7, .ref a8, .ref a9, .int (nI nm), .int (bb 8 0)])), (a6, .inl (aT 0, 12, .inl (bb 3))), (a7, .inl (aT 0, 12, .inl (bb 4))), (a8, .inl (aT 0, 12, .inl (bb 5))), (a9, .inl (aT 0, 12, .inl (bb 6))), (a10, .inl (aT 0, 4, .inl (bb 7)))] A s.heap H _ := cx_drop hW [0, 7, 8, 9, 10, 1, 2, 3, 4, 5, 6] rfl (by decide)
            exact cx_throw C hfl hex hml hl.1 hlocks hZ hW at_X7_IllegalStateException (List.mem_of_getElem? (i := 1) rfl) gw_635 gw_87 (by decide +kernel) dX7_newHedge_45 dX7_newHedge_48 dX7_newHedge_49 dX7_newHedge_51 dX7_newHedge_54 ⟨Nat.le_of_ble_eq_true rfl, Nat.le_of_ble_eq_true rfl, Nat.le_of_ble_eq_true rfl, Nat.le_of_ble_eq_true rfl⟩ ⟨Nat.le_of_ble_eq_true rfl, Nat.le_of_ble_eq_true rfl⟩ (⟨Or.inr ⟨rfl, (by rw [rg_in (a := nI 1) (b := nI 99) (by decide) (by decide) c_2 c_8, c_15, c_22]; rfl), by have h5 := of_decide_eq_true c_42; have h4 := hH.1; omega⟩, rfl⟩)
        · exact cx_throw C hfl hex hml hl.1 hlocks hZ hW at_X7_IllegalArgumentException (List.mem_of_getElem? (i := 0) rfl) gw_559 gw_86 (by decide +kernel) dX7_newHedge_25 dX7_newHedge_28 dX7_newHedge_29 dX7_newHedge_31 dX7_newHedge_34 ⟨Nat.le_of_ble_eq_true rfl, Nat.le_of_ble_eq_true rfl, Nat.le_of_ble_eq_true rfl, Nat.le_of_ble_eq_true rfl⟩ ⟨Nat.le_of_ble_eq_true rfl, Nat.le_of_ble_eq_true rfl⟩ (⟨Or.inl ⟨rfl, by rw [c_22]; simp⟩, rfl⟩)
theorem dX7_requireRoom_0 : decode cX7_requireRoom 0 = .ok (.aload_n 0, 1) := by decide +kernel
theorem dX7_requireRoom_1 : decode cX7_requireRoom 1 = .ok (.getfield 21, 3) := by decide +kernel
theorem dX7_requireRoom_4 : decode cX7_requireRoom 4 = .ok (.invokevirtual 159, 3) := by decide +kernel
theorem dX7_requireRoom_7 : decode cX7_requireRoom 7 = .ok (.ifCond .eq 13, 3) := by decide +kernel
theorem dX7_requireRoom_10 : decode cX7_requireRoom 10 = .ok (.new 82, 3) := by decide +kernel
theorem dX7_requireRoom_13 : decode cX7_requireRoom 13 = .ok (.dup, 1) := by decide +kernel
theorem dX7_requireRoom_14 : decode cX7_requireRoom 14 = .ok (.ldc 160, 2) := by decide +kernel
theorem dX7_requireRoom_16 : decode cX7_requireRoom 16 = .ok (.invokespecial 86, 3) := by decide +kernel
theorem dX7_requireRoom_19 : decode cX7_requireRoom 19 = .ok (.athrow, 1) := by decide +kernel
theorem dX7_requireRoom_20 : decode cX7_requireRoom 20 = .ok (.return_, 1) := by decide +kernel
theorem gV_X7_X5_isFull_159 : GoodIn gw (wsV RX7 159 RX5 yX5_isFull (Cond.code yX5_isFull cX5_isFull 1 (some .boolean) :: gw)) := gdV gw_674 gw_675 gw_676 gw_70 gw_677
theorem hV_X5_isFull : yX5_isFull.cls = RX5 ∧ yX5_isFull.cls ≠ "java/lang/invoke/MethodHandle" ∧ yX5_isFull.cls ≠ "java/lang/invoke/VarHandle" ∧ (parseMethodDescriptor yX5_isFull.desc).map (fun d => d.parameters.length) = some 0 := ⟨rfl, by decide +kernel, by decide +kernel, by decide +kernel⟩
set_option maxHeartbeats 2000000 in
set_option maxRecDepth 20000 in
theorem k_X7_requireRoom (l : Launch) (hfl : l.stackTraces = false) (D : va_G) (aT : Nat → ClassId) (a0 : Nat) (a1 : Nat) (a2 : Nat) (a3 : Nat) (a4 : Nat) (a5 : Nat) (a6 : Nat) (a7 : Nat) (a8 : Nat) (a9 : Nat) (a10 : Nat) (bb : Nat → Nat → Int32) (nh : Nat) (nm : Nat) (h12 : nm ≤ 12) : CxG l yX7_requireRoom cX7_requireRoom 1 none 6 1 6 90 D aT [.ref a0] [(a0, .inr (10, [.ref a1, .ref a5, .ref a10, .int (bb 8 1), .int (bb 8 2), .int (bb 8 3), .int (bb 8 4), .int (bb 8 5), .int (bb 8 6), .int (bb 8 7), .int (bb 8 8)])), (a1, .inr (6, [.ref a2, .ref a3, .ref a4, .int (nI nh)])), (a2, .inl (aT 0, 6, .inl (bb 0))), (a3, .inl (aT 0, 6, .inl (bb 1))), (a4, .inl (aT 0, 6, .inl (bb 2))), (a5, .inr (8, [.ref a6, .ref a7, .ref a8, .ref a9, .int (nI nm), .int (bb 8 0)])), (a6, .inl (aT 0, 12, .inl (bb 3))), (a7, .inl (aT 0, 12, .inl (bb 4))), (a8, .inl (aT 0, 12, .inl (bb 5))), (a9, .inl (aT 0, 12, .inl (bb 6))), (a10, .inl (aT 0, 4, .inl (bb 7)))] (qV D aT (fun W1 => nm < 12 ∧ W1 = [(a0, .inr (10, [.ref a1, .ref a5, .ref a10, .int (bb 8 1), .int (bb 8 2), .int (bb 8 3), .int (bb 8 4), .int (bb 8 5), .int (bb 8 6), .int (bb 8 7), .int (bb 8 8)])), (a1, .inr (6, [.ref a2, .ref a3, .ref a4, .int (nI nh)])), (a2, .inl (aT 0, 6, .inl (bb 0))), (a3, .inl (aT 0, 6, .inl (bb 1))), (a4, .inl (aT 0, 6, .inl (bb 2))), (a5, .inr (8, [.ref a6, .ref a7, .ref a8, .ref a9, .int (nI nm), .int (bb 8 0)])), (a6, .inl (aT 0, 12, .inl (bb 3))), (a7, .inl (aT 0, 12, .inl (bb 4))), (a8, .inl (aT 0, 12, .inl (bb 5))), (a9, .inl (aT 0, 12, .inl (bb 6))), (a10, .inl (aT 0, 4, .inl (bb 7)))])) (fun E W1 => (E = "java/lang/IllegalStateException" ∧ nm = 12) ∧ W1 = [(a0, .inr (10, [.ref a1, .ref a5, .ref a10, .int (bb 8 1), .int (bb 8 2), .int (bb 8 3), .int (bb 8 4), .int (bb 8 5), .int (bb 8 6), .int (bb 8 7), .int (bb 8 8)])), (a1, .inr (6, [.ref a2, .ref a3, .ref a4, .int (nI nh)])), (a2, .inl (aT 0, 6, .inl (bb 0))), (a3, .inl (aT 0, 6, .inl (bb 1))), (a4, .inl (aT 0, 6, .inl (bb 2))), (a5, .inr (8, [.ref a6, .ref a7, .ref a8, .ref a9, .int (nI nm), .int (bb 8 0)])), (a6, .inl (aT 0, 12, .inl (bb 3))), (a7, .inl (aT 0, 12, .inl (bb 4))), (a8, .inl (aT 0, 12, .inl (bb 5))), (a9, .inl (aT 0, 12, .inl (bb 6))), (a10, .inl (aT 0, 4, .inl (bb 7)))]) := by
  refine CxG.of RX7 (by decide +kernel) rfl (Nat.le_of_ble_eq_true rfl) ?_
  intro p e s m below meth c A ls C hml hl hA hr hlocks hex hnm hZ hW
  have hl : lv_has ls 1 [(0, .ref a0)] := hl
  have hx := C.1
  have hb := C.2.1
  refine lv_aload_n hx hb dX7_requireRoom_0 rfl (lv_at hl 0 rfl) ?_
  refine cx_get C hW 0 1 rfl rfl (by decide) inX7 gw_181 rfl rfl dX7_requireRoom_1 ?_
  refine cx_calli (Wr := [(a0, .inr (10, [.ref a1, .ref a5, .ref a10, .int (bb 8 1), .int (bb 8 2), .int (bb 8 3), .int (bb 8 4), .int (bb 8 5), .int (bb 8 6), .int (bb 8 7), .int (bb 8 8)])), (a1, .inr (6, [.ref a2, .ref a3, .ref a4, .int (nI nh)])), (a2, .inl (aT 0, 6, .inl (bb 0))), (a3, .inl (aT 0, 6, .inl (bb 1))), (a4, .inl (aT 0, 6, .inl (bb 2))), (a10, .inl (aT 0, 4, .inl (bb 7)))]) (cx_runV C hml hl.1 hZ hW hA (As := []) (rest := []) (k_X5_isFull l hfl D aT a5 a6 a7 a8 a9 (bb 3) (bb 4) (bb 5) (bb 6) nm (bb 8 0) h12) gV_X7_X5_isFull_159 hV_X5_isFull rfl ⟨Nat.le_of_ble_eq_true rfl, Nat.le_of_ble_eq_true rfl⟩ ⟨Nat.le_of_ble_eq_true rfl, Nat.le_of_ble_eq_true rfl⟩ [5, 6, 7, 8, 9] rfl (by decide) 5 8 rfl rfl rfl rfl (Nat.le_of_ble_eq_true rfl) dX7_requireRoom_4) hW hA [5, 6, 7, 8, 9] [0, 1, 2, 3, 4, 10] rfl rfl (by decide) (by decide) (fun _ _ _ _ _ _ h9 => h9.elim) (fun r_4 W_4 H locs hq hW => ?_)
  obtain ⟨rfl, rfl⟩ := hq
  have hW : CxB D [(a0, .inr (10, [.ref a1, .ref a5, .ref a10, .int (bb 8 1), .int (bb 8 2), .int (bb 8 3), .int (bb 8 4), .int (bb 8 5), .int (bb 8 6), .int (bb 8 7), .int (bb 8 8)])), (a1, .inr (6, [.ref a2, .ref a3, .ref a4, .int (nI nh)])), (a2, .inl (aT 0, 6, .inl (bb 0))), (a3, .inl (aT 0, 6, .inl (bb 1))), (a4, .inl (aT 0, 6, .inl (bb 2))), (a10, .inl (aT 0, 4, .inl (bb 7))), (a5, .inr (8, [.ref a6, .ref a7, .ref a8, .ref a9, .int (nI nm), .int (bb 8 0)])), (a6, .inl (aT 0, 12, .inl (bb 3))), (a7, .inl (aT 0, 12, .inl (bb 4))), (a8, .inl (aT 0, 12, .inl (bb 5))), (a9, .inl (aT 0, 12, .inl (bb 6)))] A s.heap H _ := hW
  refine r_bI_eq hx hb (b := (decide (12 ≤ nm))) (tgt := 20) dX7_requireRoom_7 (by decide) (fun c_7 => ?_) (fun c_7 => ?_)
  · have hW : CxB D [(a0, .inr (10, [.ref a1, .ref a5, .ref a10, .int (bb 8 1), .int (bb 8 2), .int (bb 8 3), .int (bb 8 4), .int (bb 8 5), .int (bb 8 6), .int (bb 8 7), .int (bb 8 8)])), (a1, .inr (6, [.ref a2, .ref a3, .ref a4, .int (nI nh)])), (a2, .inl (aT 0, 6, .inl (bb 0))), (a3, .inl (aT 0, 6, .inl (bb 1))), (a4, .inl (aT 0, 6, .inl (bb 2))), (a5, .inr (8, [.ref a6, .ref a7, .ref a8, .ref a9, .int (nI nm), .int (bb 8 0)])), (a6, .inl (aT 0, 12, .inl (bb 3))), (a7, .inl (aT 0, 12, .inl (bb 4))), (a8, .inl (aT 0, 12, .inl (bb 5))), (a9, .inl (aT 0, 12, .inl (bb 6))), (a10, .inl (aT 0, 4, .inl (bb 7)))] A s.heap H _ := cx_drop hW [0, 1, 2, 3, 4, 6, 7, 8, 9, 10, 5] rfl (by decide)
    exact cx_vret C hr hlocks hW ⟨Nat.le_of_ble_eq_true rfl, Nat.le_of_ble_eq_true rfl⟩ (⟨by have h5 := of_decide_eq_false c_7; omega, rfl⟩) dX7_requireRoom_20
  · have hW : CxB D [(a0, .inr (10, [.ref a1, .ref a5, .ref a10, .int (bb 8 1), .int (bb 8 2), .int (bb 8 3), .int (bb 8 4), .int (bb 8 5), .int (bb 8 6), .int (bb 8 7), .int (bb 8 8)])), (a1, .inr (6, [.ref a2, .ref a3, .ref a4, .int (nI nh)])), (a2, .inl (aT 0, 6, .inl (bb 0))), (a3, .inl (aT 0, 6, .inl (bb 1))), (a4, .inl (aT 0, 6, .inl (bb 2))), (a5, .inr (8, [.ref a6, .ref a7, .ref a8, .ref a9, .int (nI nm), .int (bb 8 0)])), (a6, .inl (aT 0, 12, .inl (bb 3))), (a7, .inl (aT 0, 12, .inl (bb 4))), (a8, .inl (aT 0, 12, .inl (bb 5))), (a9, .inl (aT 0, 12, .inl (bb 6))), (a10, .inl (aT 0, 4, .inl (bb 7)))] A s.heap H _ := cx_drop hW [0, 1, 2, 3, 4, 6, 7, 8, 9, 10, 5] rfl (by decide)
    exact cx_throw C hfl hex hml hl.1 hlocks hZ hW at_X7_IllegalStateException (List.mem_of_getElem? (i := 3) rfl) gw_635 gw_87 (by decide +kernel) dX7_requireRoom_10 dX7_requireRoom_13 dX7_requireRoom_14 dX7_requireRoom_16 dX7_requireRoom_19 ⟨Nat.le_of_ble_eq_true rfl, Nat.le_of_ble_eq_true rfl, Nat.le_of_ble_eq_true rfl, Nat.le_of_ble_eq_true rfl⟩ ⟨Nat.le_of_ble_eq_true rfl, Nat.le_of_ble_eq_true rfl⟩ (⟨⟨rfl, by have h5 := of_decide_eq_true c_7; omega⟩, rfl⟩)
theorem dX7_begin_0 : decode cX7_begin 0 = .ok (.aload_n 0, 1) := by decide +kernel
theorem dX7_begin_1 : decode cX7_begin 1 = .ok (.dup, 1) := by decide +kernel
theorem dX7_begin_2 : decode cX7_begin 2 = .ok (.getfield 52, 3) := by decide +kernel
theorem dX7_begin_5 : decode cX7_begin 5 = .ok (.iload_n 3, 1) := by decide +kernel
theorem dX7_begin_6 : decode cX7_begin 6 = .ok (.iadd, 1) := by decide +kernel
theorem dX7_begin_7 : decode cX7_begin 7 = .ok (.putfield 52, 3) := by decide +kernel
theorem dX7_begin_10 : decode cX7_begin 10 = .ok (.aload_n 0, 1) := by decide +kernel
theorem dX7_begin_11 : decode cX7_begin 11 = .ok (.getfield 21, 3) := by decide +kernel
theorem dX7_begin_14 : decode cX7_begin 14 = .ok (.iload_n 1, 1) := by decide +kernel
theorem dX7_begin_15 : decode cX7_begin 15 = .ok (.iload_n 2, 1) := by decide +kernel
theorem dX7_begin_16 : decode cX7_begin 16 = .ok (.iload_n 3, 1) := by decide +kernel
theorem dX7_begin_17 : decode cX7_begin 17 = .ok (.invokevirtual 158, 3) := by decide +kernel
theorem dX7_begin_20 : decode cX7_begin 20 = .ok (.ireturn, 1) := by decide +kernel
theorem gV_X7_X5_add_158 : GoodIn gw (wsV RX7 158 RX5 yX5_add (Cond.code yX5_add cX5_add 5 (some .int) :: gw)) := gdV gw_683 gw_684 gw_685 gw_70 gw_686
theorem hV_X5_add : yX5_add.cls = RX5 ∧ yX5_add.cls ≠ "java/lang/invoke/MethodHandle" ∧ yX5_add.cls ≠ "java/lang/invoke/VarHandle" ∧ (parseMethodDescriptor yX5_add.desc).map (fun d => d.parameters.length) = some 3 := ⟨rfl, by decide +kernel, by decide +kernel, by decide +kernel⟩
set_option maxHeartbeats 2000000 in
set_option maxRecDepth 20000 in
theorem k_X7_begin (l : Launch) (hfl : l.stackTraces = false) (D : va_G) (aT : Nat → ClassId) (a0 : Nat) (a1 : Nat) (a2 : Nat) (a3 : Nat) (a4 : Nat) (a5 : Nat) (a6 : Nat) (a7 : Nat) (a8 : Nat) (a9 : Nat) (a10 : Nat) (bb : Nat → Nat → Int32) (nh : Nat) (nm : Nat) (x : Int32) (y : Int32) (z : Int32) (h12 : nm < 12) : CxG l yX7_begin cX7_begin 4 (some (.int)) 1 0 0 24 D aT [.ref a0, .int x, .int y, .int z] [(a0, .inr (10, [.ref a1, .ref a5, .ref a10, .int (bb 8 1), .int (bb 8 2), .int (bb 8 3), .int (bb 8 4), .int (bb 8 5), .int (bb 8 6), .int (bb 8 7), .int (bb 8 8)])), (a1, .inr (6, [.ref a2, .ref a3, .ref a4, .int (nI nh)])), (a2, .inl (aT 0, 6, .inl (bb 0))), (a3, .inl (aT 0, 6, .inl (bb 1))), (a4, .inl (aT 0, 6, .inl (bb 2))), (a5, .inr (8, [.ref a6, .ref a7, .ref a8, .ref a9, .int (nI nm), .int (bb 8 0)])), (a6, .inl (aT 0, 12, .inl (bb 3))), (a7, .inl (aT 0, 12, .inl (bb 4))), (a8, .inl (aT 0, 12, .inl (bb 5))), (a9, .inl (aT 0, 12, .inl (bb 6))), (a10, .inl (aT 0, 4, .inl (bb 7)))] (qI D aT (fun r W1 => r = (bb 8 0) ∧ W1 = [(a0, .inr (10, [.ref a1, .ref a5, .ref a10, .int (bb 8 1), .int (bb 8 2), .int (bb 8 3), .int ((bb 8 4) + z), .int (bb 8 5), .int (bb 8 6), .int (bb 8 7), .int (bb 8 8)])), (a1, .inr (6, [.ref a2, .ref a3, .ref a4, .int (nI nh)])), (a2, .inl (aT 0, 6, .inl (bb 0))), (a3, .inl (aT 0, 6, .inl (bb 1))), (a4, .inl (aT 0, 6, .inl (bb 2))), (a5, .inr (8, [.ref a6, .ref a7, .ref a8, .ref a9, .int (nI (nm + 1)), .int ((bb 8 0) + (nI 1))])), (a6, .inl (aT 0, 12, .inl (upd (bb 3) nm ((bb 8 0))))), (a7, .inl (aT 0, 12, .inl (upd (bb 4) nm (y)))), (a8, .inl (aT 0, 12, .inl (upd (bb 5) nm (z)))), (a9, .inl (aT 0, 12, .inl (upd (bb 6) nm (x)))), (a10, .inl (aT 0, 4, .inl (bb 7)))])) (fun _ _ => False) := by
  refine CxG.of RX7 (by decide +kernel) rfl (Nat.le_of_ble_eq_true rfl) ?_
  intro p e s m below meth c A ls C hml hl hA hr hlocks hex hnm hZ hW
  have hl : lv_has ls 4 [(0, .ref a0), (1, .int x), (2, .int y), (3, .int z)] := hl
  have hx := C.1
  have hb := C.2.1
  refine lv_aload_n hx hb dX7_begin_0 rfl (lv_at hl 0 rfl) ?_
  refine lv_dup hx hb dX7_begin_1 rfl ?_
  refine cx_get C hW 0 6 rfl rfl (by decide) inX7 gw_191 rfl rfl dX7_begin_2 ?_
  refine lv_iload_n hx hb dX7_begin_5 rfl (lv_at hl 3 rfl) ?_
  refine lv_iadd hx hb dX7_begin_6 ?_
  refine cx_put C hW 0 6 (W1 := [(a0, .inr (10, [.ref a1, .ref a5, .ref a10, .int (bb 8 1), .int (bb 8 2), .int (bb 8 3), .int ((bb 8 4) + z), .int (bb 8 5), .int (bb 8 6), .int (bb 8 7), .int (bb 8 8)])), (a1, .inr (6, [.ref a2, .ref a3, .ref a4, .int (nI nh)])), (a2, .inl (aT 0, 6, .inl (bb 0))), (a3, .inl (aT 0, 6, .inl (bb 1))), (a4, .inl (aT 0, 6, .inl (bb 2))), (a5, .inr (8, [.ref a6, .ref a7, .ref a8, .ref a9, .int (nI nm), .int (bb 8 0)])), (a6, .inl (aT 0, 12, .inl (bb 3))), (a7, .inl (aT 0, 12, .inl (bb 4))), (a8, .inl (aT 0, 12, .inl (bb 5))), (a9, .inl (aT 0, 12, .inl (bb 6))), (a10, .inl (aT 0, 4, .inl (bb 7)))]) rfl rfl (by decide) inX7 tyX7 tyX7_ok nmX7 gw_191 rfl rfl rfl rfl rfl (Nat.le_of_ble_eq_true rfl) rfl dX7_begin_7 (fun H locs hW => ?_)
  refine lv_aload_n hx hb dX7_begin_10 rfl (lv_at hl 0 rfl) ?_
  refine cx_get C hW 0 1 rfl rfl (by decide) inX7 gw_181 rfl rfl dX7_begin_11 ?_
  refine lv_iload_n hx hb dX7_begin_14 rfl (lv_at hl 1 rfl) ?_
  refine lv_iload_n hx hb dX7_begin_15 rfl (lv_at hl 2 rfl) ?_
  refine lv_iload_n hx hb dX7_begin_16 rfl (lv_at hl 3 rfl) ?_
  refine cx_calli (Wr := [(a0, .inr (10, [.ref a1, .ref a5, .ref a10, .int (bb 8 1), .int (bb 8 2), .int (bb 8 3), .int ((bb 8 4) + z), .int (bb 8 5), .int (bb 8 6), .int (bb 8 7), .int (bb 8 8)])), (a1, .inr (6, [.ref a2, .ref a3, .ref a4, .int (nI nh)])), (a2, .inl (aT 0, 6, .inl (bb 0))), (a3, .inl (aT 0, 6, .inl (bb 1))), (a4, .inl (aT 0, 6, .inl (bb 2))), (a10, .inl (aT 0, 4, .inl (bb 7)))]) (cx_runV C hml hl.1 hZ hW hA (As := [.int x, .int y, .int z]) (rest := []) (k_X5_add l hfl D aT a5 a6 a7 a8 a9 (bb 3) (bb 4) (bb 5) (bb 6) nm (bb 8 0) x y z h12) gV_X7_X5_add_158 hV_X5_add rfl ⟨Nat.le_of_ble_eq_true rfl, Nat.le_of_ble_eq_true rfl⟩ ⟨Nat.le_of_ble_eq_true rfl, Nat.le_of_ble_eq_true rfl⟩ [5, 6, 7, 8, 9] rfl (by decide) 5 8 rfl rfl rfl rfl (Nat.le_of_ble_eq_true rfl) dX7_begin_17) hW hA [5, 6, 7, 8, 9] [0, 1, 2, 3, 4, 10] rfl rfl (by decide) (by decide) (fun _ _ _ _ _ _ h9 => h9.elim) (fun r_17 W_17 H locs hq hW => ?_)
  obtain ⟨rfl, rfl⟩ := hq
  have hW : CxB D [(a0, .inr (10, [.ref a1, .ref a5, .ref a10, .int (bb 8 1), .int (bb 8 2), .int (bb 8 3), .int ((bb 8 4) + z), .int (bb 8 5), .int (bb 8 6), .int (bb 8 7), .int (bb 8 8)])), (a1, .inr (6, [.ref a2, .ref a3, .ref a4, .int (nI nh)])), (a2, .inl (aT 0, 6, .inl (bb 0))), (a3, .inl (aT 0, 6, .inl (bb 1))), (a4, .inl (aT 0, 6, .inl (bb 2))), (a10, .inl (aT 0, 4, .inl (bb 7))), (a5, .inr (8, [.ref a6, .ref a7, .ref a8, .ref a9, .int (nI (nm + 1)), .int ((bb 8 0) + (nI 1))])), (a6, .inl (aT 0, 12, .inl (upd (bb 3) nm ((bb 8 0))))), (a7, .inl (aT 0, 12, .inl (upd (bb 4) nm (y)))), (a8, .inl (aT 0, 12, .inl (upd (bb 5) nm (z)))), (a9, .inl (aT 0, 12, .inl (upd (bb 6) nm (x))))] A s.heap H _ := hW
  have hW : CxB D [(a0, .inr (10, [.ref a1, .ref a5, .ref a10, .int (bb 8 1), .int (bb 8 2), .int (bb 8 3), .int ((bb 8 4) + z), .int (bb 8 5), .int (bb 8 6), .int (bb 8 7), .int (bb 8 8)])), (a1, .inr (6, [.ref a2, .ref a3, .ref a4, .int (nI nh)])), (a2, .inl (aT 0, 6, .inl (bb 0))), (a3, .inl (aT 0, 6, .inl (bb 1))), (a4, .inl (aT 0, 6, .inl (bb 2))), (a5, .inr (8, [.ref a6, .ref a7, .ref a8, .ref a9, .int (nI (nm + 1)), .int ((bb 8 0) + (nI 1))])), (a6, .inl (aT 0, 12, .inl (upd (bb 3) nm ((bb 8 0))))), (a7, .inl (aT 0, 12, .inl (upd (bb 4) nm (y)))), (a8, .inl (aT 0, 12, .inl (upd (bb 5) nm (z)))), (a9, .inl (aT 0, 12, .inl (upd (bb 6) nm (x)))), (a10, .inl (aT 0, 4, .inl (bb 7)))] A s.heap H _ := cx_drop hW [0, 1, 2, 3, 4, 6, 7, 8, 9, 10, 5] rfl (by decide)
  exact cx_iret C hr hlocks rfl hW ⟨Nat.le_of_ble_eq_true rfl, Nat.le_of_ble_eq_true rfl⟩ (⟨rfl, rfl⟩) dX7_begin_20
theorem dX7_newMain_0 : decode cX7_newMain 0 = .ok (.iload_n 1, 1) := by decide +kernel
theorem dX7_newMain_1 : decode cX7_newMain 1 = .ok (.iload_n 2, 1) := by decide +kernel
theorem dX7_newMain_2 : decode cX7_newMain 2 = .ok (.invokestatic 91, 3) := by decide +kernel
theorem dX7_newMain_5 : decode cX7_newMain 5 = .ok (.aload_n 0, 1) := by decide +kernel
theorem dX7_newMain_6 : decode cX7_newMain 6 = .ok (.invokevirtual 95, 3) := by decide +kernel
theorem dX7_newMain_9 : decode cX7_newMain 9 = .ok (.aload_n 0, 1) := by decide +kernel
theorem dX7_newMain_10 : decode cX7_newMain 10 = .ok (.iconst (-1), 1) := by decide +kernel
theorem dX7_newMain_11 : decode cX7_newMain 11 = .ok (.iload_n 1, 1) := by decide +kernel
theorem dX7_newMain_12 : decode cX7_newMain 12 = .ok (.iload_n 2, 1) := by decide +kernel
theorem dX7_newMain_13 : decode cX7_newMain 13 = .ok (.invokevirtual 98, 3) := by decide +kernel
theorem dX7_newMain_16 : decode cX7_newMain 16 = .ok (.ireturn, 1) := by decide +kernel
theorem gS_X7_X7_requireToneAndWeight_91 : GoodIn gw (va_wsS RX7 91 yX7_requireToneAndWeight (Cond.code yX7_requireToneAndWeight cX7_requireToneAndWeight 2 (none) :: gw)) := gdS2 gw_666 gw_667 gw_68 gw_668
theorem hS_X7_requireToneAndWeight : yX7_requireToneAndWeight.cls ≠ "java/lang/invoke/MethodHandle" ∧ yX7_requireToneAndWeight.cls ≠ "java/lang/invoke/VarHandle" ∧ (parseMethodDescriptor yX7_requireToneAndWeight.desc).map (fun d => d.parameters.length) = some 2 := ⟨by decide +kernel, by decide +kernel, by decide +kernel⟩
theorem gV_X7_X7_requireRoom_95 : GoodIn gw (wsV RX7 95 RX7 yX7_requireRoom (Cond.code yX7_requireRoom cX7_requireRoom 1 (none) :: gw)) := gdV gw_670 gw_672 gw_3 gw_68 gw_673
theorem hV_X7_requireRoom : yX7_requireRoom.cls = RX7 ∧ yX7_requireRoom.cls ≠ "java/lang/invoke/MethodHandle" ∧ yX7_requireRoom.cls ≠ "java/lang/invoke/VarHandle" ∧ (parseMethodDescriptor yX7_requireRoom.desc).map (fun d => d.parameters.length) = some 0 := ⟨rfl, by decide +kernel, by decide +kernel, by decide +kernel⟩
theorem gV_X7_X7_begin_98 : GoodIn gw (wsV RX7 98 RX7 yX7_begin (Cond.code yX7_begin cX7_begin 4 (some .int) :: gw)) := gdV gw_679 gw_681 gw_4 gw_68 gw_682
theorem hV_X7_begin : yX7_begin.cls = RX7 ∧ yX7_begin.cls ≠ "java/lang/invoke/MethodHandle" ∧ yX7_begin.cls ≠ "java/lang/invoke/VarHandle" ∧ (parseMethodDescriptor yX7_begin.desc).map (fun d => d.parameters.length) = some 3 := ⟨rfl, by decide +kernel, by decide +kernel, by decide +kernel⟩
set_option maxHeartbeats 2000000 in
set_option maxRecDepth 20000 in
theorem k_X7_newMain (l : Launch) (hfl : l.stackTraces = false) (D : va_G) (aT : Nat → ClassId) (a0 : Nat) (a1 : Nat) (a2 : Nat) (a3 : Nat) (a4 : Nat) (a5 : Nat) (a6 : Nat) (a7 : Nat) (a8 : Nat) (a9 : Nat) (a10 : Nat) (bb : Nat → Nat → Int32) (nh : Nat) (nm : Nat) (M : Nat → Int32) (Bd : Nat) (hBd : Bd < 1048000) (hC : CoW M Bd) (hB : BlC bb nh nm M) (x : Int32) (y : Int32) : CxG l yX7_newMain cX7_newMain 3 (some (.int)) 7 2 12 111 D aT [.ref a0, .int x, .int y] [(a0, .inr (10, [.ref a1, .ref a5, .ref a10, .int (bb 8 1), .int (bb 8 2), .int (bb 8 3), .int (bb 8 4), .int (bb 8 5), .int (bb 8 6), .int (bb 8 7), .int (bb 8 8)])), (a1, .inr (6, [.ref a2, .ref a3, .ref a4, .int (nI nh)])), (a2, .inl (aT 0, 6, .inl (bb 0))), (a3, .inl (aT 0, 6, .inl (bb 1))), (a4, .inl (aT 0, 6, .inl (bb 2))), (a5, .inr (8, [.ref a6, .ref a7, .ref a8, .ref a9, .int (nI nm), .int (bb 8 0)])), (a6, .inl (aT 0, 12, .inl (bb 3))), (a7, .inl (aT 0, 12, .inl (bb 4))), (a8, .inl (aT 0, 12, .inl (bb 5))), (a9, .inl (aT 0, 12, .inl (bb 6))), (a10, .inl (aT 0, 4, .inl (bb 7)))] (qI D aT (fun r W1 => ∃ b2 : Nat → Nat → Int32, ((rgB 0 9 x && rgB 1 20 y) = true ∧ nm < 12 ∧ r = M 1) ∧ BlC b2 nh (nm + 1) (addF M (nM M) (-1) x y) ∧ W1 = [(a0, .inr (10, [.ref a1, .ref a5, .ref a10, .int (b2 8 1), .int (b2 8 2), .int (b2 8 3), .int (b2 8 4), .int (b2 8 5), .int (b2 8 6), .int (b2 8 7), .int (b2 8 8)])), (a1, .inr (6, [.ref a2, .ref a3, .ref a4, .int (nI nh)])), (a2, .inl (aT 0, 6, .inl (b2 0))), (a3, .inl (aT 0, 6, .inl (b2 1))), (a4, .inl (aT 0, 6, .inl (b2 2))), (a5, .inr (8, [.ref a6, .ref a7, .ref a8, .ref a9, .int (nI (nm + 1)), .int (b2 8 0)])), (a6, .inl (aT 0, 12, .inl (b2 3))), (a7, .inl (aT 0, 12, .inl (b2 4))), (a8, .inl (aT 0, 12, .inl (b2 5))), (a9, .inl (aT 0, 12, .inl (b2 6))), (a10, .inl (aT 0, 4, .inl (b2 7)))])) (fun E W1 => ((E = "java/lang/IllegalArgumentException" ∧ (rgB 0 9 x && rgB 1 20 y) = false) ∨ (E = "java/lang/IllegalStateException" ∧ (rgB 0 9 x && rgB 1 20 y) = true ∧ nm = 12)) ∧ W1 = [(a0, .inr (10, [.ref a1, .ref a5, .ref a10, .int (bb 8 1), .int (bb 8 2), .int (bb 8 3), .int (bb 8 4), .int (bb 8 5), .int (bb 8 6), .int (bb 8 7), .int (bb 8 8)])), (a1, .inr (6, [.ref a2, .ref a3, .ref a4, .int (nI nh)])), (a2, .inl (aT 0, 6, .inl (bb 0))), (a3, .inl (aT 0, 6, .inl (bb 1))), (a4, .inl (aT 0, 6, .inl (bb 2))), (a5, .inr (8, [.ref a6, .ref a7, .ref a8, .ref a9, .int (nI nm), .int (bb 8 0)])), (a6, .inl (aT 0, 12, .inl (bb 3))), (a7, .inl (aT 0, 12, .inl (bb 4))), (a8, .inl (aT 0, 12, .inl (bb 5))), (a9, .inl (aT 0, 12, .inl (bb 6))), (a10, .inl (aT 0, 4, .inl (bb 7)))]) := by
  have hH := hB.he hC
  have hO := hB.mo hC
  refine CxG.of RX7 (by decide +kernel) rfl (Nat.le_of_ble_eq_true rfl) ?_
  intro p e s m below meth c A ls C hml hl hA hr hlocks hex hnm hZ hW
  have hl : lv_has ls 3 [(0, .ref a0), (1, .int x), (2, .int y)] := hl
  have hx := C.1
  have hb := C.2.1
  refine lv_iload_n hx hb dX7_newMain_0 rfl (lv_at hl 1 rfl) ?_
  refine lv_iload_n hx hb dX7_newMain_1 rfl (lv_at hl 2 rfl) ?_
  refine cx_callv (Wr := [(a0, .inr (10, [.ref a1, .ref a5, .ref a10, .int (bb 8 1), .int (bb 8 2), .int (bb 8 3), .int (bb 8 4), .int (bb 8 5), .int (bb 8 6), .int (bb 8 7), .int (bb 8 8)])), (a1, .inr (6, [.ref a2, .ref a3, .ref a4, .int (nI nh)])), (a2, .inl (aT 0, 6, .inl (bb 0))), (a3, .inl (aT 0, 6, .inl (bb 1))), (a4, .inl (aT 0, 6, .inl (bb 2))), (a5, .inr (8, [.ref a6, .ref a7, .ref a8, .ref a9, .int (nI nm), .int (bb 8 0)])), (a6, .inl (aT 0, 12, .inl (bb 3))), (a7, .inl (aT 0, 12, .inl (bb 4))), (a8, .inl (aT 0, 12, .inl (bb 5))), (a9, .inl (aT 0, 12, .inl (bb 6))), (a10, .inl (aT 0, 4, .inl (bb 7)))]) (cx_runS C hml hl.1 hZ hW hA (As := [.int x, .int y]) (rest := []) (k_X7_requireToneAndWeight l hfl D aT x y) gS_X7_X7_requireToneAndWeight_91 hS_X7_requireToneAndWeight rfl ⟨Nat.le_of_ble_eq_true rfl, Nat.le_of_ble_eq_true rfl⟩ ⟨Nat.le_of_ble_eq_true rfl, Nat.le_of_ble_eq_true rfl⟩ [] rfl (by decide) rfl (Nat.le_of_ble_eq_true rfl) dX7_newMain_2) hW hA [] [0, 1, 2, 3, 4, 5, 6, 7, 8, 9, 10] rfl rfl (by decide) (by decide) (fun E ce q9 W9 H9 locs9 hE hW9 h7 h8 h9 => by
      obtain ⟨hE, rfl⟩ := hE
      exact cx_out C hex hlocks (Wd := [(a0, .inr (10, [.ref a1, .ref a5, .ref a10, .int (bb 8 1), .int (bb 8 2), .int (bb 8 3), .int (bb 8 4), .int (bb 8 5), .int (bb 8 6), .int (bb 8 7), .int (bb 8 8)])), (a1, .inr (6, [.ref a2, .ref a3, .ref a4, .int (nI nh)])), (a2, .inl (aT 0, 6, .inl (bb 0))), (a3, .inl (aT 0, 6, .inl (bb 1))), (a4, .inl (aT 0, 6, .inl (bb 2))), (a5, .inr (8, [.ref a6, .ref a7, .ref a8, .ref a9, .int (nI nm), .int (bb 8 0)])), (a6, .inl (aT 0, 12, .inl (bb 3))), (a7, .inl (aT 0, 12, .inl (bb 4))), (a8, .inl (aT 0, 12, .inl (bb 5))), (a9, .inl (aT 0, 12, .inl (bb 6))), (a10, .inl (aT 0, 4, .inl (bb 7)))]) (cx_drop hW9 [0, 1, 2, 3, 4, 5, 6, 7, 8, 9, 10] rfl (by decide)) h7 h8 h9 ⟨Nat.le_of_ble_eq_true rfl, Nat.le_of_ble_eq_true rfl⟩ (⟨Or.inl hE, rfl⟩)) (fun W_2 H locs hq hW => ?_)
  obtain ⟨hok_2, rfl⟩ := hq
  have hW : CxB D [(a0, .inr (10, [.ref a1, .ref a5, .ref a10, .int (bb 8 1), .int (bb 8 2), .int (bb 8 3), .int (bb 8 4), .int (bb 8 5), .int (bb 8 6), .int (bb 8 7), .int (bb 8 8)])), (a1, .inr (6, [.ref a2, .ref a3, .ref a4, .int (nI nh)])), (a2, .inl (aT 0, 6, .inl (bb 0))), (a3, .inl (aT 0, 6, .inl (bb 1))), (a4, .inl (aT 0, 6, .inl (bb 2))), (a5, .inr (8, [.ref a6, .ref a7, .ref a8, .ref a9, .int (nI nm), .int (bb 8 0)])), (a6, .inl (aT 0, 12, .inl (bb 3))), (a7, .inl (aT 0, 12, .inl (bb 4))), (a8, .inl (aT 0, 12, .inl (bb 5))), (a9, .inl (aT 0, 12, .inl (bb 6))), (a10, .inl (aT 0, 4, .inl (bb 7)))] A s.heap H _ := hW
  refine lv_aload_n hx hb dX7_newMain_5 rfl (lv_at hl 0 rfl) ?_
  refine cx_callv (Wr := []) (cx_runV C hml hl.1 hZ hW hA (As := []) (rest := []) (k_X7_requireRoom l hfl D aT a0 a1 a2 a3 a4 a5 a6 a7 a8 a9 a10 bb nh nm hO.1) gV_X7_X7_requireRoom_95 hV_X7_requireRoom rfl ⟨Nat.le_of_ble_eq_true rfl, Nat.le_of_ble_eq_true rfl⟩ ⟨Nat.le_of_ble_eq_true rfl, Nat.le_of_ble_eq_true rfl⟩ [0, 1, 2, 3, 4, 5, 6, 7, 8, 9, 10] rfl (by decide) 0 10 rfl rfl rfl rfl (Nat.le_of_ble_eq_true rfl) dX7_newMain_6) hW hA [0, 1, 2, 3, 4, 5, 6, 7, 8, 9, 10] [] rfl rfl (by decide) (by decide) (fun E ce q9 W9 H9 locs9 hE hW9 h7 h8 h9 => by
      obtain ⟨hE, rfl⟩ := hE
      exact cx_out C hex hlocks (Wd := [(a0, .inr (10, [.ref a1, .ref a5, .ref a10, .int (bb 8 1), .int (bb 8 2), .int (bb 8 3), .int (bb 8 4), .int (bb 8 5), .int (bb 8 6), .int (bb 8 7), .int (bb 8 8)])), (a1, .inr (6, [.ref a2, .ref a3, .ref a4, .int (nI nh)])), (a2, .inl (aT 0, 6, .inl (bb 0))), (a3, .inl (aT 0, 6, .inl (bb 1))), (a4, .inl (aT 0, 6, .inl (bb 2))), (a5, .inr (8, [.ref a6, .ref a7, .ref a8, .ref a9, .int (nI nm), .int (bb 8 0)])), (a6, .inl (aT 0, 12, .inl (bb 3))), (a7, .inl (aT 0, 12, .inl (bb 4))), (a8, .inl (aT 0, 12, .inl (bb 5))), (a9, .inl (aT 0, 12, .inl (bb 6))), (a10, .inl (aT 0, 4, .inl (bb 7)))]) (cx_drop hW9 [0, 1, 2, 3, 4, 5, 6, 7, 8, 9, 10] rfl (by decide)) h7 h8 h9 ⟨Nat.le_of_ble_eq_true rfl, Nat.le_of_ble_eq_true rfl⟩ (⟨Or.inr ⟨hE.1, hok_2, hE.2⟩, rfl⟩)) (fun W_6 H locs hq hW => ?_)
  obtain ⟨hr_6, rfl⟩ := hq
  have hW : CxB D [(a0, .inr (10, [.ref a1, .ref a5, .ref a10, .int (bb 8 1), .int (bb 8 2), .int (bb 8 3), .int (bb 8 4), .int (bb 8 5), .int (bb 8 6), .int (bb 8 7), .int (bb 8 8)])), (a1, .inr (6, [.ref a2, .ref a3, .ref a4, .int (nI nh)])), (a2, .inl (aT 0, 6, .inl (bb 0))), (a3, .inl (aT 0, 6, .inl (bb 1))), (a4, .inl (aT 0, 6, .inl (bb 2))), (a5, .inr (8, [.ref a6, .ref a7, .ref a8, .ref a9, .int (nI nm), .int (bb 8 0)])), (a6, .inl (aT 0, 12, .inl (bb 3))), (a7, .inl (aT 0, 12, .inl (bb 4))), (a8, .inl (aT 0, 12, .inl (bb 5))), (a9, .inl (aT 0, 12, .inl (bb 6))), (a10, .inl (aT 0, 4, .inl (bb 7)))] A s.heap H _ := hW
  refine lv_aload_n hx hb dX7_newMain_9 rfl (lv_at hl 0 rfl) ?_
  refine lv_iconst (v := (-1)) hx hb dX7_newMain_10 (by decide) ?_
  refine lv_iload_n hx hb dX7_newMain_11 rfl (lv_at hl 1 rfl) ?_
  refine lv_iload_n hx hb dX7_newMain_12 rfl (lv_at hl 2 rfl) ?_
  refine cx_calli (Wr := []) (cx_runV C hml hl.1 hZ hW hA (As := [.int (-1), .int x, .int y]) (rest := []) (k_X7_begin l hfl D aT a0 a1 a2 a3 a4 a5 a6 a7 a8 a9 a10 bb nh nm (-1) x y hr_6) gV_X7_X7_begin_98 hV_X7_begin rfl ⟨Nat.le_of_ble_eq_true rfl, Nat.le_of_ble_eq_true rfl⟩ ⟨Nat.le_of_ble_eq_true rfl, Nat.le_of_ble_eq_true rfl⟩ [0, 1, 2, 3, 4, 5, 6, 7, 8, 9, 10] rfl (by decide) 0 10 rfl rfl rfl rfl (Nat.le_of_ble_eq_true rfl) dX7_newMain_13) hW hA [0, 1, 2, 3, 4, 5, 6, 7, 8, 9, 10] [] rfl rfl (by decide) (by decide) (fun _ _ _ _ _ _ h9 => h9.elim) (fun r_13 W_13 H locs hq hW => ?_)
  obtain ⟨rfl, rfl⟩ := hq
  have hW : CxB D [(a0, .inr (10, [.ref a1, .ref a5, .ref a10, .int (bb 8 1), .int (bb 8 2), .int (bb 8 3), .int ((bb 8 4) + y), .int (bb 8 5), .int (bb 8 6), .int (bb 8 7), .int (bb 8 8)])), (a1, .inr (6, [.ref a2, .ref a3, .ref a4, .int (nI nh)])), (a2, .inl (aT 0, 6, .inl (bb 0))), (a3, .inl (aT 0, 6, .inl (bb 1))), (a4, .inl (aT 0, 6, .inl (bb 2))), (a5, .inr (8, [.ref a6, .ref a7, .ref a8, .ref a9, .int (nI (nm + 1)), .int ((bb 8 0) + (nI 1))])), (a6, .inl (aT 0, 12, .inl (upd (bb 3) nm ((bb 8 0))))), (a7, .inl (aT 0, 12, .inl (upd (bb 4) nm (x)))), (a8, .inl (aT 0, 12, .inl (upd (bb 5) nm (y)))), (a9, .inl (aT 0, 12, .inl (upd (bb 6) nm ((-1))))), (a10, .inl (aT 0, 4, .inl (bb 7)))] A s.heap H _ := hW
  exact cx_iret C hr hlocks rfl hW ⟨Nat.le_of_ble_eq_true rfl, Nat.le_of_ble_eq_true rfl⟩ (by
      obtain ⟨t, et, ht, -⟩ := rg_of (a := 0) (b := 9) (x := x) (by have h5 := hok_2; rw [Bool.and_eq_true] at h5; exact h5.1) (Or.inl (by decide)) (bb := 9) (by decide) (by decide)
      subst et
      exact ⟨_, ⟨hok_2, hr_6, hB.2.2.2.2.2.1.1⟩, hB.addm (po := none) (w := y) hC (by omega) hr_6 (fun j hj => by cases hj) ht, rfl⟩) dX7_newMain_16
theorem dX7_newAmendment_0 : decode cX7_newAmendment 0 = .ok (.aload_n 0, 1) := by decide +kernel
theorem dX7_newAmendment_1 : decode cX7_newAmendment 1 = .ok (.getfield 21, 3) := by decide +kernel
theorem dX7_newAmendment_4 : decode cX7_newAmendment 4 = .ok (.iload_n 1, 1) := by decide +kernel
theorem dX7_newAmendment_5 : decode cX7_newAmendment 5 = .ok (.invokevirtual 101, 3) := by decide +kernel
theorem dX7_newAmendment_8 : decode cX7_newAmendment 8 = .ok (.istore 4, 2) := by decide +kernel
theorem dX7_newAmendment_10 : decode cX7_newAmendment 10 = .ok (.iload_n 2, 1) := by decide +kernel
theorem dX7_newAmendment_11 : decode cX7_newAmendment 11 = .ok (.iload_n 3, 1) := by decide +kernel
theorem dX7_newAmendment_12 : decode cX7_newAmendment 12 = .ok (.invokestatic 91, 3) := by decide +kernel
theorem dX7_newAmendment_15 : decode cX7_newAmendment 15 = .ok (.aload_n 0, 1) := by decide +kernel
theorem dX7_newAmendment_16 : decode cX7_newAmendment 16 = .ok (.invokevirtual 95, 3) := by decide +kernel
theorem dX7_newAmendment_19 : decode cX7_newAmendment 19 = .ok (.aload_n 0, 1) := by decide +kernel
theorem dX7_newAmendment_20 : decode cX7_newAmendment 20 = .ok (.iload 4, 2) := by decide +kernel
theorem dX7_newAmendment_22 : decode cX7_newAmendment 22 = .ok (.iload_n 2, 1) := by decide +kernel
theorem dX7_newAmendment_23 : decode cX7_newAmendment 23 = .ok (.iload_n 3, 1) := by decide +kernel
theorem dX7_newAmendment_24 : decode cX7_newAmendment 24 = .ok (.invokevirtual 98, 3) := by decide +kernel
theorem dX7_newAmendment_27 : decode cX7_newAmendment 27 = .ok (.ireturn, 1) := by decide +kernel
theorem gV_X7_X5_require_101 : GoodIn gw (wsV RX7 101 RX5 yX5_require (Cond.code yX5_require cX5_require 3 (some .int) :: gw)) := gdV gw_699 gw_700 gw_701 gw_70 gw_702
theorem hV_X5_require : yX5_require.cls = RX5 ∧ yX5_require.cls ≠ "java/lang/invoke/MethodHandle" ∧ yX5_require.cls ≠ "java/lang/invoke/VarHandle" ∧ (parseMethodDescriptor yX5_require.desc).map (fun d => d.parameters.length) = some 1 := ⟨rfl, by decide +kernel, by decide +kernel, by decide +kernel⟩
set_option maxHeartbeats 2000000 in
set_option maxRecDepth 20000 in
theorem k_X7_newAmendment (l : Launch) (hfl : l.stackTraces = false) (D : va_G) (aT : Nat → ClassId) (a0 : Nat) (a1 : Nat) (a2 : Nat) (a3 : Nat) (a4 : Nat) (a5 : Nat) (a6 : Nat) (a7 : Nat) (a8 : Nat) (a9 : Nat) (a10 : Nat) (bb : Nat → Nat → Int32) (nh : Nat) (nm : Nat) (M : Nat → Int32) (Bd : Nat) (hBd : Bd < 1048000) (hC : CoW M Bd) (hB : BlC bb nh nm M) (x : Int32) (y : Int32) (z : Int32) : CxG l yX7_newAmendment cX7_newAmendment 5 (some (.int)) 7 3 18 112 D aT [.ref a0, .int x, .int y, .int z] [(a0, .inr (10, [.ref a1, .ref a5, .ref a10, .int (bb 8 1), .int (bb 8 2), .int (bb 8 3), .int (bb 8 4), .int (bb 8 5), .int (bb 8 6), .int (bb 8 7), .int (bb 8 8)])), (a1, .inr (6, [.ref a2, .ref a3, .ref a4, .int (nI nh)])), (a2, .inl (aT 0, 6, .inl (bb 0))), (a3, .inl (aT 0, 6, .inl (bb 1))), (a4, .inl (aT 0, 6, .inl (bb 2))), (a5, .inr (8, [.ref a6, .ref a7, .ref a8, .ref a9, .int (nI nm), .int (bb 8 0)])), (a6, .inl (aT 0, 12, .inl (bb 3))), (a7, .inl (aT 0, 12, .inl (bb 4))), (a8, .inl (aT 0, 12, .inl (bb 5))), (a9, .inl (aT 0, 12, .inl (bb 6))), (a10, .inl (aT 0, 4, .inl (bb 7)))] (qI D aT (fun r W1 => ∃ b2 : Nat → Nat → Int32, ((∃ q, fnd (fun k => M (29 + 4 * k)) x nm = some q) ∧ (rgB 0 9 y && rgB 1 20 z) = true ∧ nm < 12 ∧ r = M 1) ∧ BlC b2 nh (nm + 1) (addF M (nM M) x y z) ∧ W1 = [(a0, .inr (10, [.ref a1, .ref a5, .ref a10, .int (b2 8 1), .int (b2 8 2), .int (b2 8 3), .int (b2 8 4), .int (b2 8 5), .int (b2 8 6), .int (b2 8 7), .int (b2 8 8)])), (a1, .inr (6, [.ref a2, .ref a3, .ref a4, .int (nI nh)])), (a2, .inl (aT 0, 6, .inl (b2 0))), (a3, .inl (aT 0, 6, .inl (b2 1))), (a4, .inl (aT 0, 6, .inl (b2 2))), (a5, .inr (8, [.ref a6, .ref a7, .ref a8, .ref a9, .int (nI (nm + 1)), .int (b2 8 0)])), (a6, .inl (aT 0, 12, .inl (b2 3))), (a7, .inl (aT 0, 12, .inl (b2 4))), (a8, .inl (aT 0, 12, .inl (b2 5))), (a9, .inl (aT 0, 12, .inl (b2 6))), (a10, .inl (aT 0, 4, .inl (b2 7)))])) (fun E W1 => ((E = "java/util/NoSuchElementException" ∧ fnd (fun k => M (29 + 4 * k)) x nm = none) ∨ ((∃ q, fnd (fun k => M (29 + 4 * k)) x nm = some q) ∧ ((E = "java/lang/IllegalArgumentException" ∧ (rgB 0 9 y && rgB 1 20 z) = false) ∨ (E = "java/lang/IllegalStateException" ∧ (rgB 0 9 y && rgB 1 20 z) = true ∧ nm = 12)))) ∧ W1 = [(a0, .inr (10, [.ref a1, .ref a5, .ref a10, .int (bb 8 1), .int (bb 8 2), .int (bb 8 3), .int (bb 8 4), .int (bb 8 5), .int (bb 8 6), .int (bb 8 7), .int (bb 8 8)])), (a1, .inr (6, [.ref a2, .ref a3, .ref a4, .int (nI nh)])), (a2, .inl (aT 0, 6, .inl (bb 0))), (a3, .inl (aT 0, 6, .inl (bb 1))), (a4, .inl (aT 0, 6, .inl (bb 2))), (a5, .inr (8, [.ref a6, .ref a7, .ref a8, .ref a9, .int (nI nm), .int (bb 8 0)])), (a6, .inl (aT 0, 12, .inl (bb 3))), (a7, .inl (aT 0, 12, .inl (bb 4))), (a8, .inl (aT 0, 12, .inl (bb 5))), (a9, .inl (aT 0, 12, .inl (bb 6))), (a10, .inl (aT 0, 4, .inl (bb 7)))]) := by
  have hH := hB.he hC
  have hO := hB.mo hC
  refine CxG.of RX7 (by decide +kernel) rfl (Nat.le_of_ble_eq_true rfl) ?_
  intro p e s m below meth c A ls C hml hl hA hr hlocks hex hnm hZ hW
  have hl : lv_has ls 5 [(0, .ref a0), (1, .int x), (2, .int y), (3, .int z)] := hl
  have hx := C.1
  have hb := C.2.1
  refine lv_aload_n hx hb dX7_newAmendment_0 rfl (lv_at hl 0 rfl) ?_
  refine cx_get C hW 0 1 rfl rfl (by decide) inX7 gw_181 rfl rfl dX7_newAmendment_1 ?_
  refine lv_iload_n hx hb dX7_newAmendment_4 rfl (lv_at hl 1 rfl) ?_
  refine cx_calli (Wr := [(a0, .inr (10, [.ref a1, .ref a5, .ref a10, .int (bb 8 1), .int (bb 8 2), .int (bb 8 3), .int (bb 8 4), .int (bb 8 5), .int (bb 8 6), .int (bb 8 7), .int (bb 8 8)])), (a1, .inr (6, [.ref a2, .ref a3, .ref a4, .int (nI nh)])), (a2, .inl (aT 0, 6, .inl (bb 0))), (a3, .inl (aT 0, 6, .inl (bb 1))), (a4, .inl (aT 0, 6, .inl (bb 2))), (a10, .inl (aT 0, 4, .inl (bb 7)))]) (cx_runV C hml hl.1 hZ hW hA (As := [.int x]) (rest := []) (k_X5_require l hfl D aT a5 a6 a7 a8 a9 (bb 3) (bb 4) (bb 5) (bb 6) nm (bb 8 0) hO.1 x) gV_X7_X5_require_101 hV_X5_require rfl ⟨Nat.le_of_ble_eq_true rfl, Nat.le_of_ble_eq_true rfl⟩ ⟨Nat.le_of_ble_eq_true rfl, Nat.le_of_ble_eq_true rfl⟩ [5, 6, 7, 8, 9] rfl (by decide) 5 8 rfl rfl rfl rfl (Nat.le_of_ble_eq_true rfl) dX7_newAmendment_5) hW hA [5, 6, 7, 8, 9] [0, 1, 2, 3, 4, 10] rfl rfl (by decide) (by decide) (fun E ce q9 W9 H9 locs9 hE hW9 h7 h8 h9 => by
      obtain ⟨hE1, hE2, rfl⟩ := hE
      exact cx_out C hex hlocks (Wd := [(a0, .inr (10, [.ref a1, .ref a5, .ref a10, .int (bb 8 1), .int (bb 8 2), .int (bb 8 3), .int (bb 8 4), .int (bb 8 5), .int (bb 8 6), .int (bb 8 7), .int (bb 8 8)])), (a1, .inr (6, [.ref a2, .ref a3, .ref a4, .int (nI nh)])), (a2, .inl (aT 0, 6, .inl (bb 0))), (a3, .inl (aT 0, 6, .inl (bb 1))), (a4, .inl (aT 0, 6, .inl (bb 2))), (a5, .inr (8, [.ref a6, .ref a7, .ref a8, .ref a9, .int (nI nm), .int (bb 8 0)])), (a6, .inl (aT 0, 12, .inl (bb 3))), (a7, .inl (aT 0, 12, .inl (bb 4))), (a8, .inl (aT 0, 12, .inl (bb 5))), (a9, .inl (aT 0, 12, .inl (bb 6))), (a10, .inl (aT 0, 4, .inl (bb 7)))]) (cx_drop hW9 [0, 1, 2, 3, 4, 6, 7, 8, 9, 10, 5] rfl (by decide)) h7 h8 h9 ⟨Nat.le_of_ble_eq_true rfl, Nat.le_of_ble_eq_true rfl⟩ (⟨Or.inl ⟨hE1, (by rw [← hB.fnd_eq]; exact hE2)⟩, rfl⟩)) (fun r_5 W_5 H locs hq hW => ?_)
  obtain ⟨⟨q_5, hq_5, hqn_5, rfl⟩, rfl⟩ := hq
  have hW : CxB D [(a0, .inr (10, [.ref a1, .ref a5, .ref a10, .int (bb 8 1), .int (bb 8 2), .int (bb 8 3), .int (bb 8 4), .int (bb 8 5), .int (bb 8 6), .int (bb 8 7), .int (bb 8 8)])), (a1, .inr (6, [.ref a2, .ref a3, .ref a4, .int (nI nh)])), (a2, .inl (aT 0, 6, .inl (bb 0))), (a3, .inl (aT 0, 6, .inl (bb 1))), (a4, .inl (aT 0, 6, .inl (bb 2))), (a10, .inl (aT 0, 4, .inl (bb 7))), (a5, .inr (8, [.ref a6, .ref a7, .ref a8, .ref a9, .int (nI nm), .int (bb 8 0)])), (a6, .inl (aT 0, 12, .inl (bb 3))), (a7, .inl (aT 0, 12, .inl (bb 4))), (a8, .inl (aT 0, 12, .inl (bb 5))), (a9, .inl (aT 0, 12, .inl (bb 6)))] A s.heap H _ := hW
  refine lv_istore (lv' := [(4, .int (nI q_5)), (0, .ref a0), (1, .int x), (2, .int y), (3, .int z)]) hx hb dX7_newAmendment_8 hl (by decide) rfl (fun ls hl => ?_)
  refine lv_iload_n hx hb dX7_newAmendment_10 rfl (lv_at hl 3 rfl) ?_
  refine lv_iload_n hx hb dX7_newAmendment_11 rfl (lv_at hl 4 rfl) ?_
  refine cx_callv (Wr := [(a0, .inr (10, [.ref a1, .ref a5, .ref a10, .int (bb 8 1), .int (bb 8 2), .int (bb 8 3), .int (bb 8 4), .int (bb 8 5), .int (bb 8 6), .int (bb 8 7), .int (bb 8 8)])), (a1, .inr (6, [.ref a2, .ref a3, .ref a4, .int (nI nh)])), (a2, .inl (aT 0, 6, .inl (bb 0))), (a3, .inl (aT 0, 6, .inl (bb 1))), (a4, .inl (aT 0, 6, .inl (bb 2))), (a10, .inl (aT 0, 4, .inl (bb 7))), (a5, .inr (8, [.ref a6, .ref a7, .ref a8, .ref a9, .int (nI nm), .int (bb 8 0)])), (a6, .inl (aT 0, 12, .inl (bb 3))), (a7, .inl (aT 0, 12, .inl (bb 4))), (a8, .inl (aT 0, 12, .inl (bb 5))), (a9, .inl (aT 0, 12, .inl (bb 6)))]) (cx_runS C hml hl.1 hZ hW hA (As := [.int y, .int z]) (rest := []) (k_X7_requireToneAndWeight l hfl D aT y z) gS_X7_X7_requireToneAndWeight_91 hS_X7_requireToneAndWeight rfl ⟨Nat.le_of_ble_eq_true rfl, Nat.le_of_ble_eq_true rfl⟩ ⟨Nat.le_of_ble_eq_true rfl, Nat.le_of_ble_eq_true rfl⟩ [] rfl (by decide) rfl (Nat.le_of_ble_eq_true rfl) dX7_newAmendment_12) hW hA [] [0, 1, 2, 3, 4, 5, 6, 7, 8, 9, 10] rfl rfl (by decide) (by decide) (fun E ce q9 W9 H9 locs9 hE hW9 h7 h8 h9 => by
      obtain ⟨hE, rfl⟩ := hE
      exact cx_out C hex hlocks (Wd := [(a0, .inr (10, [.ref a1, .ref a5, .ref a10, .int (bb 8 1), .int (bb 8 2), .int (bb 8 3), .int (bb 8 4), .int (bb 8 5), .int (bb 8 6), .int (bb 8 7), .int (bb 8 8)])), (a1, .inr (6, [.ref a2, .ref a3, .ref a4, .int (nI nh)])), (a2, .inl (aT 0, 6, .inl (bb 0))), (a3, .inl (aT 0, 6, .inl (bb 1))), (a4, .inl (aT 0, 6, .inl (bb 2))), (a5, .inr (8, [.ref a6, .ref a7, .ref a8, .ref a9, .int (nI nm), .int (bb 8 0)])), (a6, .inl (aT 0, 12, .inl (bb 3))), (a7, .inl (aT 0, 12, .inl (bb 4))), (a8, .inl (aT 0, 12, .inl (bb 5))), (a9, .inl (aT 0, 12, .inl (bb 6))), (a10, .inl (aT 0, 4, .inl (bb 7)))]) (cx_drop hW9 [0, 1, 2, 3, 4, 6, 7, 8, 9, 10, 5] rfl (by decide)) h7 h8 h9 ⟨Nat.le_of_ble_eq_true rfl, Nat.le_of_ble_eq_true rfl⟩ (⟨Or.inr ⟨⟨q_5, (by rw [← hB.fnd_eq]; exact hq_5)⟩, Or.inl hE⟩, rfl⟩)) (fun W_12 H locs hq hW => ?_)
  obtain ⟨hok_12, rfl⟩ := hq
  have hW : CxB D [(a0, .inr (10, [.ref a1, .ref a5, .ref a10, .int (bb 8 1), .int (bb 8 2), .int (bb 8 3), .int (bb 8 4), .int (bb 8 5), .int (bb 8 6), .int (bb 8 7), .int (bb 8 8)])), (a1, .inr (6, [.ref a2, .ref a3, .ref a4, .int (nI nh)])), (a2, .inl (aT 0, 6, .inl (bb 0))), (a3, .inl (aT 0, 6, .inl (bb 1))), (a4, .inl (aT 0, 6, .inl (bb 2))), (a10, .inl (aT 0, 4, .inl (bb 7))), (a5, .inr (8, [.ref a6, .ref a7, .ref a8, .ref a9, .int (nI nm), .int (bb 8 0)])), (a6, .inl (aT 0, 12, .inl (bb 3))), (a7, .inl (aT 0, 12, .inl (bb 4))), (a8, .inl (aT 0, 12, .inl (bb 5))), (a9, .inl (aT 0, 12, .inl (bb 6)))] A s.heap H _ := hW
  refine lv_aload_n hx hb dX7_newAmendment_15 rfl (lv_at hl 1 rfl) ?_
  refine cx_callv (Wr := []) (cx_runV C hml hl.1 hZ hW hA (As := []) (rest := []) (k_X7_requireRoom l hfl D aT a0 a1 a2 a3 a4 a5 a6 a7 a8 a9 a10 bb nh nm hO.1) gV_X7_X7_requireRoom_95 hV_X7_requireRoom rfl ⟨Nat.le_of_ble_eq_true rfl, Nat.le_of_ble_eq_true rfl⟩ ⟨Nat.le_of_ble_eq_true rfl, Nat.le_of_ble_eq_true rfl⟩ [0, 1, 2, 3, 4, 6, 7, 8, 9, 10, 5] rfl (by decide) 0 10 rfl rfl rfl rfl (Nat.le_of_ble_eq_true rfl) dX7_newAmendment_16) hW hA [0, 1, 2, 3, 4, 6, 7, 8, 9, 10, 5] [] rfl rfl (by decide) (by decide) (fun E ce q9 W9 H9 locs9 hE hW9 h7 h8 h9 => by
      obtain ⟨hE, rfl⟩ := hE
      exact cx_out C hex hlocks (Wd := [(a0, .inr (10, [.ref a1, .ref a5, .ref a10, .int (bb 8 1), .int (bb 8 2), .int (bb 8 3), .int (bb 8 4), .int (bb 8 5), .int (bb 8 6), .int (bb 8 7), .int (bb 8 8)])), (a1, .inr (6, [.ref a2, .ref a3, .ref a4, .int (nI nh)])), (a2, .inl (aT 0, 6, .inl (bb 0))), (a3, .inl (aT 0, 6, .inl (bb 1))), (a4, .inl (aT 0, 6, .inl (bb 2))), (a5, .inr (8, [.ref a6, .ref a7, .ref a8, .ref a9, .int (nI nm), .int (bb 8 0)])), (a6, .inl (aT 0, 12, .inl (bb 3))), (a7, .inl (aT 0, 12, .inl (bb 4))), (a8, .inl (aT 0, 12, .inl (bb 5))), (a9, .inl (aT 0, 12, .inl (bb 6))), (a10, .inl (aT 0, 4, .inl (bb 7)))]) (cx_drop hW9 [0, 1, 2, 3, 4, 5, 6, 7, 8, 9, 10] rfl (by decide)) h7 h8 h9 ⟨Nat.le_of_ble_eq_true rfl, Nat.le_of_ble_eq_true rfl⟩ (⟨Or.inr ⟨⟨q_5, (by rw [← hB.fnd_eq]; exact hq_5)⟩, Or.inr ⟨hE.1, hok_12, hE.2⟩⟩, rfl⟩)) (fun W_16 H locs hq hW => ?_)
  obtain ⟨hr_16, rfl⟩ := hq
  have hW : CxB D [(a0, .inr (10, [.ref a1, .ref a5, .ref a10, .int (bb 8 1), .int (bb 8 2), .int (bb 8 3), .int (bb 8 4), .int (bb 8 5), .int (bb 8 6), .int (bb 8 7), .int (bb 8 8)])), (a1, .inr (6, [.ref a2, .ref a3, .ref a4, .int (nI nh)])), (a2, .inl (aT 0, 6, .inl (bb 0))), (a3, .inl (aT 0, 6, .inl (bb 1))), (a4, .inl (aT 0, 6, .inl (bb 2))), (a5, .inr (8, [.ref a6, .ref a7, .ref a8, .ref a9, .int (nI nm), .int (bb 8 0)])), (a6, .inl (aT 0, 12, .inl (bb 3))), (a7, .inl (aT 0, 12, .inl (bb 4))), (a8, .inl (aT 0, 12, .inl (bb 5))), (a9, .inl (aT 0, 12, .inl (bb 6))), (a10, .inl (aT 0, 4, .inl (bb 7)))] A s.heap H _ := hW
  refine lv_aload_n hx hb dX7_newAmendment_19 rfl (lv_at hl 1 rfl) ?_
  refine lv_iload hx hb dX7_newAmendment_20 (lv_at hl 0 rfl) ?_
  refine lv_iload_n hx hb dX7_newAmendment_22 rfl (lv_at hl 3 rfl) ?_
  refine lv_iload_n hx hb dX7_newAmendment_23 rfl (lv_at hl 4 rfl) ?_
  refine cx_calli (Wr := []) (cx_runV C hml hl.1 hZ hW hA (As := [.int (nI q_5), .int y, .int z]) (rest := []) (k_X7_begin l hfl D aT a0 a1 a2 a3 a4 a5 a6 a7 a8 a9 a10 bb nh nm (nI q_5) y z hr_16) gV_X7_X7_begin_98 hV_X7_begin rfl ⟨Nat.le_of_ble_eq_true rfl, Nat.le_of_ble_eq_true rfl⟩ ⟨Nat.le_of_ble_eq_true rfl, Nat.le_of_ble_eq_true rfl⟩ [0, 1, 2, 3, 4, 5, 6, 7, 8, 9, 10] rfl (by decide) 0 10 rfl rfl rfl rfl (Nat.le_of_ble_eq_true rfl) dX7_newAmendment_24) hW hA [0, 1, 2, 3, 4, 5, 6, 7, 8, 9, 10] [] rfl rfl (by decide) (by decide) (fun _ _ _ _ _ _ h9 => h9.elim) (fun r_24 W_24 H locs hq hW => ?_)
  obtain ⟨rfl, rfl⟩ := hq
  have hW : CxB D [(a0, .inr (10, [.ref a1, .ref a5, .ref a10, .int (bb 8 1), .int (bb 8 2), .int (bb 8 3), .int ((bb 8 4) + z), .int (bb 8 5), .int (bb 8 6), .int (bb 8 7), .int (bb 8 8)])), (a1, .inr (6, [.ref a2, .ref a3, .ref a4, .int (nI nh)])), (a2, .inl (aT 0, 6, .inl (bb 0))), (a3, .inl (aT 0, 6, .inl (bb 1))), (a4, .inl (aT 0, 6, .inl (bb 2))), (a5, .inr (8, [.ref a6, .ref a7, .ref a8, .ref a9, .int (nI (nm + 1)), .int ((bb 8 0) + (nI 1))])), (a6, .inl (aT 0, 12, .inl (upd (bb 3) nm ((bb 8 0))))), (a7, .inl (aT 0, 12, .inl (upd (bb 4) nm (y)))), (a8, .inl (aT 0, 12, .inl (upd (bb 5) nm (z)))), (a9, .inl (aT 0, 12, .inl (upd (bb 6) nm ((nI q_5))))), (a10, .inl (aT 0, 4, .inl (bb 7)))] A s.heap H _ := hW
  exact cx_iret C hr hlocks rfl hW ⟨Nat.le_of_ble_eq_true rfl, Nat.le_of_ble_eq_true rfl⟩ (by
      obtain ⟨t, et, ht, -⟩ := rg_of (a := 0) (b := 9) (x := y) (by have h5 := hok_12; rw [Bool.and_eq_true] at h5; exact h5.1) (Or.inl (by decide)) (bb := 9) (by decide) (by decide)
      have ex : x = oi ((some q_5).map (idM M)) := (by rw [hB.2.1] at hqn_5; have h5 := (fnd_some hq_5).2.1; rw [← h5, (hB.2.2.2.1 q_5 (by rw [hB.2.1]; exact hqn_5)).1]; exact (hC.1.2.2.1 q_5 hqn_5).1)
      have h6 := hB.addm (po := some q_5) (w := z) hC (by omega) hr_16 (fun j hj => by cases hj; exact hqn_5) ht
      rw [← ex, ← et] at h6
      subst et
      exact ⟨_, ⟨⟨q_5, (by rw [← hB.fnd_eq]; exact hq_5)⟩, hok_12, hr_16, hB.2.2.2.2.2.1.1⟩, h6, rfl⟩) dX7_newAmendment_27
theorem dX7_growTip_0 : decode cX7_growTip 0 = .ok (.aload_n 0, 1) := by decide +kernel
theorem dX7_growTip_1 : decode cX7_growTip 1 = .ok (.getfield 21, 3) := by decide +kernel
theorem dX7_growTip_4 : decode cX7_growTip 4 = .ok (.aload_n 0, 1) := by decide +kernel
theorem dX7_growTip_5 : decode cX7_growTip 5 = .ok (.getfield 21, 3) := by decide +kernel
theorem dX7_growTip_8 : decode cX7_growTip 8 = .ok (.iload_n 1, 1) := by decide +kernel
theorem dX7_growTip_9 : decode cX7_growTip 9 = .ok (.invokevirtual 101, 3) := by decide +kernel
theorem dX7_growTip_12 : decode cX7_growTip 12 = .ok (.invokevirtual 105, 3) := by decide +kernel
theorem dX7_growTip_15 : decode cX7_growTip 15 = .ok (.istore_n 2, 1) := by decide +kernel
theorem dX7_growTip_16 : decode cX7_growTip 16 = .ok (.aload_n 0, 1) := by decide +kernel
theorem dX7_growTip_17 : decode cX7_growTip 17 = .ok (.invokevirtual 95, 3) := by decide +kernel
theorem dX7_growTip_20 : decode cX7_growTip 20 = .ok (.aload_n 0, 1) := by decide +kernel
theorem dX7_growTip_21 : decode cX7_growTip 21 = .ok (.getfield 21, 3) := by decide +kernel
theorem dX7_growTip_24 : decode cX7_growTip 24 = .ok (.getfield 108, 3) := by decide +kernel
theorem dX7_growTip_27 : decode cX7_growTip 27 = .ok (.iload_n 2, 1) := by decide +kernel
theorem dX7_growTip_28 : decode cX7_growTip 28 = .ok (.iaload, 1) := by decide +kernel
theorem dX7_growTip_29 : decode cX7_growTip 29 = .ok (.bipush 9, 2) := by decide +kernel
theorem dX7_growTip_31 : decode cX7_growTip 31 = .ok (.if_icmp .ne 7, 3) := by decide +kernel
theorem dX7_growTip_34 : decode cX7_growTip 34 = .ok (.iconst 0, 1) := by decide +kernel
theorem dX7_growTip_35 : decode cX7_growTip 35 = .ok (.goto 14, 3) := by decide +kernel
theorem dX7_growTip_38 : decode cX7_growTip 38 = .ok (.aload_n 0, 1) := by decide +kernel
theorem dX7_growTip_39 : decode cX7_growTip 39 = .ok (.getfield 21, 3) := by decide +kernel
theorem dX7_growTip_42 : decode cX7_growTip 42 = .ok (.getfield 108, 3) := by decide +kernel
theorem dX7_growTip_45 : decode cX7_growTip 45 = .ok (.iload_n 2, 1) := by decide +kernel
theorem dX7_growTip_46 : decode cX7_growTip 46 = .ok (.iaload, 1) := by decide +kernel
theorem dX7_growTip_47 : decode cX7_growTip 47 = .ok (.iconst 1, 1) := by decide +kernel
theorem dX7_growTip_48 : decode cX7_growTip 48 = .ok (.iadd, 1) := by decide +kernel
theorem dX7_growTip_49 : decode cX7_growTip 49 = .ok (.istore_n 3, 1) := by decide +kernel
theorem dX7_growTip_50 : decode cX7_growTip 50 = .ok (.aload_n 0, 1) := by decide +kernel
theorem dX7_growTip_51 : decode cX7_growTip 51 = .ok (.iload_n 2, 1) := by decide +kernel
theorem dX7_growTip_52 : decode cX7_growTip 52 = .ok (.iload_n 3, 1) := by decide +kernel
theorem dX7_growTip_53 : decode cX7_growTip 53 = .ok (.iconst 1, 1) := by decide +kernel
theorem dX7_growTip_54 : decode cX7_growTip 54 = .ok (.aload_n 0, 1) := by decide +kernel
theorem dX7_growTip_55 : decode cX7_growTip 55 = .ok (.getfield 21, 3) := by decide +kernel
theorem dX7_growTip_58 : decode cX7_growTip 58 = .ok (.getfield 111, 3) := by decide +kernel
theorem dX7_growTip_61 : decode cX7_growTip 61 = .ok (.iload_n 2, 1) := by decide +kernel
theorem dX7_growTip_62 : decode cX7_growTip 62 = .ok (.iaload, 1) := by decide +kernel
theorem dX7_growTip_63 : decode cX7_growTip 63 = .ok (.iconst 2, 1) := by decide +kernel
theorem dX7_growTip_64 : decode cX7_growTip 64 = .ok (.idiv, 1) := by decide +kernel
theorem dX7_growTip_65 : decode cX7_growTip 65 = .ok (.invokestatic 114, 3) := by decide +kernel
theorem dX7_growTip_68 : decode cX7_growTip 68 = .ok (.invokevirtual 98, 3) := by decide +kernel
theorem dX7_growTip_71 : decode cX7_growTip 71 = .ok (.ireturn, 1) := by decide +kernel
theorem gV_X7_X5_lastTipOf_105 : GoodIn gw (wsV RX7 105 RX5 yX5_lastTipOf (Cond.code yX5_lastTipOf cX5_lastTipOf 3 (some .int) :: gw)) := gdV gw_748 gw_749 gw_750 gw_70 gw_751
theorem hV_X5_lastTipOf : yX5_lastTipOf.cls = RX5 ∧ yX5_lastTipOf.cls ≠ "java/lang/invoke/MethodHandle" ∧ yX5_lastTipOf.cls ≠ "java/lang/invoke/VarHandle" ∧ (parseMethodDescriptor yX5_lastTipOf.desc).map (fun d => d.parameters.length) = some 1 := ⟨rfl, by decide +kernel, by decide +kernel, by decide +kernel⟩
set_option maxHeartbeats 2000000 in
set_option maxRecDepth 20000 in
theorem k_X7_growTip (l : Launch) (hfl : l.stackTraces = false) (D : va_G) (aT : Nat → ClassId) (a0 : Nat) (a1 : Nat) (a2 : Nat) (a3 : Nat) (a4 : Nat) (a5 : Nat) (a6 : Nat) (a7 : Nat) (a8 : Nat) (a9 : Nat) (a10 : Nat) (bb : Nat → Nat → Int32) (nh : Nat) (nm : Nat) (M : Nat → Int32) (Bd : Nat) (hBd : Bd < 1048000) (hC : CoW M Bd) (hB : BlC bb nh nm M) (x : Int32) : CxG l yX7_growTip cX7_growTip 4 (some (.int)) 7 2 12 112 D aT [.ref a0, .int x] [(a0, .inr (10, [.ref a1, .ref a5, .ref a10, .int (bb 8 1), .int (bb 8 2), .int (bb 8 3), .int (bb 8 4), .int (bb 8 5), .int (bb 8 6), .int (bb 8 7), .int (bb 8 8)])), (a1, .inr (6, [.ref a2, .ref a3, .ref a4, .int (nI nh)])), (a2, .inl (aT 0, 6, .inl (bb 0))), (a3, .inl (aT 0, 6, .inl (bb 1))), (a4, .inl (aT 0, 6, .inl (bb 2))), (a5, .inr (8, [.ref a6, .ref a7, .ref a8, .ref a9, .int (nI nm), .int (bb 8 0)])), (a6, .inl (aT 0, 12, .inl (bb 3))), (a7, .inl (aT 0, 12, .inl (bb 4))), (a8, .inl (aT 0, 12, .inl (bb 5))), (a9, .inl (aT 0, 12, .inl (bb 6))), (a10, .inl (aT 0, 4, .inl (bb 7)))] (qI D aT (fun r W1 => ∃ (q t : Nat) (b2 : Nat → Nat → Int32), (fnd (fun k => M (29 + 4 * k)) x nm = some q ∧ nm < 12 ∧ ltp (prM M) nm q nm = some t ∧ r = M 1) ∧ BlC b2 nh (nm + 1) (addF M (nM M) (M (29 + 4 * t)) (nI ((tnM M t + 1) % 10)) (hlfF (M (29 + 4 * t + 3)))) ∧ W1 = [(a0, .inr (10, [.ref a1, .ref a5, .ref a10, .int (b2 8 1), .int (b2 8 2), .int (b2 8 3), .int (b2 8 4), .int (b2 8 5), .int (b2 8 6), .int (b2 8 7), .int (b2 8 8)])), (a1, .inr (6, [.ref a2, .ref a3, .ref a4, .int (nI nh)])), (a2, .inl (aT 0, 6, .inl (b2 0))), (a3, .inl (aT 0, 6, .inl (b2 1))), (a4, .inl (aT 0, 6, .inl (b2 2))), (a5, .inr (8, [.ref a6, .ref a7, .ref a8, .ref a9, .int (nI (nm + 1)), .int (b2 8 0)])), (a6, .inl (aT 0, 12, .inl (b2 3))), (a7, .inl (aT 0, 12, .inl (b2 4))), (a8, .inl (aT 0, 12, .inl (b2 5))), (a9, .inl (aT 0, 12, .inl (b2 6))), (a10, .inl (aT 0, 4, .inl (b2 7)))])) (fun E W1 => ((E = "java/util/NoSuchElementException" ∧ fnd (fun k => M (29 + 4 * k)) x nm = none) ∨ ((∃ q, fnd (fun k => M (29 + 4 * k)) x nm = some q) ∧ E = "java/lang/IllegalStateException" ∧ nm = 12)) ∧ W1 = [(a0, .inr (10, [.ref a1, .ref a5, .ref a10, .int (bb 8 1), .int (bb 8 2), .int (bb 8 3), .int (bb 8 4), .int (bb 8 5), .int (bb 8 6), .int (bb 8 7), .int (bb 8 8)])), (a1, .inr (6, [.ref a2, .ref a3, .ref a4, .int (nI nh)])), (a2, .inl (aT 0, 6, .inl (bb 0))), (a3, .inl (aT 0, 6, .inl (bb 1))), (a4, .inl (aT 0, 6, .inl (bb 2))), (a5, .inr (8, [.ref a6, .ref a7, .ref a8, .ref a9, .int (nI nm), .int (bb 8 0)])), (a6, .inl (aT 0, 12, .inl (bb 3))), (a7, .inl (aT 0, 12, .inl (bb 4))), (a8, .inl (aT 0, 12, .inl (bb 5))), (a9, .inl (aT 0, 12, .inl (bb 6))), (a10, .inl (aT 0, 4, .inl (bb 7)))]) := by
  have hH := hB.he hC
  have hO := hB.mo hC
  refine CxG.of RX7 (by decide +kernel) rfl (Nat.le_of_ble_eq_true rfl) ?_
  intro p e s m below meth c A ls C hml hl hA hr hlocks hex hnm hZ hW
  have hl : lv_has ls 4 [(0, .ref a0), (1, .int x)] := hl
  have hx := C.1
  have hb := C.2.1
  refine lv_aload_n hx hb dX7_growTip_0 rfl (lv_at hl 0 rfl) ?_
  refine cx_get C hW 0 1 rfl rfl (by decide) inX7 gw_181 rfl rfl dX7_growTip_1 ?_
  refine lv_aload_n hx hb dX7_growTip_4 rfl (lv_at hl 0 rfl) ?_
  refine cx_get C hW 0 1 rfl rfl (by decide) inX7 gw_181 rfl rfl dX7_growTip_5 ?_
  refine lv_iload_n hx hb dX7_growTip_8 rfl (lv_at hl 1 rfl) ?_
  refine cx_calli (Wr := [(a0, .inr (10, [.ref a1, .ref a5, .ref a10, .int (bb 8 1), .int (bb 8 2), .int (bb 8 3), .int (bb 8 4), .int (bb 8 5), .int (bb 8 6), .int (bb 8 7), .int (bb 8 8)])), (a1, .inr (6, [.ref a2, .ref a3, .ref a4, .int (nI nh)])), (a2, .inl (aT 0, 6, .inl (bb 0))), (a3, .inl (aT 0, 6, .inl (bb 1))), (a4, .inl (aT 0, 6, .inl (bb 2))), (a10, .inl (aT 0, 4, .inl (bb 7)))]) (cx_runV C hml hl.1 hZ hW hA (As := [.int x]) (rest := [.ref a5]) (k_X5_require l hfl D aT a5 a6 a7 a8 a9 (bb 3) (bb 4) (bb 5) (bb 6) nm (bb 8 0) hO.1 x) gV_X7_X5_require_101 hV_X5_require rfl ⟨Nat.le_of_ble_eq_true rfl, Nat.le_of_ble_eq_true rfl⟩ ⟨Nat.le_of_ble_eq_true rfl, Nat.le_of_ble_eq_true rfl⟩ [5, 6, 7, 8, 9] rfl (by decide) 5 8 rfl rfl rfl rfl (Nat.le_of_ble_eq_true rfl) dX7_growTip_9) hW hA [5, 6, 7, 8, 9] [0, 1, 2, 3, 4, 10] rfl rfl (by decide) (by decide) (fun E ce q9 W9 H9 locs9 hE hW9 h7 h8 h9 => by
      obtain ⟨hE1, hE2, rfl⟩ := hE
      exact cx_out C hex hlocks (Wd := [(a0, .inr (10, [.ref a1, .ref a5, .ref a10, .int (bb 8 1), .int (bb 8 2), .int (bb 8 3), .int (bb 8 4), .int (bb 8 5), .int (bb 8 6), .int (bb 8 7), .int (bb 8 8)])), (a1, .inr (6, [.ref a2, .ref a3, .ref a4, .int (nI nh)])), (a2, .inl (aT 0, 6, .inl (bb 0))), (a3, .inl (aT 0, 6, .inl (bb 1))), (a4, .inl (aT 0, 6, .inl (bb 2))), (a5, .inr (8, [.ref a6, .ref a7, .ref a8, .ref a9, .int (nI nm), .int (bb 8 0)])), (a6, .inl (aT 0, 12, .inl (bb 3))), (a7, .inl (aT 0, 12, .inl (bb 4))), (a8, .inl (aT 0, 12, .inl (bb 5))), (a9, .inl (aT 0, 12, .inl (bb 6))), (a10, .inl (aT 0, 4, .inl (bb 7)))]) (cx_drop hW9 [0, 1, 2, 3, 4, 6, 7, 8, 9, 10, 5] rfl (by decide)) h7 h8 h9 ⟨Nat.le_of_ble_eq_true rfl, Nat.le_of_ble_eq_true rfl⟩ (⟨Or.inl ⟨hE1, (by rw [← hB.fnd_eq]; exact hE2)⟩, rfl⟩)) (fun r_9 W_9 H locs hq hW => ?_)
  obtain ⟨⟨q_9, hq_9, hqn_9, rfl⟩, rfl⟩ := hq
  have hW : CxB D [(a0, .inr (10, [.ref a1, .ref a5, .ref a10, .int (bb 8 1), .int (bb 8 2), .int (bb 8 3), .int (bb 8 4), .int (bb 8 5), .int (bb 8 6), .int (bb 8 7), .int (bb 8 8)])), (a1, .inr (6, [.ref a2, .ref a3, .ref a4, .int (nI nh)])), (a2, .inl (aT 0, 6, .inl (bb 0))), (a3, .inl (aT 0, 6, .inl (bb 1))), (a4, .inl (aT 0, 6, .inl (bb 2))), (a10, .inl (aT 0, 4, .inl (bb 7))), (a5, .inr (8, [.ref a6, .ref a7, .ref a8, .ref a9, .int (nI nm), .int (bb 8 0)])), (a6, .inl (aT 0, 12, .inl (bb 3))), (a7, .inl (aT 0, 12, .inl (bb 4))), (a8, .inl (aT 0, 12, .inl (bb 5))), (a9, .inl (aT 0, 12, .inl (bb 6)))] A s.heap H _ := hW
  refine cx_calli (Wr := [(a0, .inr (10, [.ref a1, .ref a5, .ref a10, .int (bb 8 1), .int (bb 8 2), .int (bb 8 3), .int (bb 8 4), .int (bb 8 5), .int (bb 8 6), .int (bb 8 7), .int (bb 8 8)])), (a1, .inr (6, [.ref a2, .ref a3, .ref a4, .int (nI nh)])), (a2, .inl (aT 0, 6, .inl (bb 0))), (a3, .inl (aT 0, 6, .inl (bb 1))), (a4, .inl (aT 0, 6, .inl (bb 2))), (a10, .inl (aT 0, 4, .inl (bb 7)))]) (cx_runV C hml hl.1 hZ hW hA (As := [.int (nI q_9)]) (rest := []) (k_X5_lastTipOf l hfl D aT a5 a6 a7 a8 a9 (bb 3) (bb 4) (bb 5) (bb 6) nm (bb 8 0) (idM M) (prM M) (tnM M) hO q_9 hqn_9) gV_X7_X5_lastTipOf_105 hV_X5_lastTipOf rfl ⟨Nat.le_of_ble_eq_true rfl, Nat.le_of_ble_eq_true rfl⟩ ⟨Nat.le_of_ble_eq_true rfl, Nat.le_of_ble_eq_true rfl⟩ [6, 7, 8, 9, 10] rfl (by decide) 6 8 rfl rfl rfl rfl (Nat.le_of_ble_eq_true rfl) dX7_growTip_12) hW hA [6, 7, 8, 9, 10] [0, 1, 2, 3, 4, 5] rfl rfl (by decide) (by decide) (fun _ _ _ _ _ _ h9 => h9.elim) (fun r_12 W_12 H locs hq hW => ?_)
  obtain ⟨⟨t_12, ht_12, htn_12, rfl⟩, rfl⟩ := hq
  have hW : CxB D [(a0, .inr (10, [.ref a1, .ref a5, .ref a10, .int (bb 8 1), .int (bb 8 2), .int (bb 8 3), .int (bb 8 4), .int (bb 8 5), .int (bb 8 6), .int (bb 8 7), .int (bb 8 8)])), (a1, .inr (6, [.ref a2, .ref a3, .ref a4, .int (nI nh)])), (a2, .inl (aT 0, 6, .inl (bb 0))), (a3, .inl (aT 0, 6, .inl (bb 1))), (a4, .inl (aT 0, 6, .inl (bb 2))), (a10, .inl (aT 0, 4, .inl (bb 7))), (a5, .inr (8, [.ref a6, .ref a7, .ref a8, .ref a9, .int (nI nm), .int (bb 8 0)])), (a6, .inl (aT 0, 12, .inl (bb 3))), (a7, .inl (aT 0, 12, .inl (bb 4))), (a8, .inl (aT 0, 12, .inl (bb 5))), (a9, .inl (aT 0, 12, .inl (bb 6)))] A s.heap H _ := hW
  refine lv_istore_n (lv' := [(2, .int (nI t_12)), (0, .ref a0), (1, .int x)]) hx hb dX7_growTip_15 rfl hl (by decide) rfl (fun ls hl => ?_)
  refine lv_aload_n hx hb dX7_growTip_16 rfl (lv_at hl 1 rfl) ?_
  refine cx_callv (Wr := []) (cx_runV C hml hl.1 hZ hW hA (As := []) (rest := []) (k_X7_requireRoom l hfl D aT a0 a1 a2 a3 a4 a5 a6 a7 a8 a9 a10 bb nh nm hO.1) gV_X7_X7_requireRoom_95 hV_X7_requireRoom rfl ⟨Nat.le_of_ble_eq_true rfl, Nat.le_of_ble_eq_true rfl⟩ ⟨Nat.le_of_ble_eq_true rfl, Nat.le_of_ble_eq_true rfl⟩ [0, 1, 2, 3, 4, 6, 7, 8, 9, 10, 5] rfl (by decide) 0 10 rfl rfl rfl rfl (Nat.le_of_ble_eq_true rfl) dX7_growTip_17) hW hA [0, 1, 2, 3, 4, 6, 7, 8, 9, 10, 5] [] rfl rfl (by decide) (by decide) (fun E ce q9 W9 H9 locs9 hE hW9 h7 h8 h9 => by
      obtain ⟨hE, rfl⟩ := hE
      exact cx_out C hex hlocks (Wd := [(a0, .inr (10, [.ref a1, .ref a5, .ref a10, .int (bb 8 1), .int (bb 8 2), .int (bb 8 3), .int (bb 8 4), .int (bb 8 5), .int (bb 8 6), .int (bb 8 7), .int (bb 8 8)])), (a1, .inr (6, [.ref a2, .ref a3, .ref a4, .int (nI nh)])), (a2, .inl (aT 0, 6, .inl (bb 0))), (a3, .inl (aT 0, 6, .inl (bb 1))), (a4, .inl (aT 0, 6, .inl (bb 2))), (a5, .inr (8, [.ref a6, .ref a7, .ref a8, .ref a9, .int (nI nm), .int (bb 8 0)])), (a6, .inl (aT 0, 12, .inl (bb 3))), (a7, .inl (aT 0, 12, .inl (bb 4))), (a8, .inl (aT 0, 12, .inl (bb 5))), (a9, .inl (aT 0, 12, .inl (bb 6))), (a10, .inl (aT 0, 4, .inl (bb 7)))]) (cx_drop hW9 [0, 1, 2, 3, 4, 5, 6, 7, 8, 9, 10] rfl (by decide)) h7 h8 h9 ⟨Nat.le_of_ble_eq_true rfl, Nat.le_of_ble_eq_true rfl⟩ (⟨Or.inr ⟨⟨q_9, (by rw [← hB.fnd_eq]; exact hq_9)⟩, hE⟩, rfl⟩)) (fun W_17 H locs hq hW => ?_)
  obtain ⟨hr_17, rfl⟩ := hq
  have hW : CxB D [(a0, .inr (10, [.ref a1, .ref a5, .ref a10, .int (bb 8 1), .int (bb 8 2), .int (bb 8 3), .int (bb 8 4), .int (bb 8 5), .int (bb 8 6), .int (bb 8 7), .int (bb 8 8)])), (a1, .inr (6, [.ref a2, .ref a3, .ref a4, .int (nI nh)])), (a2, .inl (aT 0, 6, .inl (bb 0))), (a3, .inl (aT 0, 6, .inl (bb 1))), (a4, .inl (aT 0, 6, .inl (bb 2))), (a5, .inr (8, [.ref a6, .ref a7, .ref a8, .ref a9, .int (nI nm), .int (bb 8 0)])), (a6, .inl (aT 0, 12, .inl (bb 3))), (a7, .inl (aT 0, 12, .inl (bb 4))), (a8, .inl (aT 0, 12, .inl (bb 5))), (a9, .inl (aT 0, 12, .inl (bb 6))), (a10, .inl (aT 0, 4, .inl (bb 7)))] A s.heap H _ := hW
  refine lv_aload_n hx hb dX7_growTip_20 rfl (lv_at hl 1 rfl) ?_
  refine cx_get C hW 0 1 rfl rfl (by decide) inX7 gw_181 rfl rfl dX7_growTip_21 ?_
  refine cx_getN C hZ hW 5 1 rfl rfl (by decide) inX5 nw_151 rfl rfl dX7_growTip_24 ?_
  refine lv_iload_n hx hb dX7_growTip_27 rfl (lv_at hl 0 rfl) ?_
  refine cx_ald C hW 7 0 (j := t_12) rfl rfl rfl (by have := hO.1; omega) (by decide) dX7_growTip_28 ?_
  refine r_eq (y := (nI (tnM M t_12))) ((hO.2.2.2.2.2 t_12 (by first | assumption | omega)).1) ?_
  refine lv_bipush (v := nI 9) hx hb dX7_growTip_29 (by decide) ?_
  refine r_neN hx hb (a := tnM M t_12) (b := 9) (by have := (hO.2.2.2.2.2 t_12 htn_12).2; omega) (by have := (hO.2.2.2.2.2 t_12 htn_12).2; omega) (tgt := 38) dX7_growTip_31 (by decide) (fun c_31 => ?_) (fun c_31 => ?_)
  · refine lv_aload_n hx hb dX7_growTip_38 rfl (lv_at hl 1 rfl) ?_
    refine cx_get C hW 0 1 rfl rfl (by decide) inX7 gw_181 rfl rfl dX7_growTip_39 ?_
    refine cx_getN C hZ hW 5 1 rfl rfl (by decide) inX5 nw_151 rfl rfl dX7_growTip_42 ?_
    refine lv_iload_n hx hb dX7_growTip_45 rfl (lv_at hl 0 rfl) ?_
    refine cx_ald C hW 7 0 (j := t_12) rfl rfl rfl (by have := hO.1; omega) (by decide) dX7_growTip_46 ?_
    refine r_eq (y := (nI (tnM M t_12))) ((hO.2.2.2.2.2 t_12 (by first | assumption | omega)).1) ?_
    refine lv_iconst (v := nI 1) hx hb dX7_growTip_47 (by decide) ?_
    refine r_iaddN hx hb (a := tnM M t_12) (b := 1) dX7_growTip_48 ?_
    refine lv_istore_n (lv' := [(3, .int (nI (tnM M t_12 + 1))), (2, .int (nI t_12)), (0, .ref a0), (1, .int x)]) hx hb dX7_growTip_49 rfl hl (by decide) rfl (fun ls hl => ?_)
    refine lv_aload_n hx hb dX7_growTip_50 rfl (lv_at hl 2 rfl) ?_
    refine lv_iload_n hx hb dX7_growTip_51 rfl (lv_at hl 1 rfl) ?_
    refine lv_iload_n hx hb dX7_growTip_52 rfl (lv_at hl 0 rfl) ?_
    refine lv_iconst (v := nI 1) hx hb dX7_growTip_53 (by decide) ?_
    refine lv_aload_n hx hb dX7_growTip_54 rfl (lv_at hl 2 rfl) ?_
    refine cx_get C hW 0 1 rfl rfl (by decide) inX7 gw_181 rfl rfl dX7_growTip_55 ?_
    refine cx_getN C hZ hW 5 2 rfl rfl (by decide) inX5 nw_154 rfl rfl dX7_growTip_58 ?_
    refine lv_iload_n hx hb dX7_growTip_61 rfl (lv_at hl 1 rfl) ?_
    refine cx_ald C hW 8 0 (j := t_12) rfl rfl rfl (by have := hO.1; omega) (by decide) dX7_growTip_62 ?_
    refine lv_iconst (v := nI 2) hx hb dX7_growTip_63 (by decide) ?_
    refine lv_idiv hx hb dX7_growTip_64 (by decide) ?_
    refine cx_max C hml hl.1 gw_757 ⟨Nat.le_of_ble_eq_true rfl, Nat.le_of_ble_eq_true rfl, Nat.le_of_ble_eq_true rfl⟩ ⟨Nat.le_of_ble_eq_true rfl, Nat.le_of_ble_eq_true rfl⟩ dX7_growTip_65 ?_
    refine cx_calli (Wr := []) (cx_runV C hml hl.1 hZ hW hA (As := [.int (nI t_12), .int (nI (tnM M t_12 + 1)), .int (if (nI 1) < (((bb 5) t_12) / (nI 2)) then (((bb 5) t_12) / (nI 2)) else (nI 1))]) (rest := []) (k_X7_begin l hfl D aT a0 a1 a2 a3 a4 a5 a6 a7 a8 a9 a10 bb nh nm (nI t_12) (nI (tnM M t_12 + 1)) (if (nI 1) < (((bb 5) t_12) / (nI 2)) then (((bb 5) t_12) / (nI 2)) else (nI 1)) hr_17) gV_X7_X7_begin_98 hV_X7_begin rfl ⟨Nat.le_of_ble_eq_true rfl, Nat.le_of_ble_eq_true rfl⟩ ⟨Nat.le_of_ble_eq_true rfl, Nat.le_of_ble_eq_true rfl⟩ [0, 1, 2, 3, 4, 5, 6, 7, 8, 9, 10] rfl (by decide) 0 10 rfl rfl rfl rfl (Nat.le_of_ble_eq_true rfl) dX7_growTip_68) hW hA [0, 1, 2, 3, 4, 5, 6, 7, 8, 9, 10] [] rfl rfl (by decide) (by decide) (fun _ _ _ _ _ _ h9 => h9.elim) (fun r_68 W_68 H locs hq hW => ?_)
    obtain ⟨rfl, rfl⟩ := hq
    have hW : CxB D [(a0, .inr (10, [.ref a1, .ref a5, .ref a10, .int (bb 8 1), .int (bb 8 2), .int (bb 8 3), .int ((bb 8 4) + (if (nI 1) < (((bb 5) t_12) / (nI 2)) then (((bb 5) t_12) / (nI 2)) else (nI 1))), .int (bb 8 5), .int (bb 8 6), .int (bb 8 7), .int (bb 8 8)])), (a1, .inr (6, [.ref a2, .ref a3, .ref a4, .int (nI nh)])), (a2, .inl (aT 0, 6, .inl (bb 0))), (a3, .inl (aT 0, 6, .inl (bb 1))), (a4, .inl (aT 0, 6, .inl (bb 2))), (a5, .inr (8, [.ref a6, .ref a7, .ref a8, .ref a9, .int (nI (nm + 1)), .int ((bb 8 0) + (nI 1))])), (a6, .inl (aT 0, 12, .inl (upd (bb 3) nm ((bb 8 0))))), (a7, .inl (aT 0, 12, .inl (upd (bb 4) nm ((nI (tnM M t_12 + 1)))))), (a8, .inl (aT 0, 12, .inl (upd (bb 5) nm ((if (nI 1) < (((bb 5) t_12) / (nI 2)) then (((bb 5) t_12) / (nI 2)) else (nI 1)))))), (a9, .inl (aT 0, 12, .inl (upd (bb 6) nm ((nI t_12))))), (a10, .inl (aT 0, 4, .inl (bb 7)))] A s.heap H _ := hW
    exact cx_iret C hr hlocks rfl hW ⟨Nat.le_of_ble_eq_true rfl, Nat.le_of_ble_eq_true rfl⟩ (by
        have hx2 := hB.2.1
        have ei : M (29 + 4 * t_12) = oi ((some t_12).map (idM M)) := (hC.1.2.2.1 t_12 (by omega)).1
        have ew : hlfF (M (29 + 4 * t_12 + 3)) = (if nI 1 < (bb 5) t_12 / nI 2 then (bb 5) t_12 / nI 2 else nI 1) := by rw [(hB.2.2.2.1 t_12 htn_12).2.2.1]; rfl
        have h6 := hB.addm (po := some t_12) (t := (tnM M t_12 + 1)) (w := hlfF (M (29 + 4 * t_12 + 3))) hC (by omega) hr_17 (fun j hj => by cases hj; exact htn_12) (by have := (hO.2.2.2.2.2 t_12 htn_12).2; omega)
        rw [← ei] at h6
        have e10 : (tnM M t_12 + 1) % 10 = (tnM M t_12 + 1) := by have := (hO.2.2.2.2.2 t_12 htn_12).2; omega
        refine ⟨q_9, t_12, bkO (bb 0) (bb 1) (bb 2) (upd (bb 3) nm ((bb 8 0))) (upd (bb 4) nm ((nI (tnM M t_12 + 1)))) (upd (bb 5) nm ((if (nI 1) < (((bb 5) t_12) / (nI 2)) then (((bb 5) t_12) / (nI 2)) else (nI 1)))) (upd (bb 6) nm ((nI t_12))) (bb 7) ((bb 8 0) + (nI 1)) (bb 8 1) (bb 8 2) (bb 8 3) ((bb 8 4) + (if (nI 1) < (((bb 5) t_12) / (nI 2)) then (((bb 5) t_12) / (nI 2)) else (nI 1))) (bb 8 5) (bb 8 6) (bb 8 7) (bb 8 8), ⟨(by rw [← hB.fnd_eq]; exact hq_9), hr_17, ht_12, hB.2.2.2.2.2.1.1⟩, ?_, rfl⟩
        rw [e10]
        rw [ew] at h6 ⊢
        exact h6) dX7_growTip_71
  · refine lv_iconst (v := nI 0) hx hb dX7_growTip_34 (by decide) ?_
    refine lv_goto (tgt := 49) hx hb dX7_growTip_35 (by decide) ?_
    refine lv_istore_n (lv' := [(3, .int (nI 0)), (2, .int (nI t_12)), (0, .ref a0), (1, .int x)]) hx hb dX7_growTip_49 rfl hl (by decide) rfl (fun ls hl => ?_)
    refine lv_aload_n hx hb dX7_growTip_50 rfl (lv_at hl 2 rfl) ?_
    refine lv_iload_n hx hb dX7_growTip_51 rfl (lv_at hl 1 rfl) ?_
    refine lv_iload_n hx hb dX7_growTip_52 rfl (lv_at hl 0 rfl) ?_
    refine lv_iconst (v := nI 1) hx hb dX7_growTip_53 (by decide) ?_
    refine lv_aload_n hx hb dX7_growTip_54 rfl (lv_at hl 2 rfl) ?_
    refine cx_get C hW 0 1 rfl rfl (by decide) inX7 gw_181 rfl rfl dX7_growTip_55 ?_
    refine cx_getN C hZ hW 5 2 rfl rfl (by decide) inX5 nw_154 rfl rfl dX7_growTip_58 ?_
    refine lv_iload_n hx hb dX7_growTip_61 rfl (lv_at hl 1 rfl) ?_
    refine cx_ald C hW 8 0 (j := t_12) rfl rfl rfl (by have := hO.1; omega) (by decide) dX7_growTip_62 ?_
    refine lv_iconst (v := nI 2) hx hb dX7_growTip_63 (by decide) ?_
    refine lv_idiv hx hb dX7_growTip_64 (by decide) ?_
    refine cx_max C hml hl.1 gw_757 ⟨Nat.le_of_ble_eq_true rfl, Nat.le_of_ble_eq_true rfl, Nat.le_of_ble_eq_true rfl⟩ ⟨Nat.le_of_ble_eq_true rfl, Nat.le_of_ble_eq_true rfl⟩ dX7_growTip_65 ?_
    refine cx_calli (Wr := []) (cx_runV C hml hl.1 hZ hW hA (As := [.int (nI t_12), .int (nI 0), .int (if (nI 1) < (((bb 5) t_12) / (nI 2)) then (((bb 5) t_12) / (nI 2)) else (nI 1))]) (rest := []) (k_X7_begin l hfl D aT a0 a1 a2 a3 a4 a5 a6 a7 a8 a9 a10 bb nh nm (nI t_12) (nI 0) (if (nI 1) < (((bb 5) t_12) / (nI 2)) then (((bb 5) t_12) / (nI 2)) else (nI 1)) hr_17) gV_X7_X7_begin_98 hV_X7_begin rfl ⟨Nat.le_of_ble_eq_true rfl, Nat.le_of_ble_eq_true rfl⟩ ⟨Nat.le_of_ble_eq_true rfl, Nat.le_of_ble_eq_true rfl⟩ [0, 1, 2, 3, 4, 5, 6, 7, 8, 9, 10] rfl (by decide) 0 10 rfl rfl rfl rfl (Nat.le_of_ble_eq_true rfl) dX7_growTip_68) hW hA [0, 1, 2, 3, 4, 5, 6, 7, 8, 9, 10] [] rfl rfl (by decide) (by decide) (fun _ _ _ _ _ _ h9 => h9.elim) (fun r_68 W_68 H locs hq hW => ?_)
    obtain ⟨rfl, rfl⟩ := hq
    have hW : CxB D [(a0, .inr (10, [.ref a1, .ref a5, .ref a10, .int (bb 8 1), .int (bb 8 2), .int (bb 8 3), .int ((bb 8 4) + (if (nI 1) < (((bb 5) t_12) / (nI 2)) then (((bb 5) t_12) / (nI 2)) else (nI 1))), .int (bb 8 5), .int (bb 8 6), .int (bb 8 7), .int (bb 8 8)])), (a1, .inr (6, [.ref a2, .ref a3, .ref a4, .int (nI nh)])), (a2, .inl (aT 0, 6, .inl (bb 0))), (a3, .inl (aT 0, 6, .inl (bb 1))), (a4, .inl (aT 0, 6, .inl (bb 2))), (a5, .inr (8, [.ref a6, .ref a7, .ref a8, .ref a9, .int (nI (nm + 1)), .int ((bb 8 0) + (nI 1))])), (a6, .inl (aT 0, 12, .inl (upd (bb 3) nm ((bb 8 0))))), (a7, .inl (aT 0, 12, .inl (upd (bb 4) nm ((nI 0))))), (a8, .inl (aT 0, 12, .inl (upd (bb 5) nm ((if (nI 1) < (((bb 5) t_12) / (nI 2)) then (((bb 5) t_12) / (nI 2)) else (nI 1)))))), (a9, .inl (aT 0, 12, .inl (upd (bb 6) nm ((nI t_12))))), (a10, .inl (aT 0, 4, .inl (bb 7)))] A s.heap H _ := hW
    exact cx_iret C hr hlocks rfl hW ⟨Nat.le_of_ble_eq_true rfl, Nat.le_of_ble_eq_true rfl⟩ (by
        have hx2 := hB.2.1
        have ei : M (29 + 4 * t_12) = oi ((some t_12).map (idM M)) := (hC.1.2.2.1 t_12 (by omega)).1
        have ew : hlfF (M (29 + 4 * t_12 + 3)) = (if nI 1 < (bb 5) t_12 / nI 2 then (bb 5) t_12 / nI 2 else nI 1) := by rw [(hB.2.2.2.1 t_12 htn_12).2.2.1]; rfl
        have h6 := hB.addm (po := some t_12) (t := 0) (w := hlfF (M (29 + 4 * t_12 + 3))) hC (by omega) hr_17 (fun j hj => by cases hj; exact htn_12) (by have := (hO.2.2.2.2.2 t_12 htn_12).2; omega)
        rw [← ei] at h6
        have e10 : (tnM M t_12 + 1) % 10 = 0 := by omega
        refine ⟨q_9, t_12, bkO (bb 0) (bb 1) (bb 2) (upd (bb 3) nm ((bb 8 0))) (upd (bb 4) nm ((nI 0))) (upd (bb 5) nm ((if (nI 1) < (((bb 5) t_12) / (nI 2)) then (((bb 5) t_12) / (nI 2)) else (nI 1)))) (upd (bb 6) nm ((nI t_12))) (bb 7) ((bb 8 0) + (nI 1)) (bb 8 1) (bb 8 2) (bb 8 3) ((bb 8 4) + (if (nI 1) < (((bb 5) t_12) / (nI 2)) then (((bb 5) t_12) / (nI 2)) else (nI 1))) (bb 8 5) (bb 8 6) (bb 8 7) (bb 8 8), ⟨(by rw [← hB.fnd_eq]; exact hq_9), hr_17, ht_12, hB.2.2.2.2.2.1.1⟩, ?_, rfl⟩
        rw [e10]
        rw [ew] at h6 ⊢
        exact h6) dX7_growTip_71
theorem dX7_cutBack_0 : decode cX7_cutBack 0 = .ok (.aload_n 0, 1) := by decide +kernel
theorem dX7_cutBack_1 : decode cX7_cutBack 1 = .ok (.getfield 21, 3) := by decide +kernel
theorem dX7_cutBack_4 : decode cX7_cutBack 4 = .ok (.iload_n 1, 1) := by decide +kernel
theorem dX7_cutBack_5 : decode cX7_cutBack 5 = .ok (.invokevirtual 101, 3) := by decide +kernel
theorem dX7_cutBack_8 : decode cX7_cutBack 8 = .ok (.istore_n 3, 1) := by decide +kernel
theorem dX7_cutBack_9 : decode cX7_cutBack 9 = .ok (.iload_n 2, 1) := by decide +kernel
theorem dX7_cutBack_10 : decode cX7_cutBack 10 = .ok (.invokestatic 67, 3) := by decide +kernel
theorem dX7_cutBack_13 : decode cX7_cutBack 13 = .ok (.ifCond .ne 13, 3) := by decide +kernel
theorem dX7_cutBack_16 : decode cX7_cutBack 16 = .ok (.new 71, 3) := by decide +kernel
theorem dX7_cutBack_19 : decode cX7_cutBack 19 = .ok (.dup, 1) := by decide +kernel
theorem dX7_cutBack_20 : decode cX7_cutBack 20 = .ok (.ldc 120, 2) := by decide +kernel
theorem dX7_cutBack_22 : decode cX7_cutBack 22 = .ok (.invokespecial 75, 3) := by decide +kernel
theorem dX7_cutBack_25 : decode cX7_cutBack 25 = .ok (.athrow, 1) := by decide +kernel
theorem dX7_cutBack_26 : decode cX7_cutBack 26 = .ok (.aload_n 0, 1) := by decide +kernel
theorem dX7_cutBack_27 : decode cX7_cutBack 27 = .ok (.getfield 21, 3) := by decide +kernel
theorem dX7_cutBack_30 : decode cX7_cutBack 30 = .ok (.iload_n 3, 1) := by decide +kernel
theorem dX7_cutBack_31 : decode cX7_cutBack 31 = .ok (.invokevirtual 122, 3) := by decide +kernel
theorem dX7_cutBack_34 : decode cX7_cutBack 34 = .ok (.iload_n 2, 1) := by decide +kernel
theorem dX7_cutBack_35 : decode cX7_cutBack 35 = .ok (.iadd, 1) := by decide +kernel
theorem dX7_cutBack_36 : decode cX7_cutBack 36 = .ok (.istore 4, 2) := by decide +kernel
theorem dX7_cutBack_38 : decode cX7_cutBack 38 = .ok (.iconst 0, 1) := by decide +kernel
theorem dX7_cutBack_39 : decode cX7_cutBack 39 = .ok (.istore 5, 2) := by decide +kernel
theorem dX7_cutBack_41 : decode cX7_cutBack 41 = .ok (.aload_n 0, 1) := by decide +kernel
theorem dX7_cutBack_42 : decode cX7_cutBack 42 = .ok (.getfield 21, 3) := by decide +kernel
theorem dX7_cutBack_45 : decode cX7_cutBack 45 = .ok (.getfield 125, 3) := by decide +kernel
theorem dX7_cutBack_48 : decode cX7_cutBack 48 = .ok (.iconst 1, 1) := by decide +kernel
theorem dX7_cutBack_49 : decode cX7_cutBack 49 = .ok (.isub, 1) := by decide +kernel
theorem dX7_cutBack_50 : decode cX7_cutBack 50 = .ok (.istore 6, 2) := by decide +kernel
theorem dX7_cutBack_52 : decode cX7_cutBack 52 = .ok (.iload 6, 2) := by decide +kernel
theorem dX7_cutBack_54 : decode cX7_cutBack 54 = .ok (.iload_n 3, 1) := by decide +kernel
theorem dX7_cutBack_55 : decode cX7_cutBack 55 = .ok (.if_icmp .le 67, 3) := by decide +kernel
theorem dX7_cutBack_58 : decode cX7_cutBack 58 = .ok (.aload_n 0, 1) := by decide +kernel
theorem dX7_cutBack_59 : decode cX7_cutBack 59 = .ok (.getfield 21, 3) := by decide +kernel
theorem dX7_cutBack_62 : decode cX7_cutBack 62 = .ok (.iload 6, 2) := by decide +kernel
theorem dX7_cutBack_64 : decode cX7_cutBack 64 = .ok (.iload_n 3, 1) := by decide +kernel
theorem dX7_cutBack_65 : decode cX7_cutBack 65 = .ok (.invokevirtual 128, 3) := by decide +kernel
theorem dX7_cutBack_68 : decode cX7_cutBack 68 = .ok (.ifCond .eq 48, 3) := by decide +kernel
theorem dX7_cutBack_71 : decode cX7_cutBack 71 = .ok (.aload_n 0, 1) := by decide +kernel
theorem dX7_cutBack_72 : decode cX7_cutBack 72 = .ok (.getfield 21, 3) := by decide +kernel
theorem dX7_cutBack_75 : decode cX7_cutBack 75 = .ok (.iload 6, 2) := by decide +kernel
theorem dX7_cutBack_77 : decode cX7_cutBack 77 = .ok (.invokevirtual 122, 3) := by decide +kernel
theorem dX7_cutBack_80 : decode cX7_cutBack 80 = .ok (.iload 4, 2) := by decide +kernel
theorem dX7_cutBack_82 : decode cX7_cutBack 82 = .ok (.if_icmp .le 34, 3) := by decide +kernel
theorem dX7_cutBack_85 : decode cX7_cutBack 85 = .ok (.aload_n 0, 1) := by decide +kernel
theorem dX7_cutBack_86 : decode cX7_cutBack 86 = .ok (.dup, 1) := by decide +kernel
theorem dX7_cutBack_87 : decode cX7_cutBack 87 = .ok (.getfield 55, 3) := by decide +kernel
theorem dX7_cutBack_90 : decode cX7_cutBack 90 = .ok (.aload_n 0, 1) := by decide +kernel
theorem dX7_cutBack_91 : decode cX7_cutBack 91 = .ok (.getfield 21, 3) := by decide +kernel
theorem dX7_cutBack_94 : decode cX7_cutBack 94 = .ok (.getfield 111, 3) := by decide +kernel
theorem dX7_cutBack_97 : decode cX7_cutBack 97 = .ok (.iload 6, 2) := by decide +kernel
theorem dX7_cutBack_99 : decode cX7_cutBack 99 = .ok (.iaload, 1) := by decide +kernel
theorem dX7_cutBack_100 : decode cX7_cutBack 100 = .ok (.iadd, 1) := by decide +kernel
theorem dX7_cutBack_101 : decode cX7_cutBack 101 = .ok (.putfield 55, 3) := by decide +kernel
theorem dX7_cutBack_104 : decode cX7_cutBack 104 = .ok (.aload_n 0, 1) := by decide +kernel
theorem dX7_cutBack_105 : decode cX7_cutBack 105 = .ok (.getfield 21, 3) := by decide +kernel
theorem dX7_cutBack_108 : decode cX7_cutBack 108 = .ok (.iload 6, 2) := by decide +kernel
theorem dX7_cutBack_110 : decode cX7_cutBack 110 = .ok (.invokevirtual 132, 3) := by decide +kernel
theorem dX7_cutBack_113 : decode cX7_cutBack 113 = .ok (.iinc 5 1, 3) := by decide +kernel
theorem dX7_cutBack_116 : decode cX7_cutBack 116 = .ok (.iinc 6 (-1), 3) := by decide +kernel
theorem dX7_cutBack_119 : decode cX7_cutBack 119 = .ok (.goto (-67), 3) := by decide +kernel
theorem dX7_cutBack_122 : decode cX7_cutBack 122 = .ok (.iload 5, 2) := by decide +kernel
theorem dX7_cutBack_124 : decode cX7_cutBack 124 = .ok (.ireturn, 1) := by decide +kernel
theorem gV_X7_X5_depthOf_122 : GoodIn gw (wsV RX7 122 RX5 yX5_depthOf (Cond.code yX5_depthOf cX5_depthOf 4 (some .int) :: gw)) := gdV gw_731 gw_528 gw_529 gw_70 gw_530
theorem gV_X7_X5_isInBranch_128 : GoodIn gw (wsV RX7 128 RX5 yX5_isInBranch (Cond.code yX5_isInBranch cX5_isInBranch 5 (some .boolean) :: gw)) := gdV gw_732 gw_507 gw_508 gw_70 gw_509
theorem gV_X7_X5_removeTip_132 : GoodIn gw (wsV RX7 132 RX5 yX5_removeTip (Cond.code yX5_removeTip cX5_removeTip 3 (none) :: gw)) := gdV gw_733 gw_734 gw_735 gw_70 gw_736
theorem hV_X5_removeTip : yX5_removeTip.cls = RX5 ∧ yX5_removeTip.cls ≠ "java/lang/invoke/MethodHandle" ∧ yX5_removeTip.cls ≠ "java/lang/invoke/VarHandle" ∧ (parseMethodDescriptor yX5_removeTip.desc).map (fun d => d.parameters.length) = some 1 := ⟨rfl, by decide +kernel, by decide +kernel, by decide +kernel⟩
set_option maxHeartbeats 2000000 in
set_option maxRecDepth 20000 in
theorem k_X7_cutBack (l : Launch) (hfl : l.stackTraces = false) (D : va_G) (aT : Nat → ClassId) (a0 : Nat) (a1 : Nat) (a2 : Nat) (a3 : Nat) (a4 : Nat) (a5 : Nat) (a6 : Nat) (a7 : Nat) (a8 : Nat) (a9 : Nat) (a10 : Nat) (bb : Nat → Nat → Int32) (nh : Nat) (nm : Nat) (M : Nat → Int32) (Bd : Nat) (hBd : Bd < 1048000) (hC : CoW M Bd) (hB : BlC bb nh nm M) (x : Int32) (y : Int32) : CxG l yX7_cutBack cX7_cutBack 7 (some (.int)) 7 2 12 112 D aT [.ref a0, .int x, .int y] [(a0, .inr (10, [.ref a1, .ref a5, .ref a10, .int (bb 8 1), .int (bb 8 2), .int (bb 8 3), .int (bb 8 4), .int (bb 8 5), .int (bb 8 6), .int (bb 8 7), .int (bb 8 8)])), (a1, .inr (6, [.ref a2, .ref a3, .ref a4, .int (nI nh)])), (a2, .inl (aT 0, 6, .inl (bb 0))), (a3, .inl (aT 0, 6, .inl (bb 1))), (a4, .inl (aT 0, 6, .inl (bb 2))), (a5, .inr (8, [.ref a6, .ref a7, .ref a8, .ref a9, .int (nI nm), .int (bb 8 0)])), (a6, .inl (aT 0, 12, .inl (bb 3))), (a7, .inl (aT 0, 12, .inl (bb 4))), (a8, .inl (aT 0, 12, .inl (bb 5))), (a9, .inl (aT 0, 12, .inl (bb 6))), (a10, .inl (aT 0, 4, .inl (bb 7)))] (qI D aT (fun r W1 => ∃ (q v n2 : Nat) (b2 : Nat → Nat → Int32), (fnd (fun k => M (29 + 4 * k)) x nm = some q ∧ y = nI v ∧ v ≤ 9 ∧ rgB 0 9 y = true ∧ r = nI (prnR M q v).2) ∧ BlC b2 nh n2 (prnR M q v).1 ∧ W1 = [(a0, .inr (10, [.ref a1, .ref a5, .ref a10, .int (b2 8 1), .int (b2 8 2), .int (b2 8 3), .int (b2 8 4), .int (b2 8 5), .int (b2 8 6), .int (b2 8 7), .int (b2 8 8)])), (a1, .inr (6, [.ref a2, .ref a3, .ref a4, .int (nI nh)])), (a2, .inl (aT 0, 6, .inl (b2 0))), (a3, .inl (aT 0, 6, .inl (b2 1))), (a4, .inl (aT 0, 6, .inl (b2 2))), (a5, .inr (8, [.ref a6, .ref a7, .ref a8, .ref a9, .int (nI n2), .int (b2 8 0)])), (a6, .inl (aT 0, 12, .inl (b2 3))), (a7, .inl (aT 0, 12, .inl (b2 4))), (a8, .inl (aT 0, 12, .inl (b2 5))), (a9, .inl (aT 0, 12, .inl (b2 6))), (a10, .inl (aT 0, 4, .inl (b2 7)))])) (fun E W1 => ((E = "java/util/NoSuchElementException" ∧ fnd (fun k => M (29 + 4 * k)) x nm = none) ∨ ((∃ q, fnd (fun k => M (29 + 4 * k)) x nm = some q) ∧ E = "java/lang/IllegalArgumentException" ∧ rgB 0 9 y = false)) ∧ W1 = [(a0, .inr (10, [.ref a1, .ref a5, .ref a10, .int (bb 8 1), .int (bb 8 2), .int (bb 8 3), .int (bb 8 4), .int (bb 8 5), .int (bb 8 6), .int (bb 8 7), .int (bb 8 8)])), (a1, .inr (6, [.ref a2, .ref a3, .ref a4, .int (nI nh)])), (a2, .inl (aT 0, 6, .inl (bb 0))), (a3, .inl (aT 0, 6, .inl (bb 1))), (a4, .inl (aT 0, 6, .inl (bb 2))), (a5, .inr (8, [.ref a6, .ref a7, .ref a8, .ref a9, .int (nI nm), .int (bb 8 0)])), (a6, .inl (aT 0, 12, .inl (bb 3))), (a7, .inl (aT 0, 12, .inl (bb 4))), (a8, .inl (aT 0, 12, .inl (bb 5))), (a9, .inl (aT 0, 12, .inl (bb 6))), (a10, .inl (aT 0, 4, .inl (bb 7)))]) := by
  have hH := hB.he hC
  have hO := hB.mo hC
  refine CxG.of RX7 (by decide +kernel) rfl (Nat.le_of_ble_eq_true rfl) ?_
  intro p e s m below meth c A ls C hml hl hA hr hlocks hex hnm hZ hW
  have hl : lv_has ls 7 [(0, .ref a0), (1, .int x), (2, .int y)] := hl
  have hx := C.1
  have hb := C.2.1
  refine lv_aload_n hx hb dX7_cutBack_0 rfl (lv_at hl 0 rfl) ?_
  refine cx_get C hW 0 1 rfl rfl (by decide) inX7 gw_181 rfl rfl dX7_cutBack_1 ?_
  refine lv_iload_n hx hb dX7_cutBack_4 rfl (lv_at hl 1 rfl) ?_
  refine cx_calli (Wr := [(a0, .inr (10, [.ref a1, .ref a5, .ref a10, .int (bb 8 1), .int (bb 8 2), .int (bb 8 3), .int (bb 8 4), .int (bb 8 5), .int (bb 8 6), .int (bb 8 7), .int (bb 8 8)])), (a1, .inr (6, [.ref a2, .ref a3, .ref a4, .int (nI nh)])), (a2, .inl (aT 0, 6, .inl (bb 0))), (a3, .inl (aT 0, 6, .inl (bb 1))), (a4, .inl (aT 0, 6, .inl (bb 2))), (a10, .inl (aT 0, 4, .inl (bb 7)))]) (cx_runV C hml hl.1 hZ hW hA (As := [.int x]) (rest := []) (k_X5_require l hfl D aT a5 a6 a7 a8 a9 (bb 3) (bb 4) (bb 5) (bb 6) nm (bb 8 0) hO.1 x) gV_X7_X5_require_101 hV_X5_require rfl ⟨Nat.le_of_ble_eq_true rfl, Nat.le_of_ble_eq_true rfl⟩ ⟨Nat.le_of_ble_eq_true rfl, Nat.le_of_ble_eq_true rfl⟩ [5, 6, 7, 8, 9] rfl (by decide) 5 8 rfl rfl rfl rfl (Nat.le_of_ble_eq_true rfl) dX7_cutBack_5) hW hA [5, 6, 7, 8, 9] [0, 1, 2, 3, 4, 10] rfl rfl (by decide) (by decide) (fun E ce q9 W9 H9 locs9 hE hW9 h7 h8 h9 => by
      obtain ⟨hE1, hE2, rfl⟩ := hE
      exact cx_out C hex hlocks (Wd := [(a0, .inr (10, [.ref a1, .ref a5, .ref a10, .int (bb 8 1), .int (bb 8 2), .int (bb 8 3), .int (bb 8 4), .int (bb 8 5), .int (bb 8 6), .int (bb 8 7), .int (bb 8 8)])), (a1, .inr (6, [.ref a2, .ref a3, .ref a4, .int (nI nh)])), (a2, .inl (aT 0, 6, .inl (bb 0))), (a3, .inl (aT 0, 6, .inl (bb 1))), (a4, .inl (aT 0, 6, .inl (bb 2))), (a5, .inr (8, [.ref a6, .ref a7, .ref a8, .ref a9, .int (nI nm), .int (bb 8 0)])), (a6, .inl (aT 0, 12, .inl (bb 3))), (a7, .inl (aT 0, 12, .inl (bb 4))), (a8, .inl (aT 0, 12, .inl (bb 5))), (a9, .inl (aT 0, 12, .inl (bb 6))), (a10, .inl (aT 0, 4, .inl (bb 7)))]) (cx_drop hW9 [0, 1, 2, 3, 4, 6, 7, 8, 9, 10, 5] rfl (by decide)) h7 h8 h9 ⟨Nat.le_of_ble_eq_true rfl, Nat.le_of_ble_eq_true rfl⟩ (⟨Or.inl ⟨hE1, (by rw [← hB.fnd_eq]; exact hE2)⟩, rfl⟩)) (fun r_5 W_5 H locs hq hW => ?_)
  obtain ⟨⟨q_5, hq_5, hqn_5, rfl⟩, rfl⟩ := hq
  have hW : CxB D [(a0, .inr (10, [.ref a1, .ref a5, .ref a10, .int (bb 8 1), .int (bb 8 2), .int (bb 8 3), .int (bb 8 4), .int (bb 8 5), .int (bb 8 6), .int (bb 8 7), .int (bb 8 8)])), (a1, .inr (6, [.ref a2, .ref a3, .ref a4, .int (nI nh)])), (a2, .inl (aT 0, 6, .inl (bb 0))), (a3, .inl (aT 0, 6, .inl (bb 1))), (a4, .inl (aT 0, 6, .inl (bb 2))), (a10, .inl (aT 0, 4, .inl (bb 7))), (a5, .inr (8, [.ref a6, .ref a7, .ref a8, .ref a9, .int (nI nm), .int (bb 8 0)])), (a6, .inl (aT 0, 12, .inl (bb 3))), (a7, .inl (aT 0, 12, .inl (bb 4))), (a8, .inl (aT 0, 12, .inl (bb 5))), (a9, .inl (aT 0, 12, .inl (bb 6)))] A s.heap H _ := hW
  refine lv_istore_n (lv' := [(3, .int (nI q_5)), (0, .ref a0), (1, .int x), (2, .int y)]) hx hb dX7_cutBack_8 rfl hl (by decide) rfl (fun ls hl => ?_)
  refine lv_iload_n hx hb dX7_cutBack_9 rfl (lv_at hl 3 rfl) ?_
  refine cx_calli (Wr := [(a0, .inr (10, [.ref a1, .ref a5, .ref a10, .int (bb 8 1), .int (bb 8 2), .int (bb 8 3), .int (bb 8 4), .int (bb 8 5), .int (bb 8 6), .int (bb 8 7), .int (bb 8 8)])), (a1, .inr (6, [.ref a2, .ref a3, .ref a4, .int (nI nh)])), (a2, .inl (aT 0, 6, .inl (bb 0))), (a3, .inl (aT 0, 6, .inl (bb 1))), (a4, .inl (aT 0, 6, .inl (bb 2))), (a10, .inl (aT 0, 4, .inl (bb 7))), (a5, .inr (8, [.ref a6, .ref a7, .ref a8, .ref a9, .int (nI nm), .int (bb 8 0)])), (a6, .inl (aT 0, 12, .inl (bb 3))), (a7, .inl (aT 0, 12, .inl (bb 4))), (a8, .inl (aT 0, 12, .inl (bb 5))), (a9, .inl (aT 0, 12, .inl (bb 6)))]) (cx_runS C hml hl.1 hZ hW hA (As := [.int y]) (rest := []) (k_X7_isDigit l hfl D aT y) gS_X7_X7_isDigit_67 hS_X7_isDigit rfl ⟨Nat.le_of_ble_eq_true rfl, Nat.le_of_ble_eq_true rfl⟩ ⟨Nat.le_of_ble_eq_true rfl, Nat.le_of_ble_eq_true rfl⟩ [] rfl (by decide) rfl (Nat.le_of_ble_eq_true rfl) dX7_cutBack_10) hW hA [] [0, 1, 2, 3, 4, 5, 6, 7, 8, 9, 10] rfl rfl (by decide) (by decide) (fun _ _ _ _ _ _ h9 => h9.elim) (fun r_10 W_10 H locs hq hW => ?_)
  obtain ⟨rfl, rfl⟩ := hq
  have hW : CxB D [(a0, .inr (10, [.ref a1, .ref a5, .ref a10, .int (bb 8 1), .int (bb 8 2), .int (bb 8 3), .int (bb 8 4), .int (bb 8 5), .int (bb 8 6), .int (bb 8 7), .int (bb 8 8)])), (a1, .inr (6, [.ref a2, .ref a3, .ref a4, .int (nI nh)])), (a2, .inl (aT 0, 6, .inl (bb 0))), (a3, .inl (aT 0, 6, .inl (bb 1))), (a4, .inl (aT 0, 6, .inl (bb 2))), (a10, .inl (aT 0, 4, .inl (bb 7))), (a5, .inr (8, [.ref a6, .ref a7, .ref a8, .ref a9, .int (nI nm), .int (bb 8 0)])), (a6, .inl (aT 0, 12, .inl (bb 3))), (a7, .inl (aT 0, 12, .inl (bb 4))), (a8, .inl (aT 0, 12, .inl (bb 5))), (a9, .inl (aT 0, 12, .inl (bb 6)))] A s.heap H _ := hW
  refine r_bI_ne hx hb (b := (rgB 0 9 y)) (tgt := 26) dX7_cutBack_13 (by decide) (fun c_13 => ?_) (fun c_13 => ?_)
  · obtain ⟨v, ev, hv9, -⟩ := rg_of (a := 0) (b := 9) (x := y) c_13 (Or.inl (by decide)) (bb := 9) (by decide) (by decide)
    subst ev
    have hxm := hB.2.1
    have hl : lv_has ls 7 [(3, .int (nI q_5)), (0, .ref a0), (1, .int x), (2, .int (nI v))] := hl
    refine lv_aload_n hx hb dX7_cutBack_26 rfl (lv_at hl 1 rfl) ?_
    refine cx_get C hW 0 1 rfl rfl (by decide) inX7 gw_181 rfl rfl dX7_cutBack_27 ?_
    refine lv_iload_n hx hb dX7_cutBack_30 rfl (lv_at hl 0 rfl) ?_
    refine cx_calli (Wr := [(a0, .inr (10, [.ref a1, .ref a5, .ref a10, .int (bb 8 1), .int (bb 8 2), .int (bb 8 3), .int (bb 8 4), .int (bb 8 5), .int (bb 8 6), .int (bb 8 7), .int (bb 8 8)])), (a1, .inr (6, [.ref a2, .ref a3, .ref a4, .int (nI nh)])), (a2, .inl (aT 0, 6, .inl (bb 0))), (a3, .inl (aT 0, 6, .inl (bb 1))), (a4, .inl (aT 0, 6, .inl (bb 2))), (a10, .inl (aT 0, 4, .inl (bb 7)))]) (cx_runV C hml hl.1 hZ hW hA (As := [.int (nI q_5)]) (rest := []) (k_X5_depthOf l hfl D aT a5 a6 a7 a8 a9 (bb 3) (bb 4) (bb 5) (bb 6) nm (bb 8 0) (idM M) (prM M) (tnM M) hO q_5 hqn_5) gV_X7_X5_depthOf_122 hV_X5_depthOf rfl ⟨Nat.le_of_ble_eq_true rfl, Nat.le_of_ble_eq_true rfl⟩ ⟨Nat.le_of_ble_eq_true rfl, Nat.le_of_ble_eq_true rfl⟩ [6, 7, 8, 9, 10] rfl (by decide) 6 8 rfl rfl rfl rfl (Nat.le_of_ble_eq_true rfl) dX7_cutBack_31) hW hA [6, 7, 8, 9, 10] [0, 1, 2, 3, 4, 5] rfl rfl (by decide) (by decide) (fun _ _ _ _ _ _ h9 => h9.elim) (fun r_31 W_31 H locs hq hW => ?_)
    obtain ⟨rfl, rfl⟩ := hq
    have hW : CxB D [(a0, .inr (10, [.ref a1, .ref a5, .ref a10, .int (bb 8 1), .int (bb 8 2), .int (bb 8 3), .int (bb 8 4), .int (bb 8 5), .int (bb 8 6), .int (bb 8 7), .int (bb 8 8)])), (a1, .inr (6, [.ref a2, .ref a3, .ref a4, .int (nI nh)])), (a2, .inl (aT 0, 6, .inl (bb 0))), (a3, .inl (aT 0, 6, .inl (bb 1))), (a4, .inl (aT 0, 6, .inl (bb 2))), (a10, .inl (aT 0, 4, .inl (bb 7))), (a5, .inr (8, [.ref a6, .ref a7, .ref a8, .ref a9, .int (nI nm), .int (bb 8 0)])), (a6, .inl (aT 0, 12, .inl (bb 3))), (a7, .inl (aT 0, 12, .inl (bb 4))), (a8, .inl (aT 0, 12, .inl (bb 5))), (a9, .inl (aT 0, 12, .inl (bb 6)))] A s.heap H _ := hW
    refine lv_iload_n hx hb dX7_cutBack_34 rfl (lv_at hl 3 rfl) ?_
    refine r_iaddN hx hb (a := dep (prM M) q_5) (b := v) dX7_cutBack_35 ?_
    refine lv_istore (lv' := [(4, .int (nI ((dep (prM M) q_5) + v))), (3, .int (nI q_5)), (0, .ref a0), (1, .int x), (2, .int (nI v))]) hx hb dX7_cutBack_36 hl (by decide) rfl (fun ls hl => ?_)
    refine lv_iconst (v := nI 0) hx hb dX7_cutBack_38 (by decide) ?_
    refine lv_istore (lv' := [(5, .int (nI 0)), (4, .int (nI ((dep (prM M) q_5) + v))), (3, .int (nI q_5)), (0, .ref a0), (1, .int x), (2, .int (nI v))]) hx hb dX7_cutBack_39 hl (by decide) rfl (fun ls hl => ?_)
    refine lv_aload_n hx hb dX7_cutBack_41 rfl (lv_at hl 3 rfl) ?_
    refine cx_get C hW 0 1 rfl rfl (by decide) inX7 gw_181 rfl rfl dX7_cutBack_42 ?_
    refine cx_getN C hZ hW 6 4 rfl rfl (by decide) inX5 nw_163 rfl rfl dX7_cutBack_45 ?_
    refine lv_iconst (v := nI 1) hx hb dX7_cutBack_48 (by decide) ?_
    refine r_isubN hx hb (a := nm) (b := 1) (by omega) dX7_cutBack_49 ?_
    refine r_eq (congrArg nI (show nm - 1 = q_5 + (nm - 1 - q_5) by omega)) ?_
    refine lv_istore (lv' := [(6, .int (nI (q_5 + (nm - 1 - q_5)))), (5, .int (nI 0)), (4, .int (nI ((dep (prM M) q_5) + v))), (3, .int (nI q_5)), (0, .ref a0), (1, .int x), (2, .int (nI v))]) hx hb dX7_cutBack_50 hl (by decide) rfl (fun ls hl => ?_)
    refine W_loopH (σ := Nat × (Nat → Nat → Int32) × Nat × Nat × (Nat → Int32)) (fun z_ => z_.1) (fun z_ H locs g => ∃ ls, g = F0 m 52 ls [] ∧ lv_has ls 7 [(6, .int (nI (q_5 + z_.1))), (5, .int (nI z_.2.2.2.1)), (4, .int (nI (dep (prM M) q_5 + v))), (3, .int (nI q_5)), (2, .int (nI v)), (1, .int x), (0, .ref a0)] ∧ CxB D [(a0, .inr (10, [.ref a1, .ref a5, .ref a10, .int (z_.2.1 8 1), .int (z_.2.1 8 2), .int (z_.2.1 8 3), .int (z_.2.1 8 4), .int (z_.2.1 8 5), .int (z_.2.1 8 6), .int (z_.2.1 8 7), .int (z_.2.1 8 8)])), (a1, .inr (6, [.ref a2, .ref a3, .ref a4, .int (nI nh)])), (a2, .inl (aT 0, 6, .inl (z_.2.1 0))), (a3, .inl (aT 0, 6, .inl (z_.2.1 1))), (a4, .inl (aT 0, 6, .inl (z_.2.1 2))), (a10, .inl (aT 0, 4, .inl (z_.2.1 7))), (a5, .inr (8, [.ref a6, .ref a7, .ref a8, .ref a9, .int (nI z_.2.2.1), .int (z_.2.1 8 0)])), (a6, .inl (aT 0, 12, .inl (z_.2.1 3))), (a7, .inl (aT 0, 12, .inl (z_.2.1 4))), (a8, .inl (aT 0, 12, .inl (z_.2.1 5))), (a9, .inl (aT 0, 12, .inl (z_.2.1 6)))] A s.heap H locs ∧ BlC z_.2.1 nh z_.2.2.1 z_.2.2.2.2 ∧ CoW z_.2.2.2.2 Bd ∧ prnOk q_5 (dep (prM M) q_5 + v) z_.1 z_.2.2.2.2 ∧ prnF q_5 (dep (prM M) q_5 + v) z_.1 z_.2.2.2.2 z_.2.2.2.1 = prnR M q_5 v) ?_ ((nm - 1 - q_5), bb, nm, 0, M) _ ⟨_, rfl, lv_sub hl [0, 1, 2, 3, 6, 5, 4] rfl, hW, ⟨hB, hC, (by rw [hxm]; exact prnOk_0 hC.1 (by omega)), (by rw [hxm]; rfl)⟩⟩
    clear hW hl
    rintro ⟨i_, b, n, u, mm⟩ H locs g ⟨ls, rfl, hl, hW, ⟨hBl, hCl, hpo, hpf⟩⟩ ih_52
    dsimp only at hl hW hBl hCl hpo hpf ⊢
    refine lv_iload hx hb dX7_cutBack_52 (lv_at hl 0 rfl) ?_
    refine lv_iload_n hx hb dX7_cutBack_54 rfl (lv_at hl 3 rfl) ?_
    refine r_leN hx hb (a := q_5 + i_) (b := q_5) (by have h1 := hpo.2.1; have h2 := hBl.2.1; have h3 := hCl.1.n12; have h4 := hpo.2.1; omega) (by have h1 := hpo.2.1; have h2 := hBl.2.1; have h3 := hCl.1.n12; have h4 := hpo.2.1; omega) (tgt := 122) dX7_cutBack_55 (by decide) (fun c_55 => ?_) (fun c_55 => ?_)
    · refine lv_iload hx hb dX7_cutBack_122 (lv_at hl 1 rfl) ?_
      have hW : CxB D [(a0, .inr (10, [.ref a1, .ref a5, .ref a10, .int (b 8 1), .int (b 8 2), .int (b 8 3), .int (b 8 4), .int (b 8 5), .int (b 8 6), .int (b 8 7), .int (b 8 8)])), (a1, .inr (6, [.ref a2, .ref a3, .ref a4, .int (nI nh)])), (a2, .inl (aT 0, 6, .inl (b 0))), (a3, .inl (aT 0, 6, .inl (b 1))), (a4, .inl (aT 0, 6, .inl (b 2))), (a5, .inr (8, [.ref a6, .ref a7, .ref a8, .ref a9, .int (nI n), .int (b 8 0)])), (a6, .inl (aT 0, 12, .inl (b 3))), (a7, .inl (aT 0, 12, .inl (b 4))), (a8, .inl (aT 0, 12, .inl (b 5))), (a9, .inl (aT 0, 12, .inl (b 6))), (a10, .inl (aT 0, 4, .inl (b 7)))] A s.heap H _ := cx_drop hW [0, 1, 2, 3, 4, 6, 7, 8, 9, 10, 5] rfl (by decide)
      exact cx_iret C hr hlocks rfl hW ⟨Nat.le_of_ble_eq_true rfl, Nat.le_of_ble_eq_true rfl⟩ (by
          have e0 : i_ = 0 := by omega
          subst e0
          rw [prn_end] at hpf
          refine ⟨q_5, v, n, b, ⟨(by rw [← hB.fnd_eq]; exact hq_5), rfl, hv9, c_13, by rw [← hpf]⟩, by rw [← hpf]; exact hBl, rfl⟩) dX7_cutBack_124
    · obtain ⟨i, rfl⟩ : ∃ k, i_ = k + 1 := ⟨i_ - 1, by omega⟩
      have hl : lv_has ls 7 [(6, .int (nI (q_5 + (i + 1)))), (5, .int (nI u)), (4, .int (nI (dep (prM M) q_5 + v))), (3, .int (nI q_5)), (2, .int (nI v)), (1, .int x), (0, .ref a0)] := hl
      have hxn := hBl.2.1
      have hlt := hpo.2.1
      have hOl := hBl.mo hCl
      refine lv_aload_n hx hb dX7_cutBack_58 rfl (lv_at hl 6 rfl) ?_
      refine cx_get C hW 0 1 rfl rfl (by decide) inX7 gw_181 rfl rfl dX7_cutBack_59 ?_
      refine lv_iload hx hb dX7_cutBack_62 (lv_at hl 0 rfl) ?_
      refine lv_iload_n hx hb dX7_cutBack_64 rfl (lv_at hl 3 rfl) ?_
      refine cx_calli (Wr := [(a0, .inr (10, [.ref a1, .ref a5, .ref a10, .int (b 8 1), .int (b 8 2), .int (b 8 3), .int (b 8 4), .int (b 8 5), .int (b 8 6), .int (b 8 7), .int (b 8 8)])), (a1, .inr (6, [.ref a2, .ref a3, .ref a4, .int (nI nh)])), (a2, .inl (aT 0, 6, .inl (b 0))), (a3, .inl (aT 0, 6, .inl (b 1))), (a4, .inl (aT 0, 6, .inl (b 2))), (a10, .inl (aT 0, 4, .inl (b 7)))]) (cx_runV C hml hl.1 hZ hW hA (As := [.int (nI (q_5 + (i + 1))), .int (nI q_5)]) (rest := []) (k_X5_isInBranch l hfl D aT a5 a6 a7 a8 a9 (b 3) (b 4) (b 5) (b 6) n (b 8 0) (idM mm) (prM mm) (tnM mm) hOl (q_5 + (i + 1)) (show q_5 + (i + 1) < n by omega) q_5 (show q_5 < n by omega)) gV_X7_X5_isInBranch_128 hV_X5_isInBranch rfl ⟨Nat.le_of_ble_eq_true rfl, Nat.le_of_ble_eq_true rfl⟩ ⟨Nat.le_of_ble_eq_true rfl, Nat.le_of_ble_eq_true rfl⟩ [6, 7, 8, 9, 10] rfl (by decide) 6 8 rfl rfl rfl rfl (Nat.le_of_ble_eq_true rfl) dX7_cutBack_65) hW hA [6, 7, 8, 9, 10] [0, 1, 2, 3, 4, 5] rfl rfl (by decide) (by decide) (fun _ _ _ _ _ _ h9 => h9.elim) (fun r_65 W_65 H locs hq hW => ?_)
      obtain ⟨rfl, rfl⟩ := hq
      have hW : CxB D [(a0, .inr (10, [.ref a1, .ref a5, .ref a10, .int (b 8 1), .int (b 8 2), .int (b 8 3), .int (b 8 4), .int (b 8 5), .int (b 8 6), .int (b 8 7), .int (b 8 8)])), (a1, .inr (6, [.ref a2, .ref a3, .ref a4, .int (nI nh)])), (a2, .inl (aT 0, 6, .inl (b 0))), (a3, .inl (aT 0, 6, .inl (b 1))), (a4, .inl (aT 0, 6, .inl (b 2))), (a10, .inl (aT 0, 4, .inl (b 7))), (a5, .inr (8, [.ref a6, .ref a7, .ref a8, .ref a9, .int (nI n), .int (b 8 0)])), (a6, .inl (aT 0, 12, .inl (b 3))), (a7, .inl (aT 0, 12, .inl (b 4))), (a8, .inl (aT 0, 12, .inl (b 5))), (a9, .inl (aT 0, 12, .inl (b 6)))] A s.heap H _ := hW
      refine r_bI_eq hx hb (b := (anc (prM mm) q_5 (q_5 + (i + 1)))) (tgt := 116) dX7_cutBack_68 (by decide) (fun c_68 => ?_) (fun c_68 => ?_)
      · refine lv_iinc (v := (nI (q_5 + i))) (lv' := [(6, .int (nI (q_5 + i))), (5, .int (nI u)), (4, .int (nI (dep (prM M) q_5 + v))), (3, .int (nI q_5)), (2, .int (nI v)), (1, .int x), (0, .ref a0)]) hx hb dX7_cutBack_116 hl (k := 0) rfl (pd_1 (q_5 + i)) (by decide) rfl (fun ls hl => ?_)
        refine lv_goto (tgt := 52) hx hb dX7_cutBack_119 (by decide) ?_
        exact ih_52 (i, b, n, u, mm) _ _ _ (by first | omega | (dsimp only; omega)) ⟨_, rfl, lv_sub hl [0, 1, 2, 3, 4, 5, 6] rfl, hW, ⟨hBl, hCl, prn_skip hpo (by rintro ⟨z1, z2⟩; rw [c_68] at z1; exact absurd z1 (by decide)), (by rw [← hpf]; exact (prnF_no (by rw [Bool.and_eq_false_iff]; exact Or.inl c_68)).symm)⟩⟩
      · refine lv_aload_n hx hb dX7_cutBack_71 rfl (lv_at hl 6 rfl) ?_
        refine cx_get C hW 0 1 rfl rfl (by decide) inX7 gw_181 rfl rfl dX7_cutBack_72 ?_
        refine lv_iload hx hb dX7_cutBack_75 (lv_at hl 0 rfl) ?_
        refine cx_calli (Wr := [(a0, .inr (10, [.ref a1, .ref a5, .ref a10, .int (b 8 1), .int (b 8 2), .int (b 8 3), .int (b 8 4), .int (b 8 5), .int (b 8 6), .int (b 8 7), .int (b 8 8)])), (a1, .inr (6, [.ref a2, .ref a3, .ref a4, .int (nI nh)])), (a2, .inl (aT 0, 6, .inl (b 0))), (a3, .inl (aT 0, 6, .inl (b 1))), (a4, .inl (aT 0, 6, .inl (b 2))), (a10, .inl (aT 0, 4, .inl (b 7)))]) (cx_runV C hml hl.1 hZ hW hA (As := [.int (nI (q_5 + (i + 1)))]) (rest := []) (k_X5_depthOf l hfl D aT a5 a6 a7 a8 a9 (b 3) (b 4) (b 5) (b 6) n (b 8 0) (idM mm) (prM mm) (tnM mm) hOl (q_5 + (i + 1)) (show q_5 + (i + 1) < n by omega)) gV_X7_X5_depthOf_122 hV_X5_depthOf rfl ⟨Nat.le_of_ble_eq_true rfl, Nat.le_of_ble_eq_true rfl⟩ ⟨Nat.le_of_ble_eq_true rfl, Nat.le_of_ble_eq_true rfl⟩ [6, 7, 8, 9, 10] rfl (by decide) 6 8 rfl rfl rfl rfl (Nat.le_of_ble_eq_true rfl) dX7_cutBack_77) hW hA [6, 7, 8, 9, 10] [0, 1, 2, 3, 4, 5] rfl rfl (by decide) (by decide) (fun _ _ _ _ _ _ h9 => h9.elim) (fun r_77 W_77 H locs hq hW => ?_)
        obtain ⟨rfl, rfl⟩ := hq
        have hW : CxB D [(a0, .inr (10, [.ref a1, .ref a5, .ref a10, .int (b 8 1), .int (b 8 2), .int (b 8 3), .int (b 8 4), .int (b 8 5), .int (b 8 6), .int (b 8 7), .int (b 8 8)])), (a1, .inr (6, [.ref a2, .ref a3, .ref a4, .int (nI nh)])), (a2, .inl (aT 0, 6, .inl (b 0))), (a3, .inl (aT 0, 6, .inl (b 1))), (a4, .inl (aT 0, 6, .inl (b 2))), (a10, .inl (aT 0, 4, .inl (b 7))), (a5, .inr (8, [.ref a6, .ref a7, .ref a8, .ref a9, .int (nI n), .int (b 8 0)])), (a6, .inl (aT 0, 12, .inl (b 3))), (a7, .inl (aT 0, 12, .inl (b 4))), (a8, .inl (aT 0, 12, .inl (b 5))), (a9, .inl (aT 0, 12, .inl (b 6)))] A s.heap H _ := hW
        refine lv_iload hx hb dX7_cutBack_80 (lv_at hl 2 rfl) ?_
        refine r_leN hx hb (a := dep (prM mm) (q_5 + (i + 1))) (b := dep (prM M) q_5 + v) (by have h5 := hOl.1; have h6 := dep_le hOl.2.2.2.1 _ (show q_5 + (i + 1) < n by omega); have h7 := dep_le hO.2.2.2.1 q_5 hqn_5; have h8 := hO.1; omega) (by have h5 := hOl.1; have h6 := dep_le hOl.2.2.2.1 _ (show q_5 + (i + 1) < n by omega); have h7 := dep_le hO.2.2.2.1 q_5 hqn_5; have h8 := hO.1; omega) (tgt := 116) dX7_cutBack_82 (by decide) (fun c_82 => ?_) (fun c_82 => ?_)
        · refine lv_iinc (v := (nI (q_5 + i))) (lv' := [(6, .int (nI (q_5 + i))), (5, .int (nI u)), (4, .int (nI (dep (prM M) q_5 + v))), (3, .int (nI q_5)), (2, .int (nI v)), (1, .int x), (0, .ref a0)]) hx hb dX7_cutBack_116 hl (k := 0) rfl (pd_1 (q_5 + i)) (by decide) rfl (fun ls hl => ?_)
          refine lv_goto (tgt := 52) hx hb dX7_cutBack_119 (by decide) ?_
          exact ih_52 (i, b, n, u, mm) _ _ _ (by first | omega | (dsimp only; omega)) ⟨_, rfl, lv_sub hl [0, 1, 2, 3, 4, 5, 6] rfl, hW, ⟨hBl, hCl, prn_skip hpo (by rintro ⟨z1, z2⟩; exact absurd z2 (Nat.not_lt.mpr c_82)), (by rw [← hpf]; exact (prnF_no (by rw [Bool.and_eq_false_iff]; exact Or.inr (decide_eq_false (Nat.not_lt.mpr c_82)))).symm)⟩⟩
        · refine lv_aload_n hx hb dX7_cutBack_85 rfl (lv_at hl 6 rfl) ?_
          refine lv_dup hx hb dX7_cutBack_86 rfl ?_
          refine cx_get C hW 0 7 rfl rfl (by decide) inX7 gw_192 rfl rfl dX7_cutBack_87 ?_
          refine lv_aload_n hx hb dX7_cutBack_90 rfl (lv_at hl 6 rfl) ?_
          refine cx_get C hW 0 1 rfl rfl (by decide) inX7 gw_181 rfl rfl dX7_cutBack_91 ?_
          refine cx_getN C hZ hW 6 2 rfl rfl (by decide) inX5 nw_154 rfl rfl dX7_cutBack_94 ?_
          refine lv_iload hx hb dX7_cutBack_97 (lv_at hl 0 rfl) ?_
          refine cx_ald C hW 9 0 (j := q_5 + (i + 1)) rfl rfl rfl (by have := hOl.1; omega) (by decide) dX7_cutBack_99 ?_
          refine lv_iadd hx hb dX7_cutBack_100 ?_
          refine cx_put C hW 0 7 (W1 := [(a0, .inr (10, [.ref a1, .ref a5, .ref a10, .int (b 8 1), .int (b 8 2), .int (b 8 3), .int (b 8 4), .int ((b 8 5) + ((b 5) (q_5 + (i + 1)))), .int (b 8 6), .int (b 8 7), .int (b 8 8)])), (a1, .inr (6, [.ref a2, .ref a3, .ref a4, .int (nI nh)])), (a2, .inl (aT 0, 6, .inl (b 0))), (a3, .inl (aT 0, 6, .inl (b 1))), (a4, .inl (aT 0, 6, .inl (b 2))), (a10, .inl (aT 0, 4, .inl (b 7))), (a5, .inr (8, [.ref a6, .ref a7, .ref a8, .ref a9, .int (nI n), .int (b 8 0)])), (a6, .inl (aT 0, 12, .inl (b 3))), (a7, .inl (aT 0, 12, .inl (b 4))), (a8, .inl (aT 0, 12, .inl (b 5))), (a9, .inl (aT 0, 12, .inl (b 6)))]) rfl rfl (by decide) inX7 tyX7 tyX7_ok nmX7 gw_192 rfl rfl rfl rfl rfl (Nat.le_of_ble_eq_true rfl) rfl dX7_cutBack_101 (fun H locs hW => ?_)
          refine lv_aload_n hx hb dX7_cutBack_104 rfl (lv_at hl 6 rfl) ?_
          refine cx_get C hW 0 1 rfl rfl (by decide) inX7 gw_181 rfl rfl dX7_cutBack_105 ?_
          refine lv_iload hx hb dX7_cutBack_108 (lv_at hl 0 rfl) ?_
          refine cx_callv (Wr := [(a0, .inr (10, [.ref a1, .ref a5, .ref a10, .int (b 8 1), .int (b 8 2), .int (b 8 3), .int (b 8 4), .int ((b 8 5) + ((b 5) (q_5 + (i + 1)))), .int (b 8 6), .int (b 8 7), .int (b 8 8)])), (a1, .inr (6, [.ref a2, .ref a3, .ref a4, .int (nI nh)])), (a2, .inl (aT 0, 6, .inl (b 0))), (a3, .inl (aT 0, 6, .inl (b 1))), (a4, .inl (aT 0, 6, .inl (b 2))), (a10, .inl (aT 0, 4, .inl (b 7)))]) (cx_runV C hml hl.1 hZ hW hA (As := [.int (nI (q_5 + (i + 1)))]) (rest := []) (k_X5_removeTip l hfl D aT a5 a6 a7 a8 a9 (b 3) (b 4) (b 5) (b 6) n (b 8 0) (q_5 + (i + 1)) (show q_5 + (i + 1) < n by omega) hOl.1) gV_X7_X5_removeTip_132 hV_X5_removeTip rfl ⟨Nat.le_of_ble_eq_true rfl, Nat.le_of_ble_eq_true rfl⟩ ⟨Nat.le_of_ble_eq_true rfl, Nat.le_of_ble_eq_true rfl⟩ [6, 7, 8, 9, 10] rfl (by decide) 6 8 rfl rfl rfl rfl (Nat.le_of_ble_eq_true rfl) dX7_cutBack_110) hW hA [6, 7, 8, 9, 10] [0, 1, 2, 3, 4, 5] rfl rfl (by decide) (by decide) (fun _ _ _ _ _ _ h9 => h9.elim) (fun W_110 H locs hq hW => ?_)
          obtain rfl := hq
          have hW : CxB D [(a0, .inr (10, [.ref a1, .ref a5, .ref a10, .int (b 8 1), .int (b 8 2), .int (b 8 3), .int (b 8 4), .int ((b 8 5) + ((b 5) (q_5 + (i + 1)))), .int (b 8 6), .int (b 8 7), .int (b 8 8)])), (a1, .inr (6, [.ref a2, .ref a3, .ref a4, .int (nI nh)])), (a2, .inl (aT 0, 6, .inl (b 0))), (a3, .inl (aT 0, 6, .inl (b 1))), (a4, .inl (aT 0, 6, .inl (b 2))), (a10, .inl (aT 0, 4, .inl (b 7))), (a5, .inr (8, [.ref a6, .ref a7, .ref a8, .ref a9, .int (nI (n - 1)), .int (b 8 0)])), (a6, .inl (aT 0, 12, .inl (rmF (b 3) (q_5 + (i + 1)) n))), (a7, .inl (aT 0, 12, .inl (rmF (b 4) (q_5 + (i + 1)) n))), (a8, .inl (aT 0, 12, .inl (rmF (b 5) (q_5 + (i + 1)) n))), (a9, .inl (aT 0, 12, .inl (rmP (b 6) (q_5 + (i + 1)) n)))] A s.heap H _ := hW
          refine lv_iinc (v := (nI (u + 1))) (lv' := [(5, .int (nI (u + 1))), (6, .int (nI (q_5 + (i + 1)))), (4, .int (nI (dep (prM M) q_5 + v))), (3, .int (nI q_5)), (2, .int (nI v)), (1, .int x), (0, .ref a0)]) hx hb dX7_cutBack_113 hl (k := 1) rfl (nI_1 _) (by decide) rfl (fun ls hl => ?_)
          refine lv_iinc (v := (nI (q_5 + i))) (lv' := [(6, .int (nI (q_5 + i))), (5, .int (nI (u + 1))), (4, .int (nI (dep (prM M) q_5 + v))), (3, .int (nI q_5)), (2, .int (nI v)), (1, .int x), (0, .ref a0)]) hx hb dX7_cutBack_116 hl (k := 1) rfl (pd_1 (q_5 + i)) (by decide) rfl (fun ls hl => ?_)
          refine lv_goto (tgt := 52) hx hb dX7_cutBack_119 (by decide) ?_
          exact ih_52 (i, (bkO (b 0) (b 1) (b 2) (rmF (b 3) (q_5 + (i + 1)) n) (rmF (b 4) (q_5 + (i + 1)) n) (rmF (b 5) (q_5 + (i + 1)) n) (rmP (b 6) (q_5 + (i + 1)) n) (b 7) (b 8 0) (b 8 1) (b 8 2) (b 8 3) (b 8 4) ((b 8 5) + ((b 5) (q_5 + (i + 1)))) (b 8 6) (b 8 7) (b 8 8)), (n - 1), (u + 1), (dropF mm (q_5 + (i + 1)) n)) _ _ _ (by first | omega | (dsimp only; omega)) ⟨_, rfl, lv_sub hl [0, 1, 2, 3, 4, 5, 6] rfl, hW, ⟨hBl.cut hCl (by omega) (by rw [hxn]; exact prn_tip hpo c_68 c_82), (by rw [hxn]; exact hCl.drop (by omega) (prn_tip hpo c_68 c_82)), (by rw [hxn]; exact prn_drop hpo c_68 c_82), (by rw [← hpf, hxn]; exact (prnF_yes c_68 c_82).symm)⟩⟩
  · have hW : CxB D [(a0, .inr (10, [.ref a1, .ref a5, .ref a10, .int (bb 8 1), .int (bb 8 2), .int (bb 8 3), .int (bb 8 4), .int (bb 8 5), .int (bb 8 6), .int (bb 8 7), .int (bb 8 8)])), (a1, .inr (6, [.ref a2, .ref a3, .ref a4, .int (nI nh)])), (a2, .inl (aT 0, 6, .inl (bb 0))), (a3, .inl (aT 0, 6, .inl (bb 1))), (a4, .inl (aT 0, 6, .inl (bb 2))), (a5, .inr (8, [.ref a6, .ref a7, .ref a8, .ref a9, .int (nI nm), .int (bb 8 0)])), (a6, .inl (aT 0, 12, .inl (bb 3))), (a7, .inl (aT 0, 12, .inl (bb 4))), (a8, .inl (aT 0, 12, .inl (bb 5))), (a9, .inl (aT 0, 12, .inl (bb 6))), (a10, .inl (aT 0, 4, .inl (bb 7)))] A s.heap H _ := cx_drop hW [0, 1, 2, 3, 4, 6, 7, 8, 9, 10, 5] rfl (by decide)
    exact cx_throw C hfl hex hml hl.1 hlocks hZ hW at_X7_IllegalArgumentException (List.mem_of_getElem? (i := 5) rfl) gw_559 gw_86 (by decide +kernel) dX7_cutBack_16 dX7_cutBack_19 dX7_cutBack_20 dX7_cutBack_22 dX7_cutBack_25 ⟨Nat.le_of_ble_eq_true rfl, Nat.le_of_ble_eq_true rfl, Nat.le_of_ble_eq_true rfl, Nat.le_of_ble_eq_true rfl⟩ ⟨Nat.le_of_ble_eq_true rfl, Nat.le_of_ble_eq_true rfl⟩ (⟨Or.inr ⟨⟨q_5, (by rw [← hB.fnd_eq]; exact hq_5)⟩, rfl, c_13⟩, rfl⟩)
theorem dX7_bookOutcome_0 : decode cX7_bookOutcome 0 = .ok (.iload_n 1, 1) := by decide +kernel
theorem dX7_bookOutcome_1 : decode cX7_bookOutcome 1 = .ok (.bipush 118, 2) := by decide +kernel
theorem dX7_bookOutcome_3 : decode cX7_bookOutcome 3 = .ok (.if_icmp .ne 14, 3) := by decide +kernel
theorem dX7_bookOutcome_6 : decode cX7_bookOutcome 6 = .ok (.aload_n 0, 1) := by decide +kernel
theorem dX7_bookOutcome_7 : decode cX7_bookOutcome 7 = .ok (.dup, 1) := by decide +kernel
theorem dX7_bookOutcome_8 : decode cX7_bookOutcome 8 = .ok (.getfield 61, 3) := by decide +kernel
theorem dX7_bookOutcome_11 : decode cX7_bookOutcome 11 = .ok (.iload_n 2, 1) := by decide +kernel
theorem dX7_bookOutcome_12 : decode cX7_bookOutcome 12 = .ok (.iadd, 1) := by decide +kernel
theorem dX7_bookOutcome_13 : decode cX7_bookOutcome 13 = .ok (.putfield 61, 3) := by decide +kernel
theorem dX7_bookOutcome_16 : decode cX7_bookOutcome 16 = .ok (.return_, 1) := by decide +kernel
theorem dX7_bookOutcome_17 : decode cX7_bookOutcome 17 = .ok (.iload_n 1, 1) := by decide +kernel
theorem dX7_bookOutcome_18 : decode cX7_bookOutcome 18 = .ok (.bipush 114, 2) := by decide +kernel
theorem dX7_bookOutcome_20 : decode cX7_bookOutcome 20 = .ok (.if_icmp .ne 14, 3) := by decide +kernel
theorem dX7_bookOutcome_23 : decode cX7_bookOutcome 23 = .ok (.aload_n 0, 1) := by decide +kernel
theorem dX7_bookOutcome_24 : decode cX7_bookOutcome 24 = .ok (.dup, 1) := by decide +kernel
theorem dX7_bookOutcome_25 : decode cX7_bookOutcome 25 = .ok (.getfield 58, 3) := by decide +kernel
theorem dX7_bookOutcome_28 : decode cX7_bookOutcome 28 = .ok (.iload_n 2, 1) := by decide +kernel
theorem dX7_bookOutcome_29 : decode cX7_bookOutcome 29 = .ok (.iadd, 1) := by decide +kernel
theorem dX7_bookOutcome_30 : decode cX7_bookOutcome 30 = .ok (.putfield 58, 3) := by decide +kernel
theorem dX7_bookOutcome_33 : decode cX7_bookOutcome 33 = .ok (.return_, 1) := by decide +kernel
theorem dX7_bookOutcome_34 : decode cX7_bookOutcome 34 = .ok (.aload_n 0, 1) := by decide +kernel
theorem dX7_bookOutcome_35 : decode cX7_bookOutcome 35 = .ok (.dup, 1) := by decide +kernel
theorem dX7_bookOutcome_36 : decode cX7_bookOutcome 36 = .ok (.getfield 49, 3) := by decide +kernel
theorem dX7_bookOutcome_39 : decode cX7_bookOutcome 39 = .ok (.iconst 1, 1) := by decide +kernel
theorem dX7_bookOutcome_40 : decode cX7_bookOutcome 40 = .ok (.iadd, 1) := by decide +kernel
theorem dX7_bookOutcome_41 : decode cX7_bookOutcome 41 = .ok (.putfield 49, 3) := by decide +kernel
theorem dX7_bookOutcome_44 : decode cX7_bookOutcome 44 = .ok (.iload_n 3, 1) := by decide +kernel
theorem dX7_bookOutcome_45 : decode cX7_bookOutcome 45 = .ok (.ifCond .lt 19, 3) := by decide +kernel
theorem dX7_bookOutcome_48 : decode cX7_bookOutcome 48 = .ok (.aload_n 0, 1) := by decide +kernel
theorem dX7_bookOutcome_49 : decode cX7_bookOutcome 49 = .ok (.getfield 21, 3) := by decide +kernel
theorem dX7_bookOutcome_52 : decode cX7_bookOutcome 52 = .ok (.getfield 111, 3) := by decide +kernel
theorem dX7_bookOutcome_55 : decode cX7_bookOutcome 55 = .ok (.iload_n 3, 1) := by decide +kernel
theorem dX7_bookOutcome_56 : decode cX7_bookOutcome 56 = .ok (.dup2, 1) := by decide +kernel
theorem dX7_bookOutcome_57 : decode cX7_bookOutcome 57 = .ok (.iaload, 1) := by decide +kernel
theorem dX7_bookOutcome_58 : decode cX7_bookOutcome 58 = .ok (.iload_n 2, 1) := by decide +kernel
theorem dX7_bookOutcome_59 : decode cX7_bookOutcome 59 = .ok (.iadd, 1) := by decide +kernel
theorem dX7_bookOutcome_60 : decode cX7_bookOutcome 60 = .ok (.iastore, 1) := by decide +kernel
theorem dX7_bookOutcome_61 : decode cX7_bookOutcome 61 = .ok (.goto 26, 3) := by decide +kernel
theorem dX7_bookOutcome_64 : decode cX7_bookOutcome 64 = .ok (.aload_n 0, 1) := by decide +kernel
theorem dX7_bookOutcome_65 : decode cX7_bookOutcome 65 = .ok (.getfield 25, 3) := by decide +kernel
theorem dX7_bookOutcome_68 : decode cX7_bookOutcome 68 = .ok (.aload_n 0, 1) := by decide +kernel
theorem dX7_bookOutcome_69 : decode cX7_bookOutcome 69 = .ok (.getfield 29, 3) := by decide +kernel
theorem dX7_bookOutcome_72 : decode cX7_bookOutcome 72 = .ok (.dup2, 1) := by decide +kernel
theorem dX7_bookOutcome_73 : decode cX7_bookOutcome 73 = .ok (.iaload, 1) := by decide +kernel
theorem dX7_bookOutcome_74 : decode cX7_bookOutcome 74 = .ok (.iconst 1, 1) := by decide +kernel
theorem dX7_bookOutcome_75 : decode cX7_bookOutcome 75 = .ok (.iadd, 1) := by decide +kernel
theorem dX7_bookOutcome_76 : decode cX7_bookOutcome 76 = .ok (.iastore, 1) := by decide +kernel
theorem dX7_bookOutcome_77 : decode cX7_bookOutcome 77 = .ok (.aload_n 0, 1) := by decide +kernel
theorem dX7_bookOutcome_78 : decode cX7_bookOutcome 78 = .ok (.dup, 1) := by decide +kernel
theorem dX7_bookOutcome_79 : decode cX7_bookOutcome 79 = .ok (.getfield 64, 3) := by decide +kernel
theorem dX7_bookOutcome_82 : decode cX7_bookOutcome 82 = .ok (.iload_n 2, 1) := by decide +kernel
theorem dX7_bookOutcome_83 : decode cX7_bookOutcome 83 = .ok (.iadd, 1) := by decide +kernel
theorem dX7_bookOutcome_84 : decode cX7_bookOutcome 84 = .ok (.putfield 64, 3) := by decide +kernel
theorem dX7_bookOutcome_87 : decode cX7_bookOutcome 87 = .ok (.return_, 1) := by decide +kernel
set_option maxHeartbeats 2000000 in
set_option maxRecDepth 20000 in
theorem k_X7_book_v (l : Launch) (hfl : l.stackTraces = false) (D : va_G) (aT : Nat → ClassId) (a0 : Nat) (a1 : Nat) (a2 : Nat) (a3 : Nat) (a4 : Nat) (a5 : Nat) (a6 : Nat) (a7 : Nat) (a8 : Nat) (a9 : Nat) (a10 : Nat) (bb : Nat → Nat → Int32) (nh : Nat) (nm : Nat) (w : Int32) (po : Option Nat) : CxG l yX7_bookOutcome cX7_bookOutcome 4 none 0 0 0 0 D aT [.ref a0, .int (nI 118), .int w, .int (oi po)] [(a0, .inr (10, [.ref a1, .ref a5, .ref a10, .int (bb 8 1), .int (bb 8 2), .int (bb 8 3), .int (bb 8 4), .int (bb 8 5), .int (bb 8 6), .int (bb 8 7), .int (bb 8 8)])), (a1, .inr (6, [.ref a2, .ref a3, .ref a4, .int (nI nh)])), (a2, .inl (aT 0, 6, .inl (bb 0))), (a3, .inl (aT 0, 6, .inl (bb 1))), (a4, .inl (aT 0, 6, .inl (bb 2))), (a5, .inr (8, [.ref a6, .ref a7, .ref a8, .ref a9, .int (nI nm), .int (bb 8 0)])), (a6, .inl (aT 0, 12, .inl (bb 3))), (a7, .inl (aT 0, 12, .inl (bb 4))), (a8, .inl (aT 0, 12, .inl (bb 5))), (a9, .inl (aT 0, 12, .inl (bb 6))), (a10, .inl (aT 0, 4, .inl (bb 7)))] (qV D aT (fun W1 => W1 = [(a0, .inr (10, [.ref a1, .ref a5, .ref a10, .int (bb 8 1), .int (bb 8 2), .int (bb 8 3), .int (bb 8 4), .int (bb 8 5), .int (bb 8 6), .int ((bb 8 7) + w), .int (bb 8 8)])), (a1, .inr (6, [.ref a2, .ref a3, .ref a4, .int (nI nh)])), (a2, .inl (aT 0, 6, .inl (bb 0))), (a3, .inl (aT 0, 6, .inl (bb 1))), (a4, .inl (aT 0, 6, .inl (bb 2))), (a5, .inr (8, [.ref a6, .ref a7, .ref a8, .ref a9, .int (nI nm), .int (bb 8 0)])), (a6, .inl (aT 0, 12, .inl (bb 3))), (a7, .inl (aT 0, 12, .inl (bb 4))), (a8, .inl (aT 0, 12, .inl (bb 5))), (a9, .inl (aT 0, 12, .inl (bb 6))), (a10, .inl (aT 0, 4, .inl (bb 7)))])) (fun _ _ => False) := by
  refine CxG.of RX7 (by decide +kernel) rfl (Nat.le_of_ble_eq_true rfl) ?_
  intro p e s m below meth c A ls C hml hl hA hr hlocks hex hnm hZ hW
  have hl : lv_has ls 4 [(0, .ref a0), (1, .int (nI 118)), (2, .int w), (3, .int (oi po))] := hl
  have hx := C.1
  have hb := C.2.1
  refine lv_iload_n hx hb dX7_bookOutcome_0 rfl (lv_at hl 1 rfl) ?_
  refine lv_bipush (v := nI 118) hx hb dX7_bookOutcome_1 (by decide) ?_
  refine lv_icmp_ne hx hb (x := (nI 118)) (y := (nI 118)) (tgt := 17) dX7_bookOutcome_3 (by decide) (fun c_3 => ?_) (fun c_3 => ?_)
  · exact absurd rfl c_3
  · refine lv_aload_n hx hb dX7_bookOutcome_6 rfl (lv_at hl 0 rfl) ?_
    refine lv_dup hx hb dX7_bookOutcome_7 rfl ?_
    refine cx_get C hW 0 9 rfl rfl (by decide) inX7 gw_194 rfl rfl dX7_bookOutcome_8 ?_
    refine lv_iload_n hx hb dX7_bookOutcome_11 rfl (lv_at hl 2 rfl) ?_
    refine lv_iadd hx hb dX7_bookOutcome_12 ?_
    refine cx_put C hW 0 9 (W1 := [(a0, .inr (10, [.ref a1, .ref a5, .ref a10, .int (bb 8 1), .int (bb 8 2), .int (bb 8 3), .int (bb 8 4), .int (bb 8 5), .int (bb 8 6), .int ((bb 8 7) + w), .int (bb 8 8)])), (a1, .inr (6, [.ref a2, .ref a3, .ref a4, .int (nI nh)])), (a2, .inl (aT 0, 6, .inl (bb 0))), (a3, .inl (aT 0, 6, .inl (bb 1))), (a4, .inl (aT 0, 6, .inl (bb 2))), (a5, .inr (8, [.ref a6, .ref a7, .ref a8, .ref a9, .int (nI nm), .int (bb 8 0)])), (a6, .inl (aT 0, 12, .inl (bb 3))), (a7, .inl (aT 0, 12, .inl (bb 4))), (a8, .inl (aT 0, 12, .inl (bb 5))), (a9, .inl (aT 0, 12, .inl (bb 6))), (a10, .inl (aT 0, 4, .inl (bb 7)))]) rfl rfl (by decide) inX7 tyX7 tyX7_ok nmX7 gw_194 rfl rfl rfl rfl rfl (Nat.le_of_ble_eq_true rfl) rfl dX7_bookOutcome_13 (fun H locs hW => ?_)
    exact cx_vret C hr hlocks hW ⟨Nat.le_of_ble_eq_true rfl, Nat.le_of_ble_eq_true rfl⟩ (rfl) dX7_bookOutcome_16
set_option maxHeartbeats 2000000 in
set_option maxRecDepth 20000 in
theorem k_X7_book_r (l : Launch) (hfl : l.stackTraces = false) (D : va_G) (aT : Nat → ClassId) (a0 : Nat) (a1 : Nat) (a2 : Nat) (a3 : Nat) (a4 : Nat) (a5 : Nat) (a6 : Nat) (a7 : Nat) (a8 : Nat) (a9 : Nat) (a10 : Nat) (bb : Nat → Nat → Int32) (nh : Nat) (nm : Nat) (w : Int32) (po : Option Nat) : CxG l yX7_bookOutcome cX7_bookOutcome 4 none 0 0 0 0 D aT [.ref a0, .int (nI 114), .int w, .int (oi po)] [(a0, .inr (10, [.ref a1, .ref a5, .ref a10, .int (bb 8 1), .int (bb 8 2), .int (bb 8 3), .int (bb 8 4), .int (bb 8 5), .int (bb 8 6), .int (bb 8 7), .int (bb 8 8)])), (a1, .inr (6, [.ref a2, .ref a3, .ref a4, .int (nI nh)])), (a2, .inl (aT 0, 6, .inl (bb 0))), (a3, .inl (aT 0, 6, .inl (bb 1))), (a4, .inl (aT 0, 6, .inl (bb 2))), (a5, .inr (8, [.ref a6, .ref a7, .ref a8, .ref a9, .int (nI nm), .int (bb 8 0)])), (a6, .inl (aT 0, 12, .inl (bb 3))), (a7, .inl (aT 0, 12, .inl (bb 4))), (a8, .inl (aT 0, 12, .inl (bb 5))), (a9, .inl (aT 0, 12, .inl (bb 6))), (a10, .inl (aT 0, 4, .inl (bb 7)))] (qV D aT (fun W1 => W1 = [(a0, .inr (10, [.ref a1, .ref a5, .ref a10, .int (bb 8 1), .int (bb 8 2), .int (bb 8 3), .int (bb 8 4), .int (bb 8 5), .int ((bb 8 6) + w), .int (bb 8 7), .int (bb 8 8)])), (a1, .inr (6, [.ref a2, .ref a3, .ref a4, .int (nI nh)])), (a2, .inl (aT 0, 6, .inl (bb 0))), (a3, .inl (aT 0, 6, .inl (bb 1))), (a4, .inl (aT 0, 6, .inl (bb 2))), (a5, .inr (8, [.ref a6, .ref a7, .ref a8, .ref a9, .int (nI nm), .int (bb 8 0)])), (a6, .inl (aT 0, 12, .inl (bb 3))), (a7, .inl (aT 0, 12, .inl (bb 4))), (a8, .inl (aT 0, 12, .inl (bb 5))), (a9, .inl (aT 0, 12, .inl (bb 6))), (a10, .inl (aT 0, 4, .inl (bb 7)))])) (fun _ _ => False) := by
  refine CxG.of RX7 (by decide +kernel) rfl (Nat.le_of_ble_eq_true rfl) ?_
  intro p e s m below meth c A ls C hml hl hA hr hlocks hex hnm hZ hW
  have hl : lv_has ls 4 [(0, .ref a0), (1, .int (nI 114)), (2, .int w), (3, .int (oi po))] := hl
  have hx := C.1
  have hb := C.2.1
  refine lv_iload_n hx hb dX7_bookOutcome_0 rfl (lv_at hl 1 rfl) ?_
  refine lv_bipush (v := nI 118) hx hb dX7_bookOutcome_1 (by decide) ?_
  refine lv_icmp_ne hx hb (x := (nI 114)) (y := (nI 118)) (tgt := 17) dX7_bookOutcome_3 (by decide) (fun c_3 => ?_) (fun c_3 => ?_)
  · refine lv_iload_n hx hb dX7_bookOutcome_17 rfl (lv_at hl 1 rfl) ?_
    refine lv_bipush (v := nI 114) hx hb dX7_bookOutcome_18 (by decide) ?_
    refine lv_icmp_ne hx hb (x := (nI 114)) (y := (nI 114)) (tgt := 34) dX7_bookOutcome_20 (by decide) (fun c_20 => ?_) (fun c_20 => ?_)
    · exact absurd rfl c_20
    · refine lv_aload_n hx hb dX7_bookOutcome_23 rfl (lv_at hl 0 rfl) ?_
      refine lv_dup hx hb dX7_bookOutcome_24 rfl ?_
      refine cx_get C hW 0 8 rfl rfl (by decide) inX7 gw_193 rfl rfl dX7_bookOutcome_25 ?_
      refine lv_iload_n hx hb dX7_bookOutcome_28 rfl (lv_at hl 2 rfl) ?_
      refine lv_iadd hx hb dX7_bookOutcome_29 ?_
      refine cx_put C hW 0 8 (W1 := [(a0, .inr (10, [.ref a1, .ref a5, .ref a10, .int (bb 8 1), .int (bb 8 2), .int (bb 8 3), .int (bb 8 4), .int (bb 8 5), .int ((bb 8 6) + w), .int (bb 8 7), .int (bb 8 8)])), (a1, .inr (6, [.ref a2, .ref a3, .ref a4, .int (nI nh)])), (a2, .inl (aT 0, 6, .inl (bb 0))), (a3, .inl (aT 0, 6, .inl (bb 1))), (a4, .inl (aT 0, 6, .inl (bb 2))), (a5, .inr (8, [.ref a6, .ref a7, .ref a8, .ref a9, .int (nI nm), .int (bb 8 0)])), (a6, .inl (aT 0, 12, .inl (bb 3))), (a7, .inl (aT 0, 12, .inl (bb 4))), (a8, .inl (aT 0, 12, .inl (bb 5))), (a9, .inl (aT 0, 12, .inl (bb 6))), (a10, .inl (aT 0, 4, .inl (bb 7)))]) rfl rfl (by decide) inX7 tyX7 tyX7_ok nmX7 gw_193 rfl rfl rfl rfl rfl (Nat.le_of_ble_eq_true rfl) rfl dX7_bookOutcome_30 (fun H locs hW => ?_)
      exact cx_vret C hr hlocks hW ⟨Nat.le_of_ble_eq_true rfl, Nat.le_of_ble_eq_true rfl⟩ (rfl) dX7_bookOutcome_33
  · exact absurd c_3 (by decide)
set_option maxHeartbeats 2000000 in
set_option maxRecDepth 20000 in
theorem k_X7_book_c (l : Launch) (hfl : l.stackTraces = false) (D : va_G) (aT : Nat → ClassId) (a0 : Nat) (a1 : Nat) (a2 : Nat) (a3 : Nat) (a4 : Nat) (a5 : Nat) (a6 : Nat) (a7 : Nat) (a8 : Nat) (a9 : Nat) (a10 : Nat) (bb : Nat → Nat → Int32) (nh : Nat) (nm : Nat) (w : Int32) (po : Option Nat) (s0 : Nat) (hs0 : bb 8 1 = nI s0) (hs4 : s0 < 4) (hpo : ∀ j, po = some j → j < 12) : CxG l yX7_bookOutcome cX7_bookOutcome 4 none 0 0 0 0 D aT [.ref a0, .int (nI 99), .int w, .int (oi po)] [(a0, .inr (10, [.ref a1, .ref a5, .ref a10, .int (bb 8 1), .int (bb 8 2), .int (bb 8 3), .int (bb 8 4), .int (bb 8 5), .int (bb 8 6), .int (bb 8 7), .int (bb 8 8)])), (a1, .inr (6, [.ref a2, .ref a3, .ref a4, .int (nI nh)])), (a2, .inl (aT 0, 6, .inl (bb 0))), (a3, .inl (aT 0, 6, .inl (bb 1))), (a4, .inl (aT 0, 6, .inl (bb 2))), (a5, .inr (8, [.ref a6, .ref a7, .ref a8, .ref a9, .int (nI nm), .int (bb 8 0)])), (a6, .inl (aT 0, 12, .inl (bb 3))), (a7, .inl (aT 0, 12, .inl (bb 4))), (a8, .inl (aT 0, 12, .inl (bb 5))), (a9, .inl (aT 0, 12, .inl (bb 6))), (a10, .inl (aT 0, 4, .inl (bb 7)))] (qV D aT (fun W1 => (po = none ∧ W1 = [(a0, .inr (10, [.ref a1, .ref a5, .ref a10, .int (bb 8 1), .int (bb 8 2), .int (bb 8 3 + nI 1), .int (bb 8 4), .int (bb 8 5), .int (bb 8 6), .int (bb 8 7), .int (bb 8 8 + w)])), (a1, .inr (6, [.ref a2, .ref a3, .ref a4, .int (nI nh)])), (a2, .inl (aT 0, 6, .inl (bb 0))), (a3, .inl (aT 0, 6, .inl (bb 1))), (a4, .inl (aT 0, 6, .inl (bb 2))), (a5, .inr (8, [.ref a6, .ref a7, .ref a8, .ref a9, .int (nI nm), .int (bb 8 0)])), (a6, .inl (aT 0, 12, .inl (bb 3))), (a7, .inl (aT 0, 12, .inl (bb 4))), (a8, .inl (aT 0, 12, .inl (bb 5))), (a9, .inl (aT 0, 12, .inl (bb 6))), (a10, .inl (aT 0, 4, .inl (upd (bb 7) s0 ((bb 7) s0 + nI 1))))]) ∨ (∃ p, po = some p ∧ W1 = [(a0, .inr (10, [.ref a1, .ref a5, .ref a10, .int (bb 8 1), .int (bb 8 2), .int (bb 8 3 + nI 1), .int (bb 8 4), .int (bb 8 5), .int (bb 8 6), .int (bb 8 7), .int (bb 8 8)])), (a1, .inr (6, [.ref a2, .ref a3, .ref a4, .int (nI nh)])), (a2, .inl (aT 0, 6, .inl (bb 0))), (a3, .inl (aT 0, 6, .inl (bb 1))), (a4, .inl (aT 0, 6, .inl (bb 2))), (a5, .inr (8, [.ref a6, .ref a7, .ref a8, .ref a9, .int (nI nm), .int (bb 8 0)])), (a6, .inl (aT 0, 12, .inl (bb 3))), (a7, .inl (aT 0, 12, .inl (bb 4))), (a8, .inl (aT 0, 12, .inl (upd (bb 5) p ((bb 5) p + w)))), (a9, .inl (aT 0, 12, .inl (bb 6))), (a10, .inl (aT 0, 4, .inl (bb 7)))]))) (fun _ _ => False) := by
  refine CxG.of RX7 (by decide +kernel) rfl (Nat.le_of_ble_eq_true rfl) ?_
  intro p e s m below meth c A ls C hml hl hA hr hlocks hex hnm hZ hW
  have hl : lv_has ls 4 [(0, .ref a0), (1, .int (nI 99)), (2, .int w), (3, .int (oi po))] := hl
  have hx := C.1
  have hb := C.2.1
  refine lv_iload_n hx hb dX7_bookOutcome_0 rfl (lv_at hl 1 rfl) ?_
  refine lv_bipush (v := nI 118) hx hb dX7_bookOutcome_1 (by decide) ?_
  refine lv_icmp_ne hx hb (x := (nI 99)) (y := (nI 118)) (tgt := 17) dX7_bookOutcome_3 (by decide) (fun c_3 => ?_) (fun c_3 => ?_)
  · refine lv_iload_n hx hb dX7_bookOutcome_17 rfl (lv_at hl 1 rfl) ?_
    refine lv_bipush (v := nI 114) hx hb dX7_bookOutcome_18 (by decide) ?_
    refine lv_icmp_ne hx hb (x := (nI 99)) (y := (nI 114)) (tgt := 34) dX7_bookOutcome_20 (by decide) (fun c_20 => ?_) (fun c_20 => ?_)
    · refine lv_aload_n hx hb dX7_bookOutcome_34 rfl (lv_at hl 0 rfl) ?_
      refine lv_dup hx hb dX7_bookOutcome_35 rfl ?_
      refine cx_get C hW 0 5 rfl rfl (by decide) inX7 gw_189 rfl rfl dX7_bookOutcome_36 ?_
      refine lv_iconst (v := nI 1) hx hb dX7_bookOutcome_39 (by decide) ?_
      refine lv_iadd hx hb dX7_bookOutcome_40 ?_
      refine cx_put C hW 0 5 (W1 := [(a0, .inr (10, [.ref a1, .ref a5, .ref a10, .int (bb 8 1), .int (bb 8 2), .int ((bb 8 3) + (nI 1)), .int (bb 8 4), .int (bb 8 5), .int (bb 8 6), .int (bb 8 7), .int (bb 8 8)])), (a1, .inr (6, [.ref a2, .ref a3, .ref a4, .int (nI nh)])), (a2, .inl (aT 0, 6, .inl (bb 0))), (a3, .inl (aT 0, 6, .inl (bb 1))), (a4, .inl (aT 0, 6, .inl (bb 2))), (a5, .inr (8, [.ref a6, .ref a7, .ref a8, .ref a9, .int (nI nm), .int (bb 8 0)])), (a6, .inl (aT 0, 12, .inl (bb 3))), (a7, .inl (aT 0, 12, .inl (bb 4))), (a8, .inl (aT 0, 12, .inl (bb 5))), (a9, .inl (aT 0, 12, .inl (bb 6))), (a10, .inl (aT 0, 4, .inl (bb 7)))]) rfl rfl (by decide) inX7 tyX7 tyX7_ok nmX7 gw_189 rfl rfl rfl rfl rfl (Nat.le_of_ble_eq_true rfl) rfl dX7_bookOutcome_41 (fun H locs hW => ?_)
      refine lv_iload_n hx hb dX7_bookOutcome_44 rfl (lv_at hl 3 rfl) ?_
      refine r_oi_lt0 hx hb (o := po) (fun j hj => by have := hpo j hj; omega) (tgt := 64) dX7_bookOutcome_45 (by decide) (fun c_45 => ?_) (fun j_45 c_45 => ?_)
      · subst c_45
        have hl : lv_has ls 4 [(0, .ref a0), (1, .int (nI 99)), (2, .int w), (3, .int (-1))] := hl
        refine lv_aload_n hx hb dX7_bookOutcome_64 rfl (lv_at hl 0 rfl) ?_
        refine cx_get C hW 0 2 rfl rfl (by decide) inX7 gw_183 rfl rfl dX7_bookOutcome_65 ?_
        refine lv_aload_n hx hb dX7_bookOutcome_68 rfl (lv_at hl 0 rfl) ?_
        refine cx_get C hW 0 3 rfl rfl (by decide) inX7 gw_185 rfl rfl dX7_bookOutcome_69 ?_
        refine r_eq (y := (nI s0)) (hs0) ?_
        refine lv_dup2_11 hx hb dX7_bookOutcome_72 rfl rfl ?_
        refine cx_ald C hW 10 0 (j := s0) rfl rfl rfl (by first | omega | exact hpo _ rfl) (by decide) dX7_bookOutcome_73 ?_
        refine lv_iconst (v := nI 1) hx hb dX7_bookOutcome_74 (by decide) ?_
        refine lv_iadd hx hb dX7_bookOutcome_75 ?_
        refine cx_ast C hW 10 0 (j := s0) (W1 := [(a0, .inr (10, [.ref a1, .ref a5, .ref a10, .int (bb 8 1), .int (bb 8 2), .int ((bb 8 3) + (nI 1)), .int (bb 8 4), .int (bb 8 5), .int (bb 8 6), .int (bb 8 7), .int (bb 8 8)])), (a1, .inr (6, [.ref a2, .ref a3, .ref a4, .int (nI nh)])), (a2, .inl (aT 0, 6, .inl (bb 0))), (a3, .inl (aT 0, 6, .inl (bb 1))), (a4, .inl (aT 0, 6, .inl (bb 2))), (a5, .inr (8, [.ref a6, .ref a7, .ref a8, .ref a9, .int (nI nm), .int (bb 8 0)])), (a6, .inl (aT 0, 12, .inl (bb 3))), (a7, .inl (aT 0, 12, .inl (bb 4))), (a8, .inl (aT 0, 12, .inl (bb 5))), (a9, .inl (aT 0, 12, .inl (bb 6))), (a10, .inl (aT 0, 4, .inl (upd (bb 7) s0 ((((bb 7) s0) + (nI 1))))))]) rfl rfl rfl (by first | omega | exact hpo _ rfl) (by decide) rfl dX7_bookOutcome_76 (fun H locs hW => ?_)
        refine lv_aload_n hx hb dX7_bookOutcome_77 rfl (lv_at hl 0 rfl) ?_
        refine lv_dup hx hb dX7_bookOutcome_78 rfl ?_
        refine cx_get C hW 0 10 rfl rfl (by decide) inX7 gw_195 rfl rfl dX7_bookOutcome_79 ?_
        refine lv_iload_n hx hb dX7_bookOutcome_82 rfl (lv_at hl 2 rfl) ?_
        refine lv_iadd hx hb dX7_bookOutcome_83 ?_
        refine cx_put C hW 0 10 (W1 := [(a0, .inr (10, [.ref a1, .ref a5, .ref a10, .int (bb 8 1), .int (bb 8 2), .int ((bb 8 3) + (nI 1)), .int (bb 8 4), .int (bb 8 5), .int (bb 8 6), .int (bb 8 7), .int ((bb 8 8) + w)])), (a1, .inr (6, [.ref a2, .ref a3, .ref a4, .int (nI nh)])), (a2, .inl (aT 0, 6, .inl (bb 0))), (a3, .inl (aT 0, 6, .inl (bb 1))), (a4, .inl (aT 0, 6, .inl (bb 2))), (a5, .inr (8, [.ref a6, .ref a7, .ref a8, .ref a9, .int (nI nm), .int (bb 8 0)])), (a6, .inl (aT 0, 12, .inl (bb 3))), (a7, .inl (aT 0, 12, .inl (bb 4))), (a8, .inl (aT 0, 12, .inl (bb 5))), (a9, .inl (aT 0, 12, .inl (bb 6))), (a10, .inl (aT 0, 4, .inl (upd (bb 7) s0 ((((bb 7) s0) + (nI 1))))))]) rfl rfl (by decide) inX7 tyX7 tyX7_ok nmX7 gw_195 rfl rfl rfl rfl rfl (Nat.le_of_ble_eq_true rfl) rfl dX7_bookOutcome_84 (fun H locs hW => ?_)
        exact cx_vret C hr hlocks hW ⟨Nat.le_of_ble_eq_true rfl, Nat.le_of_ble_eq_true rfl⟩ (Or.inl ⟨rfl, rfl⟩) dX7_bookOutcome_87
      · subst c_45
        have hl : lv_has ls 4 [(0, .ref a0), (1, .int (nI 99)), (2, .int w), (3, .int (nI j_45))] := hl
        refine lv_aload_n hx hb dX7_bookOutcome_48 rfl (lv_at hl 0 rfl) ?_
        refine cx_get C hW 0 1 rfl rfl (by decide) inX7 gw_181 rfl rfl dX7_bookOutcome_49 ?_
        refine cx_getN C hZ hW 5 2 rfl rfl (by decide) inX5 nw_154 rfl rfl dX7_bookOutcome_52 ?_
        refine lv_iload_n hx hb dX7_bookOutcome_55 rfl (lv_at hl 3 rfl) ?_
        refine lv_dup2_11 hx hb dX7_bookOutcome_56 rfl rfl ?_
        refine cx_ald C hW 8 0 (j := j_45) rfl rfl rfl (by first | omega | exact hpo _ rfl) (by decide) dX7_bookOutcome_57 ?_
        refine lv_iload_n hx hb dX7_bookOutcome_58 rfl (lv_at hl 2 rfl) ?_
        refine lv_iadd hx hb dX7_bookOutcome_59 ?_
        refine cx_ast C hW 8 0 (j := j_45) (W1 := [(a0, .inr (10, [.ref a1, .ref a5, .ref a10, .int (bb 8 1), .int (bb 8 2), .int ((bb 8 3) + (nI 1)), .int (bb 8 4), .int (bb 8 5), .int (bb 8 6), .int (bb 8 7), .int (bb 8 8)])), (a1, .inr (6, [.ref a2, .ref a3, .ref a4, .int (nI nh)])), (a2, .inl (aT 0, 6, .inl (bb 0))), (a3, .inl (aT 0, 6, .inl (bb 1))), (a4, .inl (aT 0, 6, .inl (bb 2))), (a5, .inr (8, [.ref a6, .ref a7, .ref a8, .ref a9, .int (nI nm), .int (bb 8 0)])), (a6, .inl (aT 0, 12, .inl (bb 3))), (a7, .inl (aT 0, 12, .inl (bb 4))), (a8, .inl (aT 0, 12, .inl (upd (bb 5) j_45 ((((bb 5) j_45) + w))))), (a9, .inl (aT 0, 12, .inl (bb 6))), (a10, .inl (aT 0, 4, .inl (bb 7)))]) rfl rfl rfl (by first | omega | exact hpo _ rfl) (by decide) rfl dX7_bookOutcome_60 (fun H locs hW => ?_)
        refine lv_goto (tgt := 87) hx hb dX7_bookOutcome_61 (by decide) ?_
        exact cx_vret C hr hlocks hW ⟨Nat.le_of_ble_eq_true rfl, Nat.le_of_ble_eq_true rfl⟩ (Or.inr ⟨_, rfl, rfl⟩) dX7_bookOutcome_87
    · exact absurd c_20 (by decide)
  · exact absurd c_3 (by decide)
theorem dX7_holdVote_0 : decode cX7_holdVote 0 = .ok (.aload_n 0, 1) := by decide +kernel
theorem dX7_holdVote_1 : decode cX7_holdVote 1 = .ok (.getfield 21, 3) := by decide +kernel
theorem dX7_holdVote_4 : decode cX7_holdVote 4 = .ok (.iload_n 1, 1) := by decide +kernel
theorem dX7_holdVote_5 : decode cX7_holdVote 5 = .ok (.invokevirtual 101, 3) := by decide +kernel
theorem dX7_holdVote_8 : decode cX7_holdVote 8 = .ok (.istore_n 2, 1) := by decide +kernel
theorem dX7_holdVote_9 : decode cX7_holdVote 9 = .ok (.aload_n 0, 1) := by decide +kernel
theorem dX7_holdVote_10 : decode cX7_holdVote 10 = .ok (.getfield 12, 3) := by decide +kernel
theorem dX7_holdVote_13 : decode cX7_holdVote 13 = .ok (.getfield 136, 3) := by decide +kernel
theorem dX7_holdVote_16 : decode cX7_holdVote 16 = .ok (.ifCond .ne 13, 3) := by decide +kernel
theorem dX7_holdVote_19 : decode cX7_holdVote 19 = .ok (.new 82, 3) := by decide +kernel
theorem dX7_holdVote_22 : decode cX7_holdVote 22 = .ok (.dup, 1) := by decide +kernel
theorem dX7_holdVote_23 : decode cX7_holdVote 23 = .ok (.ldc 137, 2) := by decide +kernel
theorem dX7_holdVote_25 : decode cX7_holdVote 25 = .ok (.invokespecial 86, 3) := by decide +kernel
theorem dX7_holdVote_28 : decode cX7_holdVote 28 = .ok (.athrow, 1) := by decide +kernel
theorem dX7_holdVote_29 : decode cX7_holdVote 29 = .ok (.aload_n 0, 1) := by decide +kernel
theorem dX7_holdVote_30 : decode cX7_holdVote 30 = .ok (.getfield 21, 3) := by decide +kernel
theorem dX7_holdVote_33 : decode cX7_holdVote 33 = .ok (.iload_n 2, 1) := by decide +kernel
theorem dX7_holdVote_34 : decode cX7_holdVote 34 = .ok (.invokevirtual 139, 3) := by decide +kernel
theorem dX7_holdVote_37 : decode cX7_holdVote 37 = .ok (.ifCond .eq 13, 3) := by decide +kernel
theorem dX7_holdVote_40 : decode cX7_holdVote 40 = .ok (.new 82, 3) := by decide +kernel
theorem dX7_holdVote_43 : decode cX7_holdVote 43 = .ok (.dup, 1) := by decide +kernel
theorem dX7_holdVote_44 : decode cX7_holdVote 44 = .ok (.ldc 142, 2) := by decide +kernel
theorem dX7_holdVote_46 : decode cX7_holdVote 46 = .ok (.invokespecial 86, 3) := by decide +kernel
theorem dX7_holdVote_49 : decode cX7_holdVote 49 = .ok (.athrow, 1) := by decide +kernel
theorem dX7_holdVote_50 : decode cX7_holdVote 50 = .ok (.aload_n 0, 1) := by decide +kernel
theorem dX7_holdVote_51 : decode cX7_holdVote 51 = .ok (.getfield 12, 3) := by decide +kernel
theorem dX7_holdVote_54 : decode cX7_holdVote 54 = .ok (.aload_n 0, 1) := by decide +kernel
theorem dX7_holdVote_55 : decode cX7_holdVote 55 = .ok (.getfield 21, 3) := by decide +kernel
theorem dX7_holdVote_58 : decode cX7_holdVote 58 = .ok (.getfield 108, 3) := by decide +kernel
theorem dX7_holdVote_61 : decode cX7_holdVote 61 = .ok (.iload_n 2, 1) := by decide +kernel
theorem dX7_holdVote_62 : decode cX7_holdVote 62 = .ok (.iaload, 1) := by decide +kernel
theorem dX7_holdVote_63 : decode cX7_holdVote 63 = .ok (.invokevirtual 144, 3) := by decide +kernel
theorem dX7_holdVote_66 : decode cX7_holdVote 66 = .ok (.istore_n 3, 1) := by decide +kernel
theorem dX7_holdVote_67 : decode cX7_holdVote 67 = .ok (.aload_n 0, 1) := by decide +kernel
theorem dX7_holdVote_68 : decode cX7_holdVote 68 = .ok (.dup, 1) := by decide +kernel
theorem dX7_holdVote_69 : decode cX7_holdVote 69 = .ok (.getfield 46, 3) := by decide +kernel
theorem dX7_holdVote_72 : decode cX7_holdVote 72 = .ok (.iconst 1, 1) := by decide +kernel
theorem dX7_holdVote_73 : decode cX7_holdVote 73 = .ok (.iadd, 1) := by decide +kernel
theorem dX7_holdVote_74 : decode cX7_holdVote 74 = .ok (.putfield 46, 3) := by decide +kernel
theorem dX7_holdVote_77 : decode cX7_holdVote 77 = .ok (.aload_n 0, 1) := by decide +kernel
theorem dX7_holdVote_78 : decode cX7_holdVote 78 = .ok (.iload_n 3, 1) := by decide +kernel
theorem dX7_holdVote_79 : decode cX7_holdVote 79 = .ok (.aload_n 0, 1) := by decide +kernel
theorem dX7_holdVote_80 : decode cX7_holdVote 80 = .ok (.getfield 21, 3) := by decide +kernel
theorem dX7_holdVote_83 : decode cX7_holdVote 83 = .ok (.getfield 111, 3) := by decide +kernel
theorem dX7_holdVote_86 : decode cX7_holdVote 86 = .ok (.iload_n 2, 1) := by decide +kernel
theorem dX7_holdVote_87 : decode cX7_holdVote 87 = .ok (.iaload, 1) := by decide +kernel
theorem dX7_holdVote_88 : decode cX7_holdVote 88 = .ok (.aload_n 0, 1) := by decide +kernel
theorem dX7_holdVote_89 : decode cX7_holdVote 89 = .ok (.getfield 21, 3) := by decide +kernel
theorem dX7_holdVote_92 : decode cX7_holdVote 92 = .ok (.getfield 148, 3) := by decide +kernel
theorem dX7_holdVote_95 : decode cX7_holdVote 95 = .ok (.iload_n 2, 1) := by decide +kernel
theorem dX7_holdVote_96 : decode cX7_holdVote 96 = .ok (.iaload, 1) := by decide +kernel
theorem dX7_holdVote_97 : decode cX7_holdVote 97 = .ok (.invokevirtual 151, 3) := by decide +kernel
theorem dX7_holdVote_100 : decode cX7_holdVote 100 = .ok (.aload_n 0, 1) := by decide +kernel
theorem dX7_holdVote_101 : decode cX7_holdVote 101 = .ok (.getfield 21, 3) := by decide +kernel
theorem dX7_holdVote_104 : decode cX7_holdVote 104 = .ok (.iload_n 2, 1) := by decide +kernel
theorem dX7_holdVote_105 : decode cX7_holdVote 105 = .ok (.invokevirtual 132, 3) := by decide +kernel
theorem dX7_holdVote_108 : decode cX7_holdVote 108 = .ok (.iload_n 3, 1) := by decide +kernel
theorem dX7_holdVote_109 : decode cX7_holdVote 109 = .ok (.ireturn, 1) := by decide +kernel
theorem gV_X7_X5_hasAmendments_139 : GoodIn gw (wsV RX7 139 RX5 yX5_hasAmendments (Cond.code yX5_hasAmendments cX5_hasAmendments 3 (some .boolean) :: gw)) := gdV gw_770 gw_754 gw_755 gw_70 gw_756
theorem gV_X7_X2_decideOn_144 : GoodIn gw (wsV RX7 144 RX2 yX2_decideOn (Cond.code yX2_decideOn cX2_decideOn 4 (some .char) :: gw)) := gdV gw_772 gw_773 gw_774 gw_69 gw_775
theorem hV_X2_decideOn : yX2_decideOn.cls = RX2 ∧ yX2_decideOn.cls ≠ "java/lang/invoke/MethodHandle" ∧ yX2_decideOn.cls ≠ "java/lang/invoke/VarHandle" ∧ (parseMethodDescriptor yX2_decideOn.desc).map (fun d => d.parameters.length) = some 1 := ⟨rfl, by decide +kernel, by decide +kernel, by decide +kernel⟩
theorem gV_X7_X7_bookOutcome_151 : GoodIn gw (wsV RX7 151 RX7 yX7_bookOutcome (Cond.code yX7_bookOutcome cX7_bookOutcome 4 (none) :: gw)) := gdV gw_792 gw_794 gw_5 gw_68 gw_795
theorem hV_X7_bookOutcome : yX7_bookOutcome.cls = RX7 ∧ yX7_bookOutcome.cls ≠ "java/lang/invoke/MethodHandle" ∧ yX7_bookOutcome.cls ≠ "java/lang/invoke/VarHandle" ∧ (parseMethodDescriptor yX7_bookOutcome.desc).map (fun d => d.parameters.length) = some 3 := ⟨rfl, by decide +kernel, by decide +kernel, by decide +kernel⟩
set_option maxHeartbeats 2000000 in
set_option maxRecDepth 20000 in
theorem k_X7_holdVote (l : Launch) (hfl : l.stackTraces = false) (D : va_G) (aT : Nat → ClassId) (a0 : Nat) (a1 : Nat) (a2 : Nat) (a3 : Nat) (a4 : Nat) (a5 : Nat) (a6 : Nat) (a7 : Nat) (a8 : Nat) (a9 : Nat) (a10 : Nat) (bb : Nat → Nat → Int32) (nh : Nat) (nm : Nat) (M : Nat → Int32) (Bd : Nat) (hBd : Bd < 1048000) (hC : CoW M Bd) (hB : BlC bb nh nm M) (x : Int32) (s0 : Nat) (hs0 : bb 8 1 = nI s0) (hs4 : s0 < 4) : CxG l yX7_holdVote cX7_holdVote 4 (some (.char)) 7 2 12 112 D aT [.ref a0, .int x] [(a0, .inr (10, [.ref a1, .ref a5, .ref a10, .int (bb 8 1), .int (bb 8 2), .int (bb 8 3), .int (bb 8 4), .int (bb 8 5), .int (bb 8 6), .int (bb 8 7), .int (bb 8 8)])), (a1, .inr (6, [.ref a2, .ref a3, .ref a4, .int (nI nh)])), (a2, .inl (aT 0, 6, .inl (bb 0))), (a3, .inl (aT 0, 6, .inl (bb 1))), (a4, .inl (aT 0, 6, .inl (bb 2))), (a5, .inr (8, [.ref a6, .ref a7, .ref a8, .ref a9, .int (nI nm), .int (bb 8 0)])), (a6, .inl (aT 0, 12, .inl (bb 3))), (a7, .inl (aT 0, 12, .inl (bb 4))), (a8, .inl (aT 0, 12, .inl (bb 5))), (a9, .inl (aT 0, 12, .inl (bb 6))), (a10, .inl (aT 0, 4, .inl (bb 7)))] (qI D aT (fun r W1 => ∃ (q : Nat) (b2 : Nat → Nat → Int32), (fnd (fun k => M (29 + 4 * k)) x nm = some q ∧ 0 < nh ∧ tipB (prM M) q nm = true ∧ r = nI (votC M q)) ∧ BlC b2 nh (nm - 1) (votF M q) ∧ W1 = [(a0, .inr (10, [.ref a1, .ref a5, .ref a10, .int (b2 8 1), .int (b2 8 2), .int (b2 8 3), .int (b2 8 4), .int (b2 8 5), .int (b2 8 6), .int (b2 8 7), .int (b2 8 8)])), (a1, .inr (6, [.ref a2, .ref a3, .ref a4, .int (nI nh)])), (a2, .inl (aT 0, 6, .inl (b2 0))), (a3, .inl (aT 0, 6, .inl (b2 1))), (a4, .inl (aT 0, 6, .inl (b2 2))), (a5, .inr (8, [.ref a6, .ref a7, .ref a8, .ref a9, .int (nI (nm - 1)), .int (b2 8 0)])), (a6, .inl (aT 0, 12, .inl (b2 3))), (a7, .inl (aT 0, 12, .inl (b2 4))), (a8, .inl (aT 0, 12, .inl (b2 5))), (a9, .inl (aT 0, 12, .inl (b2 6))), (a10, .inl (aT 0, 4, .inl (b2 7)))])) (fun E W1 => ((E = "java/util/NoSuchElementException" ∧ fnd (fun k => M (29 + 4 * k)) x nm = none) ∨ (∃ q, fnd (fun k => M (29 + 4 * k)) x nm = some q ∧ E = "java/lang/IllegalStateException" ∧ (nh = 0 ∨ tipB (prM M) q nm = false))) ∧ W1 = [(a0, .inr (10, [.ref a1, .ref a5, .ref a10, .int (bb 8 1), .int (bb 8 2), .int (bb 8 3), .int (bb 8 4), .int (bb 8 5), .int (bb 8 6), .int (bb 8 7), .int (bb 8 8)])), (a1, .inr (6, [.ref a2, .ref a3, .ref a4, .int (nI nh)])), (a2, .inl (aT 0, 6, .inl (bb 0))), (a3, .inl (aT 0, 6, .inl (bb 1))), (a4, .inl (aT 0, 6, .inl (bb 2))), (a5, .inr (8, [.ref a6, .ref a7, .ref a8, .ref a9, .int (nI nm), .int (bb 8 0)])), (a6, .inl (aT 0, 12, .inl (bb 3))), (a7, .inl (aT 0, 12, .inl (bb 4))), (a8, .inl (aT 0, 12, .inl (bb 5))), (a9, .inl (aT 0, 12, .inl (bb 6))), (a10, .inl (aT 0, 4, .inl (bb 7)))]) := by
  have hH := hB.he hC
  have hO := hB.mo hC
  refine CxG.of RX7 (by decide +kernel) rfl (Nat.le_of_ble_eq_true rfl) ?_
  intro p e s m below meth c A ls C hml hl hA hr hlocks hex hnm hZ hW
  have hl : lv_has ls 4 [(0, .ref a0), (1, .int x)] := hl
  have hx := C.1
  have hb := C.2.1
  refine lv_aload_n hx hb dX7_holdVote_0 rfl (lv_at hl 0 rfl) ?_
  refine cx_get C hW 0 1 rfl rfl (by decide) inX7 gw_181 rfl rfl dX7_holdVote_1 ?_
  refine lv_iload_n hx hb dX7_holdVote_4 rfl (lv_at hl 1 rfl) ?_
  refine cx_calli (Wr := [(a0, .inr (10, [.ref a1, .ref a5, .ref a10, .int (bb 8 1), .int (bb 8 2), .int (bb 8 3), .int (bb 8 4), .int (bb 8 5), .int (bb 8 6), .int (bb 8 7), .int (bb 8 8)])), (a1, .inr (6, [.ref a2, .ref a3, .ref a4, .int (nI nh)])), (a2, .inl (aT 0, 6, .inl (bb 0))), (a3, .inl (aT 0, 6, .inl (bb 1))), (a4, .inl (aT 0, 6, .inl (bb 2))), (a10, .inl (aT 0, 4, .inl (bb 7)))]) (cx_runV C hml hl.1 hZ hW hA (As := [.int x]) (rest := []) (k_X5_require l hfl D aT a5 a6 a7 a8 a9 (bb 3) (bb 4) (bb 5) (bb 6) nm (bb 8 0) hO.1 x) gV_X7_X5_require_101 hV_X5_require rfl ⟨Nat.le_of_ble_eq_true rfl, Nat.le_of_ble_eq_true rfl⟩ ⟨Nat.le_of_ble_eq_true rfl, Nat.le_of_ble_eq_true rfl⟩ [5, 6, 7, 8, 9] rfl (by decide) 5 8 rfl rfl rfl rfl (Nat.le_of_ble_eq_true rfl) dX7_holdVote_5) hW hA [5, 6, 7, 8, 9] [0, 1, 2, 3, 4, 10] rfl rfl (by decide) (by decide) (fun E ce q9 W9 H9 locs9 hE hW9 h7 h8 h9 => by
      obtain ⟨hE1, hE2, rfl⟩ := hE
      exact cx_out C hex hlocks (Wd := [(a0, .inr (10, [.ref a1, .ref a5, .ref a10, .int (bb 8 1), .int (bb 8 2), .int (bb 8 3), .int (bb 8 4), .int (bb 8 5), .int (bb 8 6), .int (bb 8 7), .int (bb 8 8)])), (a1, .inr (6, [.ref a2, .ref a3, .ref a4, .int (nI nh)])), (a2, .inl (aT 0, 6, .inl (bb 0))), (a3, .inl (aT 0, 6, .inl (bb 1))), (a4, .inl (aT 0, 6, .inl (bb 2))), (a5, .inr (8, [.ref a6, .ref a7, .ref a8, .ref a9, .int (nI nm), .int (bb 8 0)])), (a6, .inl (aT 0, 12, .inl (bb 3))), (a7, .inl (aT 0, 12, .inl (bb 4))), (a8, .inl (aT 0, 12, .inl (bb 5))), (a9, .inl (aT 0, 12, .inl (bb 6))), (a10, .inl (aT 0, 4, .inl (bb 7)))]) (cx_drop hW9 [0, 1, 2, 3, 4, 6, 7, 8, 9, 10, 5] rfl (by decide)) h7 h8 h9 ⟨Nat.le_of_ble_eq_true rfl, Nat.le_of_ble_eq_true rfl⟩ (⟨Or.inl ⟨hE1, (by rw [← hB.fnd_eq]; exact hE2)⟩, rfl⟩)) (fun r_5 W_5 H locs hq hW => ?_)
  obtain ⟨⟨q_5, hq_5, hqn_5, rfl⟩, rfl⟩ := hq
  have hW : CxB D [(a0, .inr (10, [.ref a1, .ref a5, .ref a10, .int (bb 8 1), .int (bb 8 2), .int (bb 8 3), .int (bb 8 4), .int (bb 8 5), .int (bb 8 6), .int (bb 8 7), .int (bb 8 8)])), (a1, .inr (6, [.ref a2, .ref a3, .ref a4, .int (nI nh)])), (a2, .inl (aT 0, 6, .inl (bb 0))), (a3, .inl (aT 0, 6, .inl (bb 1))), (a4, .inl (aT 0, 6, .inl (bb 2))), (a10, .inl (aT 0, 4, .inl (bb 7))), (a5, .inr (8, [.ref a6, .ref a7, .ref a8, .ref a9, .int (nI nm), .int (bb 8 0)])), (a6, .inl (aT 0, 12, .inl (bb 3))), (a7, .inl (aT 0, 12, .inl (bb 4))), (a8, .inl (aT 0, 12, .inl (bb 5))), (a9, .inl (aT 0, 12, .inl (bb 6)))] A s.heap H _ := hW
  refine lv_istore_n (lv' := [(2, .int (nI q_5)), (0, .ref a0), (1, .int x)]) hx hb dX7_holdVote_8 rfl hl (by decide) rfl (fun ls hl => ?_)
  refine lv_aload_n hx hb dX7_holdVote_9 rfl (lv_at hl 1 rfl) ?_
  refine cx_get C hW 0 0 rfl rfl (by decide) inX7 gw_179 rfl rfl dX7_holdVote_10 ?_
  refine cx_getN C hZ hW 1 3 rfl rfl (by decide) inX2 nw_131 rfl rfl dX7_holdVote_13 ?_
  refine r_ifneN hx hb (a := nh) (by have := hH.1; omega) (tgt := 29) dX7_holdVote_16 (by decide) (fun c_16 => ?_) (fun c_16 => ?_)
  · refine lv_aload_n hx hb dX7_holdVote_29 rfl (lv_at hl 1 rfl) ?_
    refine cx_get C hW 0 1 rfl rfl (by decide) inX7 gw_181 rfl rfl dX7_holdVote_30 ?_
    refine lv_iload_n hx hb dX7_holdVote_33 rfl (lv_at hl 0 rfl) ?_
    refine cx_calli (Wr := [(a0, .inr (10, [.ref a1, .ref a5, .ref a10, .int (bb 8 1), .int (bb 8 2), .int (bb 8 3), .int (bb 8 4), .int (bb 8 5), .int (bb 8 6), .int (bb 8 7), .int (bb 8 8)])), (a1, .inr (6, [.ref a2, .ref a3, .ref a4, .int (nI nh)])), (a2, .inl (aT 0, 6, .inl (bb 0))), (a3, .inl (aT 0, 6, .inl (bb 1))), (a4, .inl (aT 0, 6, .inl (bb 2))), (a10, .inl (aT 0, 4, .inl (bb 7)))]) (cx_runV C hml hl.1 hZ hW hA (As := [.int (nI q_5)]) (rest := []) (k_X5_hasAmendments l hfl D aT a5 a6 a7 a8 a9 (bb 3) (bb 4) (bb 5) (bb 6) nm (bb 8 0) (idM M) (prM M) (tnM M) hO q_5 hqn_5) gV_X7_X5_hasAmendments_139 hV_X5_hasAmendments rfl ⟨Nat.le_of_ble_eq_true rfl, Nat.le_of_ble_eq_true rfl⟩ ⟨Nat.le_of_ble_eq_true rfl, Nat.le_of_ble_eq_true rfl⟩ [6, 7, 8, 9, 10] rfl (by decide) 6 8 rfl rfl rfl rfl (Nat.le_of_ble_eq_true rfl) dX7_holdVote_34) hW hA [6, 7, 8, 9, 10] [0, 1, 2, 3, 4, 5] rfl rfl (by decide) (by decide) (fun _ _ _ _ _ _ h9 => h9.elim) (fun r_34 W_34 H locs hq hW => ?_)
    obtain ⟨rfl, rfl⟩ := hq
    have hW : CxB D [(a0, .inr (10, [.ref a1, .ref a5, .ref a10, .int (bb 8 1), .int (bb 8 2), .int (bb 8 3), .int (bb 8 4), .int (bb 8 5), .int (bb 8 6), .int (bb 8 7), .int (bb 8 8)])), (a1, .inr (6, [.ref a2, .ref a3, .ref a4, .int (nI nh)])), (a2, .inl (aT 0, 6, .inl (bb 0))), (a3, .inl (aT 0, 6, .inl (bb 1))), (a4, .inl (aT 0, 6, .inl (bb 2))), (a10, .inl (aT 0, 4, .inl (bb 7))), (a5, .inr (8, [.ref a6, .ref a7, .ref a8, .ref a9, .int (nI nm), .int (bb 8 0)])), (a6, .inl (aT 0, 12, .inl (bb 3))), (a7, .inl (aT 0, 12, .inl (bb 4))), (a8, .inl (aT 0, 12, .inl (bb 5))), (a9, .inl (aT 0, 12, .inl (bb 6)))] A s.heap H _ := hW
    refine r_bI_eq hx hb (b := (!tipB (prM M) q_5 nm)) (tgt := 50) dX7_holdVote_37 (by decide) (fun c_37 => ?_) (fun c_37 => ?_)
    · refine lv_aload_n hx hb dX7_holdVote_50 rfl (lv_at hl 1 rfl) ?_
      refine cx_get C hW 0 0 rfl rfl (by decide) inX7 gw_179 rfl rfl dX7_holdVote_51 ?_
      refine lv_aload_n hx hb dX7_holdVote_54 rfl (lv_at hl 1 rfl) ?_
      refine cx_get C hW 0 1 rfl rfl (by decide) inX7 gw_181 rfl rfl dX7_holdVote_55 ?_
      refine cx_getN C hZ hW 6 1 rfl rfl (by decide) inX5 nw_151 rfl rfl dX7_holdVote_58 ?_
      refine lv_iload_n hx hb dX7_holdVote_61 rfl (lv_at hl 0 rfl) ?_
      refine cx_ald C hW 8 0 (j := q_5) rfl rfl rfl (by have := hO.1; omega) (by decide) dX7_holdVote_62 ?_
      refine r_eq (y := (nI (tnM M q_5))) ((hO.2.2.2.2.2 q_5 (by first | assumption | omega)).1) ?_
      refine cx_calli (Wr := [(a0, .inr (10, [.ref a1, .ref a5, .ref a10, .int (bb 8 1), .int (bb 8 2), .int (bb 8 3), .int (bb 8 4), .int (bb 8 5), .int (bb 8 6), .int (bb 8 7), .int (bb 8 8)])), (a10, .inl (aT 0, 4, .inl (bb 7))), (a5, .inr (8, [.ref a6, .ref a7, .ref a8, .ref a9, .int (nI nm), .int (bb 8 0)])), (a6, .inl (aT 0, 12, .inl (bb 3))), (a7, .inl (aT 0, 12, .inl (bb 4))), (a8, .inl (aT 0, 12, .inl (bb 5))), (a9, .inl (aT 0, 12, .inl (bb 6)))]) (cx_runV C hml hl.1 hZ hW hA (As := [.int (nI (tnM M q_5))]) (rest := []) (k_X2_decideOn l hfl D aT a1 a2 a3 a4 (bb 0) (bb 1) (bb 2) nh (lvM M) (thM M) (taM M) hH (tnM M q_5) (by have := (hO.2.2.2.2.2 q_5 hqn_5).2; omega)) gV_X7_X2_decideOn_144 hV_X2_decideOn rfl ⟨Nat.le_of_ble_eq_true rfl, Nat.le_of_ble_eq_true rfl⟩ ⟨Nat.le_of_ble_eq_true rfl, Nat.le_of_ble_eq_true rfl⟩ [1, 2, 3, 4] rfl (by decide) 1 6 rfl rfl rfl rfl (Nat.le_of_ble_eq_true rfl) dX7_holdVote_63) hW hA [1, 2, 3, 4] [0, 5, 6, 7, 8, 9, 10] rfl rfl (by decide) (by decide) (fun _ _ _ _ _ _ h9 => h9.elim) (fun r_63 W_63 H locs hq hW => ?_)
      obtain ⟨fT_63, hv_63, hq, rfl⟩ := hq
      rcases hq with ⟨ga_63, rfl⟩ | ⟨ga_63, gc_63, rfl⟩ | ⟨ga_63, gc_63, rfl⟩
      · have hW : CxB D [(a0, .inr (10, [.ref a1, .ref a5, .ref a10, .int (bb 8 1), .int (bb 8 2), .int (bb 8 3), .int (bb 8 4), .int (bb 8 5), .int (bb 8 6), .int (bb 8 7), .int (bb 8 8)])), (a10, .inl (aT 0, 4, .inl (bb 7))), (a5, .inr (8, [.ref a6, .ref a7, .ref a8, .ref a9, .int (nI nm), .int (bb 8 0)])), (a6, .inl (aT 0, 12, .inl (bb 3))), (a7, .inl (aT 0, 12, .inl (bb 4))), (a8, .inl (aT 0, 12, .inl (bb 5))), (a9, .inl (aT 0, 12, .inl (bb 6))), (a1, .inr (6, [.ref a2, .ref a3, .ref a4, .int (nI nh)])), (a2, .inl (aT 0, 6, .inl (bb 0))), (a3, .inl (aT 0, 6, .inl fT_63)), (a4, .inl (aT 0, 6, .inl (bb 2)))] A s.heap H _ := hW
        refine lv_istore_n (lv' := [(3, .int (nI 118)), (2, .int (nI q_5)), (0, .ref a0), (1, .int x)]) hx hb dX7_holdVote_66 rfl hl (by decide) rfl (fun ls hl => ?_)
        refine lv_aload_n hx hb dX7_holdVote_67 rfl (lv_at hl 2 rfl) ?_
        refine lv_dup hx hb dX7_holdVote_68 rfl ?_
        refine cx_get C hW 0 4 rfl rfl (by decide) inX7 gw_187 rfl rfl dX7_holdVote_69 ?_
        refine lv_iconst (v := nI 1) hx hb dX7_holdVote_72 (by decide) ?_
        refine lv_iadd hx hb dX7_holdVote_73 ?_
        refine cx_put C hW 0 4 (W1 := [(a0, .inr (10, [.ref a1, .ref a5, .ref a10, .int (bb 8 1), .int ((bb 8 2) + (nI 1)), .int (bb 8 3), .int (bb 8 4), .int (bb 8 5), .int (bb 8 6), .int (bb 8 7), .int (bb 8 8)])), (a10, .inl (aT 0, 4, .inl (bb 7))), (a5, .inr (8, [.ref a6, .ref a7, .ref a8, .ref a9, .int (nI nm), .int (bb 8 0)])), (a6, .inl (aT 0, 12, .inl (bb 3))), (a7, .inl (aT 0, 12, .inl (bb 4))), (a8, .inl (aT 0, 12, .inl (bb 5))), (a9, .inl (aT 0, 12, .inl (bb 6))), (a1, .inr (6, [.ref a2, .ref a3, .ref a4, .int (nI nh)])), (a2, .inl (aT 0, 6, .inl (bb 0))), (a3, .inl (aT 0, 6, .inl fT_63)), (a4, .inl (aT 0, 6, .inl (bb 2)))]) rfl rfl (by decide) inX7 tyX7 tyX7_ok nmX7 gw_187 rfl rfl rfl rfl rfl (Nat.le_of_ble_eq_true rfl) rfl dX7_holdVote_74 (fun H locs hW => ?_)
        refine lv_aload_n hx hb dX7_holdVote_77 rfl (lv_at hl 2 rfl) ?_
        refine lv_iload_n hx hb dX7_holdVote_78 rfl (lv_at hl 0 rfl) ?_
        refine lv_aload_n hx hb dX7_holdVote_79 rfl (lv_at hl 2 rfl) ?_
        refine cx_get C hW 0 1 rfl rfl (by decide) inX7 gw_181 rfl rfl dX7_holdVote_80 ?_
        refine cx_getN C hZ hW 2 2 rfl rfl (by decide) inX5 nw_154 rfl rfl dX7_holdVote_83 ?_
        refine lv_iload_n hx hb dX7_holdVote_86 rfl (lv_at hl 1 rfl) ?_
        refine cx_ald C hW 5 0 (j := q_5) rfl rfl rfl (by have := hO.1; omega) (by decide) dX7_holdVote_87 ?_
        refine lv_aload_n hx hb dX7_holdVote_88 rfl (lv_at hl 2 rfl) ?_
        refine cx_get C hW 0 1 rfl rfl (by decide) inX7 gw_181 rfl rfl dX7_holdVote_89 ?_
        refine cx_getN C hZ hW 2 3 rfl rfl (by decide) inX5 nw_159 rfl rfl dX7_holdVote_92 ?_
        refine lv_iload_n hx hb dX7_holdVote_95 rfl (lv_at hl 1 rfl) ?_
        refine cx_ald C hW 6 0 (j := q_5) rfl rfl rfl (by have := hO.1; omega) (by decide) dX7_holdVote_96 ?_
        refine r_eq (y := (oi (prM M q_5))) (hO.2.2.1 q_5 (by first | assumption | omega)) ?_
        refine cx_callv (Wr := []) (cx_runV C hml hl.1 hZ hW hA (As := [.int (nI 118), .int ((bb 5) q_5), .int (oi (prM M q_5))]) (rest := []) (k_X7_book_v l hfl D aT a0 a1 a2 a3 a4 a5 a6 a7 a8 a9 a10 (bkO (bb 0) fT_63 (bb 2) (bb 3) (bb 4) (bb 5) (bb 6) (bb 7) (bb 8 0) (bb 8 1) ((bb 8 2) + (nI 1)) (bb 8 3) (bb 8 4) (bb 8 5) (bb 8 6) (bb 8 7) (bb 8 8)) nh nm ((bb 5) q_5) (prM M q_5)) gV_X7_X7_bookOutcome_151 hV_X7_bookOutcome rfl ⟨Nat.le_of_ble_eq_true rfl, Nat.le_of_ble_eq_true rfl⟩ ⟨Nat.le_of_ble_eq_true rfl, Nat.le_of_ble_eq_true rfl⟩ [0, 7, 8, 9, 10, 2, 3, 4, 5, 6, 1] rfl (by decide) 0 10 rfl rfl rfl rfl (Nat.le_of_ble_eq_true rfl) dX7_holdVote_97) hW hA [0, 7, 8, 9, 10, 2, 3, 4, 5, 6, 1] [] rfl rfl (by decide) (by decide) (fun _ _ _ _ _ _ h9 => h9.elim) (fun W_97 H locs hq hW => ?_)
        subst hq
        have hW : CxB D [(a0, .inr (10, [.ref a1, .ref a5, .ref a10, .int (bb 8 1), .int ((bb 8 2) + (nI 1)), .int (bb 8 3), .int (bb 8 4), .int (bb 8 5), .int (bb 8 6), .int ((bb 8 7) + ((bb 5) q_5)), .int (bb 8 8)])), (a1, .inr (6, [.ref a2, .ref a3, .ref a4, .int (nI nh)])), (a2, .inl (aT 0, 6, .inl (bb 0))), (a3, .inl (aT 0, 6, .inl fT_63)), (a4, .inl (aT 0, 6, .inl (bb 2))), (a5, .inr (8, [.ref a6, .ref a7, .ref a8, .ref a9, .int (nI nm), .int (bb 8 0)])), (a6, .inl (aT 0, 12, .inl (bb 3))), (a7, .inl (aT 0, 12, .inl (bb 4))), (a8, .inl (aT 0, 12, .inl (bb 5))), (a9, .inl (aT 0, 12, .inl (bb 6))), (a10, .inl (aT 0, 4, .inl (bb 7)))] A s.heap H _ := hW
        refine lv_aload_n hx hb dX7_holdVote_100 rfl (lv_at hl 2 rfl) ?_
        refine cx_get C hW 0 1 rfl rfl (by decide) inX7 gw_181 rfl rfl dX7_holdVote_101 ?_
        refine lv_iload_n hx hb dX7_holdVote_104 rfl (lv_at hl 1 rfl) ?_
        refine cx_callv (Wr := [(a0, .inr (10, [.ref a1, .ref a5, .ref a10, .int (bb 8 1), .int ((bb 8 2) + (nI 1)), .int (bb 8 3), .int (bb 8 4), .int (bb 8 5), .int (bb 8 6), .int ((bb 8 7) + ((bb 5) q_5)), .int (bb 8 8)])), (a1, .inr (6, [.ref a2, .ref a3, .ref a4, .int (nI nh)])), (a2, .inl (aT 0, 6, .inl (bb 0))), (a3, .inl (aT 0, 6, .inl fT_63)), (a4, .inl (aT 0, 6, .inl (bb 2))), (a10, .inl (aT 0, 4, .inl (bb 7)))]) (cx_runV C hml hl.1 hZ hW hA (As := [.int (nI q_5)]) (rest := []) (k_X5_removeTip l hfl D aT a5 a6 a7 a8 a9 (bb 3) (bb 4) (bb 5) (bb 6) nm (bb 8 0) q_5 hqn_5 hO.1) gV_X7_X5_removeTip_132 hV_X5_removeTip rfl ⟨Nat.le_of_ble_eq_true rfl, Nat.le_of_ble_eq_true rfl⟩ ⟨Nat.le_of_ble_eq_true rfl, Nat.le_of_ble_eq_true rfl⟩ [5, 6, 7, 8, 9] rfl (by decide) 5 8 rfl rfl rfl rfl (Nat.le_of_ble_eq_true rfl) dX7_holdVote_105) hW hA [5, 6, 7, 8, 9] [0, 1, 2, 3, 4, 10] rfl rfl (by decide) (by decide) (fun _ _ _ _ _ _ h9 => h9.elim) (fun W_105 H locs hq hW => ?_)
        obtain rfl := hq
        have hW : CxB D [(a0, .inr (10, [.ref a1, .ref a5, .ref a10, .int (bb 8 1), .int ((bb 8 2) + (nI 1)), .int (bb 8 3), .int (bb 8 4), .int (bb 8 5), .int (bb 8 6), .int ((bb 8 7) + ((bb 5) q_5)), .int (bb 8 8)])), (a1, .inr (6, [.ref a2, .ref a3, .ref a4, .int (nI nh)])), (a2, .inl (aT 0, 6, .inl (bb 0))), (a3, .inl (aT 0, 6, .inl fT_63)), (a4, .inl (aT 0, 6, .inl (bb 2))), (a10, .inl (aT 0, 4, .inl (bb 7))), (a5, .inr (8, [.ref a6, .ref a7, .ref a8, .ref a9, .int (nI (nm - 1)), .int (bb 8 0)])), (a6, .inl (aT 0, 12, .inl (rmF (bb 3) q_5 nm))), (a7, .inl (aT 0, 12, .inl (rmF (bb 4) q_5 nm))), (a8, .inl (aT 0, 12, .inl (rmF (bb 5) q_5 nm))), (a9, .inl (aT 0, 12, .inl (rmP (bb 6) q_5 nm)))] A s.heap H _ := hW
        refine lv_iload_n hx hb dX7_holdVote_108 rfl (lv_at hl 0 rfl) ?_
        have hW : CxB D [(a0, .inr (10, [.ref a1, .ref a5, .ref a10, .int (bb 8 1), .int ((bb 8 2) + (nI 1)), .int (bb 8 3), .int (bb 8 4), .int (bb 8 5), .int (bb 8 6), .int ((bb 8 7) + ((bb 5) q_5)), .int (bb 8 8)])), (a1, .inr (6, [.ref a2, .ref a3, .ref a4, .int (nI nh)])), (a2, .inl (aT 0, 6, .inl (bb 0))), (a3, .inl (aT 0, 6, .inl fT_63)), (a4, .inl (aT 0, 6, .inl (bb 2))), (a5, .inr (8, [.ref a6, .ref a7, .ref a8, .ref a9, .int (nI (nm - 1)), .int (bb 8 0)])), (a6, .inl (aT 0, 12, .inl (rmF (bb 3) q_5 nm))), (a7, .inl (aT 0, 12, .inl (rmF (bb 4) q_5 nm))), (a8, .inl (aT 0, 12, .inl (rmF (bb 5) q_5 nm))), (a9, .inl (aT 0, 12, .inl (rmP (bb 6) q_5 nm))), (a10, .inl (aT 0, 4, .inl (bb 7)))] A s.heap H _ := cx_drop hW [0, 1, 2, 3, 4, 6, 7, 8, 9, 10, 5] rfl (by decide)
        exact cx_iret C hr hlocks (by decide) hW ⟨Nat.le_of_ble_eq_true rfl, Nat.le_of_ble_eq_true rfl⟩ (by
            obtain ⟨z1, z2⟩ := (hB.vote (s := s0) (f := fT_63) hC hqn_5 (by simpa using c_37) (fun i hi => (hv_63.2.2.1 i hi).1)).1 ga_63
            exact ⟨q_5, _, ⟨(by rw [← hB.fnd_eq]; exact hq_5), (by omega), (by simpa using c_37), by rw [z1]⟩, z2, rfl⟩) dX7_holdVote_109
      · have hW : CxB D [(a0, .inr (10, [.ref a1, .ref a5, .ref a10, .int (bb 8 1), .int (bb 8 2), .int (bb 8 3), .int (bb 8 4), .int (bb 8 5), .int (bb 8 6), .int (bb 8 7), .int (bb 8 8)])), (a10, .inl (aT 0, 4, .inl (bb 7))), (a5, .inr (8, [.ref a6, .ref a7, .ref a8, .ref a9, .int (nI nm), .int (bb 8 0)])), (a6, .inl (aT 0, 12, .inl (bb 3))), (a7, .inl (aT 0, 12, .inl (bb 4))), (a8, .inl (aT 0, 12, .inl (bb 5))), (a9, .inl (aT 0, 12, .inl (bb 6))), (a1, .inr (6, [.ref a2, .ref a3, .ref a4, .int (nI nh)])), (a2, .inl (aT 0, 6, .inl (bb 0))), (a3, .inl (aT 0, 6, .inl fT_63)), (a4, .inl (aT 0, 6, .inl (bb 2)))] A s.heap H _ := hW
        refine lv_istore_n (lv' := [(3, .int (nI 99)), (2, .int (nI q_5)), (0, .ref a0), (1, .int x)]) hx hb dX7_holdVote_66 rfl hl (by decide) rfl (fun ls hl => ?_)
        refine lv_aload_n hx hb dX7_holdVote_67 rfl (lv_at hl 2 rfl) ?_
        refine lv_dup hx hb dX7_holdVote_68 rfl ?_
        refine cx_get C hW 0 4 rfl rfl (by decide) inX7 gw_187 rfl rfl dX7_holdVote_69 ?_
        refine lv_iconst (v := nI 1) hx hb dX7_holdVote_72 (by decide) ?_
        refine lv_iadd hx hb dX7_holdVote_73 ?_
        refine cx_put C hW 0 4 (W1 := [(a0, .inr (10, [.ref a1, .ref a5, .ref a10, .int (bb 8 1), .int ((bb 8 2) + (nI 1)), .int (bb 8 3), .int (bb 8 4), .int (bb 8 5), .int (bb 8 6), .int (bb 8 7), .int (bb 8 8)])), (a10, .inl (aT 0, 4, .inl (bb 7))), (a5, .inr (8, [.ref a6, .ref a7, .ref a8, .ref a9, .int (nI nm), .int (bb 8 0)])), (a6, .inl (aT 0, 12, .inl (bb 3))), (a7, .inl (aT 0, 12, .inl (bb 4))), (a8, .inl (aT 0, 12, .inl (bb 5))), (a9, .inl (aT 0, 12, .inl (bb 6))), (a1, .inr (6, [.ref a2, .ref a3, .ref a4, .int (nI nh)])), (a2, .inl (aT 0, 6, .inl (bb 0))), (a3, .inl (aT 0, 6, .inl fT_63)), (a4, .inl (aT 0, 6, .inl (bb 2)))]) rfl rfl (by decide) inX7 tyX7 tyX7_ok nmX7 gw_187 rfl rfl rfl rfl rfl (Nat.le_of_ble_eq_true rfl) rfl dX7_holdVote_74 (fun H locs hW => ?_)
        refine lv_aload_n hx hb dX7_holdVote_77 rfl (lv_at hl 2 rfl) ?_
        refine lv_iload_n hx hb dX7_holdVote_78 rfl (lv_at hl 0 rfl) ?_
        refine lv_aload_n hx hb dX7_holdVote_79 rfl (lv_at hl 2 rfl) ?_
        refine cx_get C hW 0 1 rfl rfl (by decide) inX7 gw_181 rfl rfl dX7_holdVote_80 ?_
        refine cx_getN C hZ hW 2 2 rfl rfl (by decide) inX5 nw_154 rfl rfl dX7_holdVote_83 ?_
        refine lv_iload_n hx hb dX7_holdVote_86 rfl (lv_at hl 1 rfl) ?_
        refine cx_ald C hW 5 0 (j := q_5) rfl rfl rfl (by have := hO.1; omega) (by decide) dX7_holdVote_87 ?_
        refine lv_aload_n hx hb dX7_holdVote_88 rfl (lv_at hl 2 rfl) ?_
        refine cx_get C hW 0 1 rfl rfl (by decide) inX7 gw_181 rfl rfl dX7_holdVote_89 ?_
        refine cx_getN C hZ hW 2 3 rfl rfl (by decide) inX5 nw_159 rfl rfl dX7_holdVote_92 ?_
        refine lv_iload_n hx hb dX7_holdVote_95 rfl (lv_at hl 1 rfl) ?_
        refine cx_ald C hW 6 0 (j := q_5) rfl rfl rfl (by have := hO.1; omega) (by decide) dX7_holdVote_96 ?_
        refine r_eq (y := (oi (prM M q_5))) (hO.2.2.1 q_5 (by first | assumption | omega)) ?_
        refine cx_callv (Wr := []) (cx_runV C hml hl.1 hZ hW hA (As := [.int (nI 99), .int ((bb 5) q_5), .int (oi (prM M q_5))]) (rest := []) (k_X7_book_c l hfl D aT a0 a1 a2 a3 a4 a5 a6 a7 a8 a9 a10 (bkO (bb 0) fT_63 (bb 2) (bb 3) (bb 4) (bb 5) (bb 6) (bb 7) (bb 8 0) (bb 8 1) ((bb 8 2) + (nI 1)) (bb 8 3) (bb 8 4) (bb 8 5) (bb 8 6) (bb 8 7) (bb 8 8)) nh nm ((bb 5) q_5) (prM M q_5) s0 hs0 hs4 (fun j hj => by have h5 := hO.2.2.2.1 q_5 j hqn_5 hj; have h6 := hO.1; omega)) gV_X7_X7_bookOutcome_151 hV_X7_bookOutcome rfl ⟨Nat.le_of_ble_eq_true rfl, Nat.le_of_ble_eq_true rfl⟩ ⟨Nat.le_of_ble_eq_true rfl, Nat.le_of_ble_eq_true rfl⟩ [0, 7, 8, 9, 10, 2, 3, 4, 5, 6, 1] rfl (by decide) 0 10 rfl rfl rfl rfl (Nat.le_of_ble_eq_true rfl) dX7_holdVote_97) hW hA [0, 7, 8, 9, 10, 2, 3, 4, 5, 6, 1] [] rfl rfl (by decide) (by decide) (fun _ _ _ _ _ _ h9 => h9.elim) (fun W_97 H locs hq hW => ?_)
        rcases hq with ⟨hp_97, rfl⟩ | ⟨p_97, hp_97, rfl⟩
        · have hW : CxB D [(a0, .inr (10, [.ref a1, .ref a5, .ref a10, .int (bb 8 1), .int ((bb 8 2) + (nI 1)), .int ((bb 8 3) + nI 1), .int (bb 8 4), .int (bb 8 5), .int (bb 8 6), .int (bb 8 7), .int ((bb 8 8) + ((bb 5) q_5))])), (a1, .inr (6, [.ref a2, .ref a3, .ref a4, .int (nI nh)])), (a2, .inl (aT 0, 6, .inl (bb 0))), (a3, .inl (aT 0, 6, .inl fT_63)), (a4, .inl (aT 0, 6, .inl (bb 2))), (a5, .inr (8, [.ref a6, .ref a7, .ref a8, .ref a9, .int (nI nm), .int (bb 8 0)])), (a6, .inl (aT 0, 12, .inl (bb 3))), (a7, .inl (aT 0, 12, .inl (bb 4))), (a8, .inl (aT 0, 12, .inl (bb 5))), (a9, .inl (aT 0, 12, .inl (bb 6))), (a10, .inl (aT 0, 4, .inl (upd (bb 7) s0 ((bb 7) s0 + nI 1))))] A s.heap H _ := hW
          refine lv_aload_n hx hb dX7_holdVote_100 rfl (lv_at hl 2 rfl) ?_
          refine cx_get C hW 0 1 rfl rfl (by decide) inX7 gw_181 rfl rfl dX7_holdVote_101 ?_
          refine lv_iload_n hx hb dX7_holdVote_104 rfl (lv_at hl 1 rfl) ?_
          refine cx_callv (Wr := [(a0, .inr (10, [.ref a1, .ref a5, .ref a10, .int (bb 8 1), .int ((bb 8 2) + (nI 1)), .int ((bb 8 3) + nI 1), .int (bb 8 4), .int (bb 8 5), .int (bb 8 6), .int (bb 8 7), .int ((bb 8 8) + ((bb 5) q_5))])), (a1, .inr (6, [.ref a2, .ref a3, .ref a4, .int (nI nh)])), (a2, .inl (aT 0, 6, .inl (bb 0))), (a3, .inl (aT 0, 6, .inl fT_63)), (a4, .inl (aT 0, 6, .inl (bb 2))), (a10, .inl (aT 0, 4, .inl (upd (bb 7) s0 ((bb 7) s0 + nI 1))))]) (cx_runV C hml hl.1 hZ hW hA (As := [.int (nI q_5)]) (rest := []) (k_X5_removeTip l hfl D aT a5 a6 a7 a8 a9 (bb 3) (bb 4) (bb 5) (bb 6) nm (bb 8 0) q_5 hqn_5 hO.1) gV_X7_X5_removeTip_132 hV_X5_removeTip rfl ⟨Nat.le_of_ble_eq_true rfl, Nat.le_of_ble_eq_true rfl⟩ ⟨Nat.le_of_ble_eq_true rfl, Nat.le_of_ble_eq_true rfl⟩ [5, 6, 7, 8, 9] rfl (by decide) 5 8 rfl rfl rfl rfl (Nat.le_of_ble_eq_true rfl) dX7_holdVote_105) hW hA [5, 6, 7, 8, 9] [0, 1, 2, 3, 4, 10] rfl rfl (by decide) (by decide) (fun _ _ _ _ _ _ h9 => h9.elim) (fun W_105 H locs hq hW => ?_)
          obtain rfl := hq
          have hW : CxB D [(a0, .inr (10, [.ref a1, .ref a5, .ref a10, .int (bb 8 1), .int ((bb 8 2) + (nI 1)), .int ((bb 8 3) + nI 1), .int (bb 8 4), .int (bb 8 5), .int (bb 8 6), .int (bb 8 7), .int ((bb 8 8) + ((bb 5) q_5))])), (a1, .inr (6, [.ref a2, .ref a3, .ref a4, .int (nI nh)])), (a2, .inl (aT 0, 6, .inl (bb 0))), (a3, .inl (aT 0, 6, .inl fT_63)), (a4, .inl (aT 0, 6, .inl (bb 2))), (a10, .inl (aT 0, 4, .inl (upd (bb 7) s0 ((bb 7) s0 + nI 1)))), (a5, .inr (8, [.ref a6, .ref a7, .ref a8, .ref a9, .int (nI (nm - 1)), .int (bb 8 0)])), (a6, .inl (aT 0, 12, .inl (rmF (bb 3) q_5 nm))), (a7, .inl (aT 0, 12, .inl (rmF (bb 4) q_5 nm))), (a8, .inl (aT 0, 12, .inl (rmF (bb 5) q_5 nm))), (a9, .inl (aT 0, 12, .inl (rmP (bb 6) q_5 nm)))] A s.heap H _ := hW
          refine lv_iload_n hx hb dX7_holdVote_108 rfl (lv_at hl 0 rfl) ?_
          have hW : CxB D [(a0, .inr (10, [.ref a1, .ref a5, .ref a10, .int (bb 8 1), .int ((bb 8 2) + (nI 1)), .int ((bb 8 3) + nI 1), .int (bb 8 4), .int (bb 8 5), .int (bb 8 6), .int (bb 8 7), .int ((bb 8 8) + ((bb 5) q_5))])), (a1, .inr (6, [.ref a2, .ref a3, .ref a4, .int (nI nh)])), (a2, .inl (aT 0, 6, .inl (bb 0))), (a3, .inl (aT 0, 6, .inl fT_63)), (a4, .inl (aT 0, 6, .inl (bb 2))), (a5, .inr (8, [.ref a6, .ref a7, .ref a8, .ref a9, .int (nI (nm - 1)), .int (bb 8 0)])), (a6, .inl (aT 0, 12, .inl (rmF (bb 3) q_5 nm))), (a7, .inl (aT 0, 12, .inl (rmF (bb 4) q_5 nm))), (a8, .inl (aT 0, 12, .inl (rmF (bb 5) q_5 nm))), (a9, .inl (aT 0, 12, .inl (rmP (bb 6) q_5 nm))), (a10, .inl (aT 0, 4, .inl (upd (bb 7) s0 ((bb 7) s0 + nI 1))))] A s.heap H _ := cx_drop hW [0, 1, 2, 3, 4, 6, 7, 8, 9, 10, 5] rfl (by decide)
          exact cx_iret C hr hlocks (by decide) hW ⟨Nat.le_of_ble_eq_true rfl, Nat.le_of_ble_eq_true rfl⟩ (by
              obtain ⟨z1, z2⟩ := (hB.vote (s := s0) (f := fT_63) hC hqn_5 (by simpa using c_37) (fun i hi => (hv_63.2.2.1 i hi).1)).2.2.1 ga_63 gc_63 hp_97 (by rw [← hB.2.2.2.2.2.1.2.1]; exact hs0) hs4
              exact ⟨q_5, _, ⟨(by rw [← hB.fnd_eq]; exact hq_5), (by omega), (by simpa using c_37), by rw [z1]⟩, z2, rfl⟩) dX7_holdVote_109
        · have hW : CxB D [(a0, .inr (10, [.ref a1, .ref a5, .ref a10, .int (bb 8 1), .int ((bb 8 2) + (nI 1)), .int ((bb 8 3) + nI 1), .int (bb 8 4), .int (bb 8 5), .int (bb 8 6), .int (bb 8 7), .int (bb 8 8)])), (a1, .inr (6, [.ref a2, .ref a3, .ref a4, .int (nI nh)])), (a2, .inl (aT 0, 6, .inl (bb 0))), (a3, .inl (aT 0, 6, .inl fT_63)), (a4, .inl (aT 0, 6, .inl (bb 2))), (a5, .inr (8, [.ref a6, .ref a7, .ref a8, .ref a9, .int (nI nm), .int (bb 8 0)])), (a6, .inl (aT 0, 12, .inl (bb 3))), (a7, .inl (aT 0, 12, .inl (bb 4))), (a8, .inl (aT 0, 12, .inl (upd (bb 5) p_97 ((bb 5) p_97 + ((bb 5) q_5))))), (a9, .inl (aT 0, 12, .inl (bb 6))), (a10, .inl (aT 0, 4, .inl (bb 7)))] A s.heap H _ := hW
          refine lv_aload_n hx hb dX7_holdVote_100 rfl (lv_at hl 2 rfl) ?_
          refine cx_get C hW 0 1 rfl rfl (by decide) inX7 gw_181 rfl rfl dX7_holdVote_101 ?_
          refine lv_iload_n hx hb dX7_holdVote_104 rfl (lv_at hl 1 rfl) ?_
          refine cx_callv (Wr := [(a0, .inr (10, [.ref a1, .ref a5, .ref a10, .int (bb 8 1), .int ((bb 8 2) + (nI 1)), .int ((bb 8 3) + nI 1), .int (bb 8 4), .int (bb 8 5), .int (bb 8 6), .int (bb 8 7), .int (bb 8 8)])), (a1, .inr (6, [.ref a2, .ref a3, .ref a4, .int (nI nh)])), (a2, .inl (aT 0, 6, .inl (bb 0))), (a3, .inl (aT 0, 6, .inl fT_63)), (a4, .inl (aT 0, 6, .inl (bb 2))), (a10, .inl (aT 0, 4, .inl (bb 7)))]) (cx_runV C hml hl.1 hZ hW hA (As := [.int (nI q_5)]) (rest := []) (k_X5_removeTip l hfl D aT a5 a6 a7 a8 a9 (bb 3) (bb 4) (upd (bb 5) p_97 ((bb 5) p_97 + ((bb 5) q_5))) (bb 6) nm (bb 8 0) q_5 hqn_5 hO.1) gV_X7_X5_removeTip_132 hV_X5_removeTip rfl ⟨Nat.le_of_ble_eq_true rfl, Nat.le_of_ble_eq_true rfl⟩ ⟨Nat.le_of_ble_eq_true rfl, Nat.le_of_ble_eq_true rfl⟩ [5, 6, 7, 8, 9] rfl (by decide) 5 8 rfl rfl rfl rfl (Nat.le_of_ble_eq_true rfl) dX7_holdVote_105) hW hA [5, 6, 7, 8, 9] [0, 1, 2, 3, 4, 10] rfl rfl (by decide) (by decide) (fun _ _ _ _ _ _ h9 => h9.elim) (fun W_105 H locs hq hW => ?_)
          obtain rfl := hq
          have hW : CxB D [(a0, .inr (10, [.ref a1, .ref a5, .ref a10, .int (bb 8 1), .int ((bb 8 2) + (nI 1)), .int ((bb 8 3) + nI 1), .int (bb 8 4), .int (bb 8 5), .int (bb 8 6), .int (bb 8 7), .int (bb 8 8)])), (a1, .inr (6, [.ref a2, .ref a3, .ref a4, .int (nI nh)])), (a2, .inl (aT 0, 6, .inl (bb 0))), (a3, .inl (aT 0, 6, .inl fT_63)), (a4, .inl (aT 0, 6, .inl (bb 2))), (a10, .inl (aT 0, 4, .inl (bb 7))), (a5, .inr (8, [.ref a6, .ref a7, .ref a8, .ref a9, .int (nI (nm - 1)), .int (bb 8 0)])), (a6, .inl (aT 0, 12, .inl (rmF (bb 3) q_5 nm))), (a7, .inl (aT 0, 12, .inl (rmF (bb 4) q_5 nm))), (a8, .inl (aT 0, 12, .inl (rmF (upd (bb 5) p_97 ((bb 5) p_97 + ((bb 5) q_5))) q_5 nm))), (a9, .inl (aT 0, 12, .inl (rmP (bb 6) q_5 nm)))] A s.heap H _ := hW
          refine lv_iload_n hx hb dX7_holdVote_108 rfl (lv_at hl 0 rfl) ?_
          have hW : CxB D [(a0, .inr (10, [.ref a1, .ref a5, .ref a10, .int (bb 8 1), .int ((bb 8 2) + (nI 1)), .int ((bb 8 3) + nI 1), .int (bb 8 4), .int (bb 8 5), .int (bb 8 6), .int (bb 8 7), .int (bb 8 8)])), (a1, .inr (6, [.ref a2, .ref a3, .ref a4, .int (nI nh)])), (a2, .inl (aT 0, 6, .inl (bb 0))), (a3, .inl (aT 0, 6, .inl fT_63)), (a4, .inl (aT 0, 6, .inl (bb 2))), (a5, .inr (8, [.ref a6, .ref a7, .ref a8, .ref a9, .int (nI (nm - 1)), .int (bb 8 0)])), (a6, .inl (aT 0, 12, .inl (rmF (bb 3) q_5 nm))), (a7, .inl (aT 0, 12, .inl (rmF (bb 4) q_5 nm))), (a8, .inl (aT 0, 12, .inl (rmF (upd (bb 5) p_97 ((bb 5) p_97 + ((bb 5) q_5))) q_5 nm))), (a9, .inl (aT 0, 12, .inl (rmP (bb 6) q_5 nm))), (a10, .inl (aT 0, 4, .inl (bb 7)))] A s.heap H _ := cx_drop hW [0, 1, 2, 3, 4, 6, 7, 8, 9, 10, 5] rfl (by decide)
          exact cx_iret C hr hlocks (by decide) hW ⟨Nat.le_of_ble_eq_true rfl, Nat.le_of_ble_eq_true rfl⟩ (by
              obtain ⟨z1, z2⟩ := (hB.vote (s := s0) (f := fT_63) hC hqn_5 (by simpa using c_37) (fun i hi => (hv_63.2.2.1 i hi).1)).2.2.2 p_97 ga_63 gc_63 hp_97 (by rw [← hB.2.2.2.2.2.1.2.1]; exact hs0) hs4
              exact ⟨q_5, _, ⟨(by rw [← hB.fnd_eq]; exact hq_5), (by omega), (by simpa using c_37), by rw [z1]⟩, z2, rfl⟩) dX7_holdVote_109
      · have hW : CxB D [(a0, .inr (10, [.ref a1, .ref a5, .ref a10, .int (bb 8 1), .int (bb 8 2), .int (bb 8 3), .int (bb 8 4), .int (bb 8 5), .int (bb 8 6), .int (bb 8 7), .int (bb 8 8)])), (a10, .inl (aT 0, 4, .inl (bb 7))), (a5, .inr (8, [.ref a6, .ref a7, .ref a8, .ref a9, .int (nI nm), .int (bb 8 0)])), (a6, .inl (aT 0, 12, .inl (bb 3))), (a7, .inl (aT 0, 12, .inl (bb 4))), (a8, .inl (aT 0, 12, .inl (bb 5))), (a9, .inl (aT 0, 12, .inl (bb 6))), (a1, .inr (6, [.ref a2, .ref a3, .ref a4, .int (nI nh)])), (a2, .inl (aT 0, 6, .inl (bb 0))), (a3, .inl (aT 0, 6, .inl fT_63)), (a4, .inl (aT 0, 6, .inl (bb 2)))] A s.heap H _ := hW
        refine lv_istore_n (lv' := [(3, .int (nI 114)), (2, .int (nI q_5)), (0, .ref a0), (1, .int x)]) hx hb dX7_holdVote_66 rfl hl (by decide) rfl (fun ls hl => ?_)
        refine lv_aload_n hx hb dX7_holdVote_67 rfl (lv_at hl 2 rfl) ?_
        refine lv_dup hx hb dX7_holdVote_68 rfl ?_
        refine cx_get C hW 0 4 rfl rfl (by decide) inX7 gw_187 rfl rfl dX7_holdVote_69 ?_
        refine lv_iconst (v := nI 1) hx hb dX7_holdVote_72 (by decide) ?_
        refine lv_iadd hx hb dX7_holdVote_73 ?_
        refine cx_put C hW 0 4 (W1 := [(a0, .inr (10, [.ref a1, .ref a5, .ref a10, .int (bb 8 1), .int ((bb 8 2) + (nI 1)), .int (bb 8 3), .int (bb 8 4), .int (bb 8 5), .int (bb 8 6), .int (bb 8 7), .int (bb 8 8)])), (a10, .inl (aT 0, 4, .inl (bb 7))), (a5, .inr (8, [.ref a6, .ref a7, .ref a8, .ref a9, .int (nI nm), .int (bb 8 0)])), (a6, .inl (aT 0, 12, .inl (bb 3))), (a7, .inl (aT 0, 12, .inl (bb 4))), (a8, .inl (aT 0, 12, .inl (bb 5))), (a9, .inl (aT 0, 12, .inl (bb 6))), (a1, .inr (6, [.ref a2, .ref a3, .ref a4, .int (nI nh)])), (a2, .inl (aT 0, 6, .inl (bb 0))), (a3, .inl (aT 0, 6, .inl fT_63)), (a4, .inl (aT 0, 6, .inl (bb 2)))]) rfl rfl (by decide) inX7 tyX7 tyX7_ok nmX7 gw_187 rfl rfl rfl rfl rfl (Nat.le_of_ble_eq_true rfl) rfl dX7_holdVote_74 (fun H locs hW => ?_)
        refine lv_aload_n hx hb dX7_holdVote_77 rfl (lv_at hl 2 rfl) ?_
        refine lv_iload_n hx hb dX7_holdVote_78 rfl (lv_at hl 0 rfl) ?_
        refine lv_aload_n hx hb dX7_holdVote_79 rfl (lv_at hl 2 rfl) ?_
        refine cx_get C hW 0 1 rfl rfl (by decide) inX7 gw_181 rfl rfl dX7_holdVote_80 ?_
        refine cx_getN C hZ hW 2 2 rfl rfl (by decide) inX5 nw_154 rfl rfl dX7_holdVote_83 ?_
        refine lv_iload_n hx hb dX7_holdVote_86 rfl (lv_at hl 1 rfl) ?_
        refine cx_ald C hW 5 0 (j := q_5) rfl rfl rfl (by have := hO.1; omega) (by decide) dX7_holdVote_87 ?_
        refine lv_aload_n hx hb dX7_holdVote_88 rfl (lv_at hl 2 rfl) ?_
        refine cx_get C hW 0 1 rfl rfl (by decide) inX7 gw_181 rfl rfl dX7_holdVote_89 ?_
        refine cx_getN C hZ hW 2 3 rfl rfl (by decide) inX5 nw_159 rfl rfl dX7_holdVote_92 ?_
        refine lv_iload_n hx hb dX7_holdVote_95 rfl (lv_at hl 1 rfl) ?_
        refine cx_ald C hW 6 0 (j := q_5) rfl rfl rfl (by have := hO.1; omega) (by decide) dX7_holdVote_96 ?_
        refine r_eq (y := (oi (prM M q_5))) (hO.2.2.1 q_5 (by first | assumption | omega)) ?_
        refine cx_callv (Wr := []) (cx_runV C hml hl.1 hZ hW hA (As := [.int (nI 114), .int ((bb 5) q_5), .int (oi (prM M q_5))]) (rest := []) (k_X7_book_r l hfl D aT a0 a1 a2 a3 a4 a5 a6 a7 a8 a9 a10 (bkO (bb 0) fT_63 (bb 2) (bb 3) (bb 4) (bb 5) (bb 6) (bb 7) (bb 8 0) (bb 8 1) ((bb 8 2) + (nI 1)) (bb 8 3) (bb 8 4) (bb 8 5) (bb 8 6) (bb 8 7) (bb 8 8)) nh nm ((bb 5) q_5) (prM M q_5)) gV_X7_X7_bookOutcome_151 hV_X7_bookOutcome rfl ⟨Nat.le_of_ble_eq_true rfl, Nat.le_of_ble_eq_true rfl⟩ ⟨Nat.le_of_ble_eq_true rfl, Nat.le_of_ble_eq_true rfl⟩ [0, 7, 8, 9, 10, 2, 3, 4, 5, 6, 1] rfl (by decide) 0 10 rfl rfl rfl rfl (Nat.le_of_ble_eq_true rfl) dX7_holdVote_97) hW hA [0, 7, 8, 9, 10, 2, 3, 4, 5, 6, 1] [] rfl rfl (by decide) (by decide) (fun _ _ _ _ _ _ h9 => h9.elim) (fun W_97 H locs hq hW => ?_)
        subst hq
        have hW : CxB D [(a0, .inr (10, [.ref a1, .ref a5, .ref a10, .int (bb 8 1), .int ((bb 8 2) + (nI 1)), .int (bb 8 3), .int (bb 8 4), .int (bb 8 5), .int ((bb 8 6) + ((bb 5) q_5)), .int (bb 8 7), .int (bb 8 8)])), (a1, .inr (6, [.ref a2, .ref a3, .ref a4, .int (nI nh)])), (a2, .inl (aT 0, 6, .inl (bb 0))), (a3, .inl (aT 0, 6, .inl fT_63)), (a4, .inl (aT 0, 6, .inl (bb 2))), (a5, .inr (8, [.ref a6, .ref a7, .ref a8, .ref a9, .int (nI nm), .int (bb 8 0)])), (a6, .inl (aT 0, 12, .inl (bb 3))), (a7, .inl (aT 0, 12, .inl (bb 4))), (a8, .inl (aT 0, 12, .inl (bb 5))), (a9, .inl (aT 0, 12, .inl (bb 6))), (a10, .inl (aT 0, 4, .inl (bb 7)))] A s.heap H _ := hW
        refine lv_aload_n hx hb dX7_holdVote_100 rfl (lv_at hl 2 rfl) ?_
        refine cx_get C hW 0 1 rfl rfl (by decide) inX7 gw_181 rfl rfl dX7_holdVote_101 ?_
        refine lv_iload_n hx hb dX7_holdVote_104 rfl (lv_at hl 1 rfl) ?_
        refine cx_callv (Wr := [(a0, .inr (10, [.ref a1, .ref a5, .ref a10, .int (bb 8 1), .int ((bb 8 2) + (nI 1)), .int (bb 8 3), .int (bb 8 4), .int (bb 8 5), .int ((bb 8 6) + ((bb 5) q_5)), .int (bb 8 7), .int (bb 8 8)])), (a1, .inr (6, [.ref a2, .ref a3, .ref a4, .int (nI nh)])), (a2, .inl (aT 0, 6, .inl (bb 0))), (a3, .inl (aT 0, 6, .inl fT_63)), (a4, .inl (aT 0, 6, .inl (bb 2))), (a10, .inl (aT 0, 4, .inl (bb 7)))]) (cx_runV C hml hl.1 hZ hW hA (As := [.int (nI q_5)]) (rest := []) (k_X5_removeTip l hfl D aT a5 a6 a7 a8 a9 (bb 3) (bb 4) (bb 5) (bb 6) nm (bb 8 0) q_5 hqn_5 hO.1) gV_X7_X5_removeTip_132 hV_X5_removeTip rfl ⟨Nat.le_of_ble_eq_true rfl, Nat.le_of_ble_eq_true rfl⟩ ⟨Nat.le_of_ble_eq_true rfl, Nat.le_of_ble_eq_true rfl⟩ [5, 6, 7, 8, 9] rfl (by decide) 5 8 rfl rfl rfl rfl (Nat.le_of_ble_eq_true rfl) dX7_holdVote_105) hW hA [5, 6, 7, 8, 9] [0, 1, 2, 3, 4, 10] rfl rfl (by decide) (by decide) (fun _ _ _ _ _ _ h9 => h9.elim) (fun W_105 H locs hq hW => ?_)
        obtain rfl := hq
        have hW : CxB D [(a0, .inr (10, [.ref a1, .ref a5, .ref a10, .int (bb 8 1), .int ((bb 8 2) + (nI 1)), .int (bb 8 3), .int (bb 8 4), .int (bb 8 5), .int ((bb 8 6) + ((bb 5) q_5)), .int (bb 8 7), .int (bb 8 8)])), (a1, .inr (6, [.ref a2, .ref a3, .ref a4, .int (nI nh)])), (a2, .inl (aT 0, 6, .inl (bb 0))), (a3, .inl (aT 0, 6, .inl fT_63)), (a4, .inl (aT 0, 6, .inl (bb 2))), (a10, .inl (aT 0, 4, .inl (bb 7))), (a5, .inr (8, [.ref a6, .ref a7, .ref a8, .ref a9, .int (nI (nm - 1)), .int (bb 8 0)])), (a6, .inl (aT 0, 12, .inl (rmF (bb 3) q_5 nm))), (a7, .inl (aT 0, 12, .inl (rmF (bb 4) q_5 nm))), (a8, .inl (aT 0, 12, .inl (rmF (bb 5) q_5 nm))), (a9, .inl (aT 0, 12, .inl (rmP (bb 6) q_5 nm)))] A s.heap H _ := hW
        refine lv_iload_n hx hb dX7_holdVote_108 rfl (lv_at hl 0 rfl) ?_
        have hW : CxB D [(a0, .inr (10, [.ref a1, .ref a5, .ref a10, .int (bb 8 1), .int ((bb 8 2) + (nI 1)), .int (bb 8 3), .int (bb 8 4), .int (bb 8 5), .int ((bb 8 6) + ((bb 5) q_5)), .int (bb 8 7), .int (bb 8 8)])), (a1, .inr (6, [.ref a2, .ref a3, .ref a4, .int (nI nh)])), (a2, .inl (aT 0, 6, .inl (bb 0))), (a3, .inl (aT 0, 6, .inl fT_63)), (a4, .inl (aT 0, 6, .inl (bb 2))), (a5, .inr (8, [.ref a6, .ref a7, .ref a8, .ref a9, .int (nI (nm - 1)), .int (bb 8 0)])), (a6, .inl (aT 0, 12, .inl (rmF (bb 3) q_5 nm))), (a7, .inl (aT 0, 12, .inl (rmF (bb 4) q_5 nm))), (a8, .inl (aT 0, 12, .inl (rmF (bb 5) q_5 nm))), (a9, .inl (aT 0, 12, .inl (rmP (bb 6) q_5 nm))), (a10, .inl (aT 0, 4, .inl (bb 7)))] A s.heap H _ := cx_drop hW [0, 1, 2, 3, 4, 6, 7, 8, 9, 10, 5] rfl (by decide)
        exact cx_iret C hr hlocks (by decide) hW ⟨Nat.le_of_ble_eq_true rfl, Nat.le_of_ble_eq_true rfl⟩ (by
            obtain ⟨z1, z2⟩ := (hB.vote (s := s0) (f := fT_63) hC hqn_5 (by simpa using c_37) (fun i hi => (hv_63.2.2.1 i hi).1)).2.1 ga_63 gc_63
            exact ⟨q_5, _, ⟨(by rw [← hB.fnd_eq]; exact hq_5), (by omega), (by simpa using c_37), by rw [z1]⟩, z2, rfl⟩) dX7_holdVote_109
    · have hW : CxB D [(a0, .inr (10, [.ref a1, .ref a5, .ref a10, .int (bb 8 1), .int (bb 8 2), .int (bb 8 3), .int (bb 8 4), .int (bb 8 5), .int (bb 8 6), .int (bb 8 7), .int (bb 8 8)])), (a1, .inr (6, [.ref a2, .ref a3, .ref a4, .int (nI nh)])), (a2, .inl (aT 0, 6, .inl (bb 0))), (a3, .inl (aT 0, 6, .inl (bb 1))), (a4, .inl (aT 0, 6, .inl (bb 2))), (a5, .inr (8, [.ref a6, .ref a7, .ref a8, .ref a9, .int (nI nm), .int (bb 8 0)])), (a6, .inl (aT 0, 12, .inl (bb 3))), (a7, .inl (aT 0, 12, .inl (bb 4))), (a8, .inl (aT 0, 12, .inl (bb 5))), (a9, .inl (aT 0, 12, .inl (bb 6))), (a10, .inl (aT 0, 4, .inl (bb 7)))] A s.heap H _ := cx_drop hW [0, 1, 2, 3, 4, 6, 7, 8, 9, 10, 5] rfl (by decide)
      exact cx_throw C hfl hex hml hl.1 hlocks hZ hW at_X7_IllegalStateException (List.mem_of_getElem? (i := 7) rfl) gw_635 gw_87 (by decide +kernel) dX7_holdVote_40 dX7_holdVote_43 dX7_holdVote_44 dX7_holdVote_46 dX7_holdVote_49 ⟨Nat.le_of_ble_eq_true rfl, Nat.le_of_ble_eq_true rfl, Nat.le_of_ble_eq_true rfl, Nat.le_of_ble_eq_true rfl⟩ ⟨Nat.le_of_ble_eq_true rfl, Nat.le_of_ble_eq_true rfl⟩ (⟨Or.inr ⟨q_5, (by rw [← hB.fnd_eq]; exact hq_5), rfl, Or.inr (by simpa using c_37)⟩, rfl⟩)
  · have hW : CxB D [(a0, .inr (10, [.ref a1, .ref a5, .ref a10, .int (bb 8 1), .int (bb 8 2), .int (bb 8 3), .int (bb 8 4), .int (bb 8 5), .int (bb 8 6), .int (bb 8 7), .int (bb 8 8)])), (a1, .inr (6, [.ref a2, .ref a3, .ref a4, .int (nI nh)])), (a2, .inl (aT 0, 6, .inl (bb 0))), (a3, .inl (aT 0, 6, .inl (bb 1))), (a4, .inl (aT 0, 6, .inl (bb 2))), (a5, .inr (8, [.ref a6, .ref a7, .ref a8, .ref a9, .int (nI nm), .int (bb 8 0)])), (a6, .inl (aT 0, 12, .inl (bb 3))), (a7, .inl (aT 0, 12, .inl (bb 4))), (a8, .inl (aT 0, 12, .inl (bb 5))), (a9, .inl (aT 0, 12, .inl (bb 6))), (a10, .inl (aT 0, 4, .inl (bb 7)))] A s.heap H _ := cx_drop hW [0, 1, 2, 3, 4, 6, 7, 8, 9, 10, 5] rfl (by decide)
    exact cx_throw C hfl hex hml hl.1 hlocks hZ hW at_X7_IllegalStateException (List.mem_of_getElem? (i := 6) rfl) gw_635 gw_87 (by decide +kernel) dX7_holdVote_19 dX7_holdVote_22 dX7_holdVote_23 dX7_holdVote_25 dX7_holdVote_28 ⟨Nat.le_of_ble_eq_true rfl, Nat.le_of_ble_eq_true rfl, Nat.le_of_ble_eq_true rfl, Nat.le_of_ble_eq_true rfl⟩ ⟨Nat.le_of_ble_eq_true rfl, Nat.le_of_ble_eq_true rfl⟩ (⟨Or.inr ⟨q_5, (by rw [← hB.fnd_eq]; exact hq_5), rfl, Or.inl (by omega)⟩, rfl⟩)
theorem dX7_beginNextSeason_0 : decode cX7_beginNextSeason 0 = .ok (.aload_n 0, 1) := by decide +kernel
theorem dX7_beginNextSeason_1 : decode cX7_beginNextSeason 1 = .ok (.aload_n 0, 1) := by decide +kernel
theorem dX7_beginNextSeason_2 : decode cX7_beginNextSeason 2 = .ok (.getfield 29, 3) := by decide +kernel
theorem dX7_beginNextSeason_5 : decode cX7_beginNextSeason 5 = .ok (.iconst 1, 1) := by decide +kernel
theorem dX7_beginNextSeason_6 : decode cX7_beginNextSeason 6 = .ok (.iadd, 1) := by decide +kernel
theorem dX7_beginNextSeason_7 : decode cX7_beginNextSeason 7 = .ok (.iconst 4, 1) := by decide +kernel
theorem dX7_beginNextSeason_8 : decode cX7_beginNextSeason 8 = .ok (.if_icmp .ge 12, 3) := by decide +kernel
theorem dX7_beginNextSeason_11 : decode cX7_beginNextSeason 11 = .ok (.aload_n 0, 1) := by decide +kernel
theorem dX7_beginNextSeason_12 : decode cX7_beginNextSeason 12 = .ok (.getfield 29, 3) := by decide +kernel
theorem dX7_beginNextSeason_15 : decode cX7_beginNextSeason 15 = .ok (.iconst 1, 1) := by decide +kernel
theorem dX7_beginNextSeason_16 : decode cX7_beginNextSeason 16 = .ok (.iadd, 1) := by decide +kernel
theorem dX7_beginNextSeason_17 : decode cX7_beginNextSeason 17 = .ok (.goto 4, 3) := by decide +kernel
theorem dX7_beginNextSeason_20 : decode cX7_beginNextSeason 20 = .ok (.iconst 0, 1) := by decide +kernel
theorem dX7_beginNextSeason_21 : decode cX7_beginNextSeason 21 = .ok (.putfield 29, 3) := by decide +kernel
theorem dX7_beginNextSeason_24 : decode cX7_beginNextSeason 24 = .ok (.aload_n 0, 1) := by decide +kernel
theorem dX7_beginNextSeason_25 : decode cX7_beginNextSeason 25 = .ok (.getfield 12, 3) := by decide +kernel
theorem dX7_beginNextSeason_28 : decode cX7_beginNextSeason 28 = .ok (.aload_n 0, 1) := by decide +kernel
theorem dX7_beginNextSeason_29 : decode cX7_beginNextSeason 29 = .ok (.getfield 29, 3) := by decide +kernel
theorem dX7_beginNextSeason_32 : decode cX7_beginNextSeason 32 = .ok (.invokevirtual 155, 3) := by decide +kernel
theorem dX7_beginNextSeason_35 : decode cX7_beginNextSeason 35 = .ok (.return_, 1) := by decide +kernel
theorem gV_X7_X2_meet_155 : GoodIn gw (wsV RX7 155 RX2 yX2_meet (Cond.code yX2_meet cX2_meet 4 (none) :: gw)) := gdV gw_403 gw_404 gw_405 gw_69 gw_406
theorem hV_X2_meet : yX2_meet.cls = RX2 ∧ yX2_meet.cls ≠ "java/lang/invoke/MethodHandle" ∧ yX2_meet.cls ≠ "java/lang/invoke/VarHandle" ∧ (parseMethodDescriptor yX2_meet.desc).map (fun d => d.parameters.length) = some 1 := ⟨rfl, by decide +kernel, by decide +kernel, by decide +kernel⟩
set_option maxHeartbeats 2000000 in
set_option maxRecDepth 20000 in
theorem k_X7_beginNextSeason (l : Launch) (hfl : l.stackTraces = false) (D : va_G) (aT : Nat → ClassId) (a0 : Nat) (a1 : Nat) (a2 : Nat) (a3 : Nat) (a4 : Nat) (a5 : Nat) (a6 : Nat) (a7 : Nat) (a8 : Nat) (a9 : Nat) (a10 : Nat) (bb : Nat → Nat → Int32) (nh : Nat) (nm : Nat) (M : Nat → Int32) (Bd : Nat) (hBd : Bd < 1048000) (hC : CoW M Bd) (hB : BlC bb nh nm M) (s0 : Nat) (hs0 : bb 8 1 = nI s0) (hs4 : s0 < 4) : CxG l yX7_beginNextSeason cX7_beginNextSeason 1 none 2 0 0 63 D aT [.ref a0] [(a0, .inr (10, [.ref a1, .ref a5, .ref a10, .int (bb 8 1), .int (bb 8 2), .int (bb 8 3), .int (bb 8 4), .int (bb 8 5), .int (bb 8 6), .int (bb 8 7), .int (bb 8 8)])), (a1, .inr (6, [.ref a2, .ref a3, .ref a4, .int (nI nh)])), (a2, .inl (aT 0, 6, .inl (bb 0))), (a3, .inl (aT 0, 6, .inl (bb 1))), (a4, .inl (aT 0, 6, .inl (bb 2))), (a5, .inr (8, [.ref a6, .ref a7, .ref a8, .ref a9, .int (nI nm), .int (bb 8 0)])), (a6, .inl (aT 0, 12, .inl (bb 3))), (a7, .inl (aT 0, 12, .inl (bb 4))), (a8, .inl (aT 0, 12, .inl (bb 5))), (a9, .inl (aT 0, 12, .inl (bb 6))), (a10, .inl (aT 0, 4, .inl (bb 7)))] (qV D aT (fun W1 => ∃ b2 : Nat → Nat → Int32, BlC b2 nh nm (seaF ((s0 + 1) % 4) (upd M 3 (nI ((s0 + 1) % 4))) (hM M)) ∧ W1 = [(a0, .inr (10, [.ref a1, .ref a5, .ref a10, .int (b2 8 1), .int (b2 8 2), .int (b2 8 3), .int (b2 8 4), .int (b2 8 5), .int (b2 8 6), .int (b2 8 7), .int (b2 8 8)])), (a1, .inr (6, [.ref a2, .ref a3, .ref a4, .int (nI nh)])), (a2, .inl (aT 0, 6, .inl (b2 0))), (a3, .inl (aT 0, 6, .inl (b2 1))), (a4, .inl (aT 0, 6, .inl (b2 2))), (a5, .inr (8, [.ref a6, .ref a7, .ref a8, .ref a9, .int (nI nm), .int (b2 8 0)])), (a6, .inl (aT 0, 12, .inl (b2 3))), (a7, .inl (aT 0, 12, .inl (b2 4))), (a8, .inl (aT 0, 12, .inl (b2 5))), (a9, .inl (aT 0, 12, .inl (b2 6))), (a10, .inl (aT 0, 4, .inl (b2 7)))])) (fun _ _ => False) := by
  have hH := hB.he hC
  have hO := hB.mo hC
  refine CxG.of RX7 (by decide +kernel) rfl (Nat.le_of_ble_eq_true rfl) ?_
  intro p e s m below meth c A ls C hml hl hA hr hlocks hex hnm hZ hW
  have hl : lv_has ls 1 [(0, .ref a0)] := hl
  have hx := C.1
  have hb := C.2.1
  refine lv_aload_n hx hb dX7_beginNextSeason_0 rfl (lv_at hl 0 rfl) ?_
  refine lv_aload_n hx hb dX7_beginNextSeason_1 rfl (lv_at hl 0 rfl) ?_
  refine cx_get C hW 0 3 rfl rfl (by decide) inX7 gw_185 rfl rfl dX7_beginNextSeason_2 ?_
  refine r_eq (y := (nI s0)) (hs0) ?_
  refine lv_iconst (v := nI 1) hx hb dX7_beginNextSeason_5 (by decide) ?_
  refine r_iaddN hx hb (a := s0) (b := 1) dX7_beginNextSeason_6 ?_
  refine lv_iconst (v := nI 4) hx hb dX7_beginNextSeason_7 (by decide) ?_
  refine r_geN hx hb (a := s0 + 1) (b := 4) (by omega) (by omega) (tgt := 20) dX7_beginNextSeason_8 (by decide) (fun c_8 => ?_) (fun c_8 => ?_)
  · refine lv_iconst (v := nI 0) hx hb dX7_beginNextSeason_20 (by decide) ?_
    refine cx_put C hW 0 3 (W1 := [(a0, .inr (10, [.ref a1, .ref a5, .ref a10, .int (nI 0), .int (bb 8 2), .int (bb 8 3), .int (bb 8 4), .int (bb 8 5), .int (bb 8 6), .int (bb 8 7), .int (bb 8 8)])), (a1, .inr (6, [.ref a2, .ref a3, .ref a4, .int (nI nh)])), (a2, .inl (aT 0, 6, .inl (bb 0))), (a3, .inl (aT 0, 6, .inl (bb 1))), (a4, .inl (aT 0, 6, .inl (bb 2))), (a5, .inr (8, [.ref a6, .ref a7, .ref a8, .ref a9, .int (nI nm), .int (bb 8 0)])), (a6, .inl (aT 0, 12, .inl (bb 3))), (a7, .inl (aT 0, 12, .inl (bb 4))), (a8, .inl (aT 0, 12, .inl (bb 5))), (a9, .inl (aT 0, 12, .inl (bb 6))), (a10, .inl (aT 0, 4, .inl (bb 7)))]) rfl rfl (by decide) inX7 tyX7 tyX7_ok nmX7 gw_185 rfl rfl rfl rfl rfl (Nat.le_of_ble_eq_true rfl) rfl dX7_beginNextSeason_21 (fun H locs hW => ?_)
    refine lv_aload_n hx hb dX7_beginNextSeason_24 rfl (lv_at hl 0 rfl) ?_
    refine cx_get C hW 0 0 rfl rfl (by decide) inX7 gw_179 rfl rfl dX7_beginNextSeason_25 ?_
    refine lv_aload_n hx hb dX7_beginNextSeason_28 rfl (lv_at hl 0 rfl) ?_
    refine cx_get C hW 0 3 rfl rfl (by decide) inX7 gw_185 rfl rfl dX7_beginNextSeason_29 ?_
    refine cx_callv (Wr := [(a0, .inr (10, [.ref a1, .ref a5, .ref a10, .int (nI 0), .int (bb 8 2), .int (bb 8 3), .int (bb 8 4), .int (bb 8 5), .int (bb 8 6), .int (bb 8 7), .int (bb 8 8)])), (a5, .inr (8, [.ref a6, .ref a7, .ref a8, .ref a9, .int (nI nm), .int (bb 8 0)])), (a6, .inl (aT 0, 12, .inl (bb 3))), (a7, .inl (aT 0, 12, .inl (bb 4))), (a8, .inl (aT 0, 12, .inl (bb 5))), (a9, .inl (aT 0, 12, .inl (bb 6))), (a10, .inl (aT 0, 4, .inl (bb 7)))]) (cx_runV C hml hl.1 hZ hW hA (As := [.int (nI 0)]) (rest := []) (k_X2_meet l hfl D aT a1 a2 a3 a4 (bb 0) (bb 1) (bb 2) nh (lvM M) (thM M) (taM M) hH 0 (by omega)) gV_X7_X2_meet_155 hV_X2_meet rfl ⟨Nat.le_of_ble_eq_true rfl, Nat.le_of_ble_eq_true rfl⟩ ⟨Nat.le_of_ble_eq_true rfl, Nat.le_of_ble_eq_true rfl⟩ [1, 2, 3, 4] rfl (by decide) 1 6 rfl rfl rfl rfl (Nat.le_of_ble_eq_true rfl) dX7_beginNextSeason_32) hW hA [1, 2, 3, 4] [0, 5, 6, 7, 8, 9, 10] rfl rfl (by decide) (by decide) (fun _ _ _ _ _ _ h9 => h9.elim) (fun W_32 H locs hq hW => ?_)
    obtain ⟨fL_32, fT_32, hm_32, rfl⟩ := hq
    have hW : CxB D [(a0, .inr (10, [.ref a1, .ref a5, .ref a10, .int (nI 0), .int (bb 8 2), .int (bb 8 3), .int (bb 8 4), .int (bb 8 5), .int (bb 8 6), .int (bb 8 7), .int (bb 8 8)])), (a5, .inr (8, [.ref a6, .ref a7, .ref a8, .ref a9, .int (nI nm), .int (bb 8 0)])), (a6, .inl (aT 0, 12, .inl (bb 3))), (a7, .inl (aT 0, 12, .inl (bb 4))), (a8, .inl (aT 0, 12, .inl (bb 5))), (a9, .inl (aT 0, 12, .inl (bb 6))), (a10, .inl (aT 0, 4, .inl (bb 7))), (a1, .inr (6, [.ref a2, .ref a3, .ref a4, .int (nI nh)])), (a2, .inl (aT 0, 6, .inl fL_32)), (a3, .inl (aT 0, 6, .inl fT_32)), (a4, .inl (aT 0, 6, .inl (bb 2)))] A s.heap H _ := hW
    have hW : CxB D [(a0, .inr (10, [.ref a1, .ref a5, .ref a10, .int (nI 0), .int (bb 8 2), .int (bb 8 3), .int (bb 8 4), .int (bb 8 5), .int (bb 8 6), .int (bb 8 7), .int (bb 8 8)])), (a1, .inr (6, [.ref a2, .ref a3, .ref a4, .int (nI nh)])), (a2, .inl (aT 0, 6, .inl fL_32)), (a3, .inl (aT 0, 6, .inl fT_32)), (a4, .inl (aT 0, 6, .inl (bb 2))), (a5, .inr (8, [.ref a6, .ref a7, .ref a8, .ref a9, .int (nI nm), .int (bb 8 0)])), (a6, .inl (aT 0, 12, .inl (bb 3))), (a7, .inl (aT 0, 12, .inl (bb 4))), (a8, .inl (aT 0, 12, .inl (bb 5))), (a9, .inl (aT 0, 12, .inl (bb 6))), (a10, .inl (aT 0, 4, .inl (bb 7)))] A s.heap H _ := cx_drop hW [0, 7, 8, 9, 10, 1, 2, 3, 4, 5, 6] rfl (by decide)
    exact cx_vret C hr hlocks hW ⟨Nat.le_of_ble_eq_true rfl, Nat.le_of_ble_eq_true rfl⟩ (by
        rw [show (s0 + 1) % 4 = 0 by omega]
        exact ⟨_, hB.sea hC (fun i hi => (hm_32.2.1 i hi).1) (fun i hi => (hm_32.2.2.1 i hi).1), rfl⟩) dX7_beginNextSeason_35
  · refine lv_aload_n hx hb dX7_beginNextSeason_11 rfl (lv_at hl 0 rfl) ?_
    refine cx_get C hW 0 3 rfl rfl (by decide) inX7 gw_185 rfl rfl dX7_beginNextSeason_12 ?_
    refine r_eq (y := (nI s0)) (hs0) ?_
    refine lv_iconst (v := nI 1) hx hb dX7_beginNextSeason_15 (by decide) ?_
    refine r_iaddN hx hb (a := s0) (b := 1) dX7_beginNextSeason_16 ?_
    refine lv_goto (tgt := 21) hx hb dX7_beginNextSeason_17 (by decide) ?_
    refine cx_put C hW 0 3 (W1 := [(a0, .inr (10, [.ref a1, .ref a5, .ref a10, .int (nI (s0 + 1)), .int (bb 8 2), .int (bb 8 3), .int (bb 8 4), .int (bb 8 5), .int (bb 8 6), .int (bb 8 7), .int (bb 8 8)])), (a1, .inr (6, [.ref a2, .ref a3, .ref a4, .int (nI nh)])), (a2, .inl (aT 0, 6, .inl (bb 0))), (a3, .inl (aT 0, 6, .inl (bb 1))), (a4, .inl (aT 0, 6, .inl (bb 2))), (a5, .inr (8, [.ref a6, .ref a7, .ref a8, .ref a9, .int (nI nm), .int (bb 8 0)])), (a6, .inl (aT 0, 12, .inl (bb 3))), (a7, .inl (aT 0, 12, .inl (bb 4))), (a8, .inl (aT 0, 12, .inl (bb 5))), (a9, .inl (aT 0, 12, .inl (bb 6))), (a10, .inl (aT 0, 4, .inl (bb 7)))]) rfl rfl (by decide) inX7 tyX7 tyX7_ok nmX7 gw_185 rfl rfl rfl rfl rfl (Nat.le_of_ble_eq_true rfl) rfl dX7_beginNextSeason_21 (fun H locs hW => ?_)
    refine lv_aload_n hx hb dX7_beginNextSeason_24 rfl (lv_at hl 0 rfl) ?_
    refine cx_get C hW 0 0 rfl rfl (by decide) inX7 gw_179 rfl rfl dX7_beginNextSeason_25 ?_
    refine lv_aload_n hx hb dX7_beginNextSeason_28 rfl (lv_at hl 0 rfl) ?_
    refine cx_get C hW 0 3 rfl rfl (by decide) inX7 gw_185 rfl rfl dX7_beginNextSeason_29 ?_
    refine cx_callv (Wr := [(a0, .inr (10, [.ref a1, .ref a5, .ref a10, .int (nI (s0 + 1)), .int (bb 8 2), .int (bb 8 3), .int (bb 8 4), .int (bb 8 5), .int (bb 8 6), .int (bb 8 7), .int (bb 8 8)])), (a5, .inr (8, [.ref a6, .ref a7, .ref a8, .ref a9, .int (nI nm), .int (bb 8 0)])), (a6, .inl (aT 0, 12, .inl (bb 3))), (a7, .inl (aT 0, 12, .inl (bb 4))), (a8, .inl (aT 0, 12, .inl (bb 5))), (a9, .inl (aT 0, 12, .inl (bb 6))), (a10, .inl (aT 0, 4, .inl (bb 7)))]) (cx_runV C hml hl.1 hZ hW hA (As := [.int (nI (s0 + 1))]) (rest := []) (k_X2_meet l hfl D aT a1 a2 a3 a4 (bb 0) (bb 1) (bb 2) nh (lvM M) (thM M) (taM M) hH (s0 + 1) (by omega)) gV_X7_X2_meet_155 hV_X2_meet rfl ⟨Nat.le_of_ble_eq_true rfl, Nat.le_of_ble_eq_true rfl⟩ ⟨Nat.le_of_ble_eq_true rfl, Nat.le_of_ble_eq_true rfl⟩ [1, 2, 3, 4] rfl (by decide) 1 6 rfl rfl rfl rfl (Nat.le_of_ble_eq_true rfl) dX7_beginNextSeason_32) hW hA [1, 2, 3, 4] [0, 5, 6, 7, 8, 9, 10] rfl rfl (by decide) (by decide) (fun _ _ _ _ _ _ h9 => h9.elim) (fun W_32 H locs hq hW => ?_)
    obtain ⟨fL_32, fT_32, hm_32, rfl⟩ := hq
    have hW : CxB D [(a0, .inr (10, [.ref a1, .ref a5, .ref a10, .int (nI (s0 + 1)), .int (bb 8 2), .int (bb 8 3), .int (bb 8 4), .int (bb 8 5), .int (bb 8 6), .int (bb 8 7), .int (bb 8 8)])), (a5, .inr (8, [.ref a6, .ref a7, .ref a8, .ref a9, .int (nI nm), .int (bb 8 0)])), (a6, .inl (aT 0, 12, .inl (bb 3))), (a7, .inl (aT 0, 12, .inl (bb 4))), (a8, .inl (aT 0, 12, .inl (bb 5))), (a9, .inl (aT 0, 12, .inl (bb 6))), (a10, .inl (aT 0, 4, .inl (bb 7))), (a1, .inr (6, [.ref a2, .ref a3, .ref a4, .int (nI nh)])), (a2, .inl (aT 0, 6, .inl fL_32)), (a3, .inl (aT 0, 6, .inl fT_32)), (a4, .inl (aT 0, 6, .inl (bb 2)))] A s.heap H _ := hW
    have hW : CxB D [(a0, .inr (10, [.ref a1, .ref a5, .ref a10, .int (nI (s0 + 1)), .int (bb 8 2), .int (bb 8 3), .int (bb 8 4), .int (bb 8 5), .int (bb 8 6), .int (bb 8 7), .int (bb 8 8)])), (a1, .inr (6, [.ref a2, .ref a3, .ref a4, .int (nI nh)])), (a2, .inl (aT 0, 6, .inl fL_32)), (a3, .inl (aT 0, 6, .inl fT_32)), (a4, .inl (aT 0, 6, .inl (bb 2))), (a5, .inr (8, [.ref a6, .ref a7, .ref a8, .ref a9, .int (nI nm), .int (bb 8 0)])), (a6, .inl (aT 0, 12, .inl (bb 3))), (a7, .inl (aT 0, 12, .inl (bb 4))), (a8, .inl (aT 0, 12, .inl (bb 5))), (a9, .inl (aT 0, 12, .inl (bb 6))), (a10, .inl (aT 0, 4, .inl (bb 7)))] A s.heap H _ := cx_drop hW [0, 7, 8, 9, 10, 1, 2, 3, 4, 5, 6] rfl (by decide)
    exact cx_vret C hr hlocks hW ⟨Nat.le_of_ble_eq_true rfl, Nat.le_of_ble_eq_true rfl⟩ (by
        rw [show (s0 + 1) % 4 = s0 + 1 by omega]
        exact ⟨_, hB.sea hC (fun i hi => (hm_32.2.1 i hi).1) (fun i hi => (hm_32.2.2.1 i hi).1), rfl⟩) dX7_beginNextSeason_35
theorem dX7_accountedWeight_0 : decode cX7_accountedWeight 0 = .ok (.aload_n 0, 1) := by decide +kernel
theorem dX7_accountedWeight_1 : decode cX7_accountedWeight 1 = .ok (.getfield 52, 3) := by decide +kernel
theorem dX7_accountedWeight_4 : decode cX7_accountedWeight 4 = .ok (.aload_n 0, 1) := by decide +kernel
theorem dX7_accountedWeight_5 : decode cX7_accountedWeight 5 = .ok (.getfield 55, 3) := by decide +kernel
theorem dX7_accountedWeight_8 : decode cX7_accountedWeight 8 = .ok (.isub, 1) := by decide +kernel
theorem dX7_accountedWeight_9 : decode cX7_accountedWeight 9 = .ok (.aload_n 0, 1) := by decide +kernel
theorem dX7_accountedWeight_10 : decode cX7_accountedWeight 10 = .ok (.getfield 58, 3) := by decide +kernel
theorem dX7_accountedWeight_13 : decode cX7_accountedWeight 13 = .ok (.isub, 1) := by decide +kernel
theorem dX7_accountedWeight_14 : decode cX7_accountedWeight 14 = .ok (.aload_n 0, 1) := by decide +kernel
theorem dX7_accountedWeight_15 : decode cX7_accountedWeight 15 = .ok (.getfield 61, 3) := by decide +kernel
theorem dX7_accountedWeight_18 : decode cX7_accountedWeight 18 = .ok (.isub, 1) := by decide +kernel
theorem dX7_accountedWeight_19 : decode cX7_accountedWeight 19 = .ok (.aload_n 0, 1) := by decide +kernel
theorem dX7_accountedWeight_20 : decode cX7_accountedWeight 20 = .ok (.getfield 64, 3) := by decide +kernel
theorem dX7_accountedWeight_23 : decode cX7_accountedWeight 23 = .ok (.isub, 1) := by decide +kernel
theorem dX7_accountedWeight_24 : decode cX7_accountedWeight 24 = .ok (.ireturn, 1) := by decide +kernel
set_option maxHeartbeats 2000000 in
set_option maxRecDepth 20000 in
theorem k_X7_accountedWeight (l : Launch) (hfl : l.stackTraces = false) (D : va_G) (aT : Nat → ClassId) (a0 : Nat) (a1 : Nat) (a2 : Nat) (a3 : Nat) (a4 : Nat) (a5 : Nat) (a6 : Nat) (a7 : Nat) (a8 : Nat) (a9 : Nat) (a10 : Nat) (bb : Nat → Nat → Int32) (nh : Nat) (nm : Nat) : CxG l yX7_accountedWeight cX7_accountedWeight 1 (some (.int)) 0 0 0 0 D aT [.ref a0] [(a0, .inr (10, [.ref a1, .ref a5, .ref a10, .int (bb 8 1), .int (bb 8 2), .int (bb 8 3), .int (bb 8 4), .int (bb 8 5), .int (bb 8 6), .int (bb 8 7), .int (bb 8 8)])), (a1, .inr (6, [.ref a2, .ref a3, .ref a4, .int (nI nh)])), (a2, .inl (aT 0, 6, .inl (bb 0))), (a3, .inl (aT 0, 6, .inl (bb 1))), (a4, .inl (aT 0, 6, .inl (bb 2))), (a5, .inr (8, [.ref a6, .ref a7, .ref a8, .ref a9, .int (nI nm), .int (bb 8 0)])), (a6, .inl (aT 0, 12, .inl (bb 3))), (a7, .inl (aT 0, 12, .inl (bb 4))), (a8, .inl (aT 0, 12, .inl (bb 5))), (a9, .inl (aT 0, 12, .inl (bb 6))), (a10, .inl (aT 0, 4, .inl (bb 7)))] (qI D aT (fun r W1 => r = (((((bb 8 4) - (bb 8 5)) - (bb 8 6)) - (bb 8 7)) - (bb 8 8)) ∧ W1 = [(a0, .inr (10, [.ref a1, .ref a5, .ref a10, .int (bb 8 1), .int (bb 8 2), .int (bb 8 3), .int (bb 8 4), .int (bb 8 5), .int (bb 8 6), .int (bb 8 7), .int (bb 8 8)])), (a1, .inr (6, [.ref a2, .ref a3, .ref a4, .int (nI nh)])), (a2, .inl (aT 0, 6, .inl (bb 0))), (a3, .inl (aT 0, 6, .inl (bb 1))), (a4, .inl (aT 0, 6, .inl (bb 2))), (a5, .inr (8, [.ref a6, .ref a7, .ref a8, .ref a9, .int (nI nm), .int (bb 8 0)])), (a6, .inl (aT 0, 12, .inl (bb 3))), (a7, .inl (aT 0, 12, .inl (bb 4))), (a8, .inl (aT 0, 12, .inl (bb 5))), (a9, .inl (aT 0, 12, .inl (bb 6))), (a10, .inl (aT 0, 4, .inl (bb 7)))])) (fun _ _ => False) := by
  refine CxG.of RX7 (by decide +kernel) rfl (Nat.le_of_ble_eq_true rfl) ?_
  intro p e s m below meth c A ls C hml hl hA hr hlocks hex hnm hZ hW
  have hl : lv_has ls 1 [(0, .ref a0)] := hl
  have hx := C.1
  have hb := C.2.1
  refine lv_aload_n hx hb dX7_accountedWeight_0 rfl (lv_at hl 0 rfl) ?_
  refine cx_get C hW 0 6 rfl rfl (by decide) inX7 gw_191 rfl rfl dX7_accountedWeight_1 ?_
  refine lv_aload_n hx hb dX7_accountedWeight_4 rfl (lv_at hl 0 rfl) ?_
  refine cx_get C hW 0 7 rfl rfl (by decide) inX7 gw_192 rfl rfl dX7_accountedWeight_5 ?_
  refine lv_isub hx hb dX7_accountedWeight_8 ?_
  refine lv_aload_n hx hb dX7_accountedWeight_9 rfl (lv_at hl 0 rfl) ?_
  refine cx_get C hW 0 8 rfl rfl (by decide) inX7 gw_193 rfl rfl dX7_accountedWeight_10 ?_
  refine lv_isub hx hb dX7_accountedWeight_13 ?_
  refine lv_aload_n hx hb dX7_accountedWeight_14 rfl (lv_at hl 0 rfl) ?_
  refine cx_get C hW 0 9 rfl rfl (by decide) inX7 gw_194 rfl rfl dX7_accountedWeight_15 ?_
  refine lv_isub hx hb dX7_accountedWeight_18 ?_
  refine lv_aload_n hx hb dX7_accountedWeight_19 rfl (lv_at hl 0 rfl) ?_
  refine cx_get C hW 0 10 rfl rfl (by decide) inX7 gw_195 rfl rfl dX7_accountedWeight_20 ?_
  refine lv_isub hx hb dX7_accountedWeight_23 ?_
  exact cx_iret C hr hlocks rfl hW ⟨Nat.le_of_ble_eq_true rfl, Nat.le_of_ble_eq_true rfl⟩ (⟨rfl, rfl⟩) dX7_accountedWeight_24
