theorem dL_writeBranch_0 : decode cL_writeBranch 0 = .ok (.aload_n 2, 1) := by decide +kernel
theorem dL_writeBranch_1 : decode cL_writeBranch 1 = .ok (.iconst 0, 1) := by decide +kernel
theorem dL_writeBranch_2 : decode cL_writeBranch 2 = .ok (.aload_n 0, 1) := by decide +kernel
theorem dL_writeBranch_3 : decode cL_writeBranch 3 = .ok (.iload_n 1, 1) := by decide +kernel
theorem dL_writeBranch_4 : decode cL_writeBranch 4 = .ok (.invokevirtual 127, 3) := by decide +kernel
theorem dL_writeBranch_7 : decode cL_writeBranch 7 = .ok (.i2l, 1) := by decide +kernel
theorem dL_writeBranch_8 : decode cL_writeBranch 8 = .ok (.lastore, 1) := by decide +kernel
theorem dL_writeBranch_9 : decode cL_writeBranch 9 = .ok (.goto 6, 3) := by decide +kernel
theorem dL_writeBranch_12 : decode cL_writeBranch 12 = .ok (.astore_n 3, 1) := by decide +kernel
theorem dL_writeBranch_13 : decode cL_writeBranch 13 = .ok (.iconst 1, 1) := by decide +kernel
theorem dL_writeBranch_14 : decode cL_writeBranch 14 = .ok (.ireturn, 1) := by decide +kernel
theorem dL_writeBranch_15 : decode cL_writeBranch 15 = .ok (.iconst 0, 1) := by decide +kernel
theorem dL_writeBranch_16 : decode cL_writeBranch 16 = .ok (.ireturn, 1) := by decide +kernel
theorem gV_L_X9_writeBranch_127 : GoodIn gw (wsV RL 127 RX9 yX9_writeBranch (Cond.code yX9_writeBranch cX9_writeBranch 3 (some .int) :: gw)) := gdV gw_1337 gw_1338 gw_1339 gw_67 gw_1340
theorem hV_X9_writeBranch : yX9_writeBranch.cls = RX9 ∧ yX9_writeBranch.cls ≠ "java/lang/invoke/MethodHandle" ∧ yX9_writeBranch.cls ≠ "java/lang/invoke/VarHandle" ∧ (parseMethodDescriptor yX9_writeBranch.desc).map (fun d => d.parameters.length) = some 1 := ⟨rfl, by decide +kernel, by decide +kernel, by decide +kernel⟩
set_option maxHeartbeats 2000000 in
set_option maxRecDepth 20000 in
theorem k_L_writeBranch (l : Launch) (hfl : l.stackTraces = false) (D : va_G) (aT : Nat → ClassId) (u0 : Nat) (o : Nat → Int64) (x0 : Nat) (v0 : Nat) (t0 : Nat) (p0 : Nat) (o0 : Nat) (sv : Bool) (le : Int32) (lf : Int32) (h0 : Nat) (a0 : Nat) (a1 : Nat) (a2 : Nat) (a3 : Nat) (a4 : Nat) (a5 : Nat) (a6 : Nat) (a7 : Nat) (a8 : Nat) (a9 : Nat) (a10 : Nat) (bb : Nat → Nat → Int32) (nh : Nat) (nm : Nat) (M : Nat → Int32) (Bd : Nat) (hBd : Bd < 1048000) (hC : CoW M Bd) (hB : BlC bb nh nm M) (ov : Nat) (cn : Nat) (cp : Nat) (fO : Nat → Int32) (mb : Int32) (hfit : sb_Fit fO) (hcn : cn ≤ cp) (hcp : cp ≤ 4000) (x : Int32) : CxT l yL_writeBranch cL_writeBranch 4 (some (.int)) [(0, 9, 12, 24)] 24 106 13508 647 D aT [.ref x0, .int x, .ref u0] [(u0, .inl (aT 2, 1, .inr (.inl o))), (x0, .inr (12, [.ref a0, .ref v0, .ref h0, .ref t0, .ref p0, .ref o0, .int (bI sv), .int le, .int lf])), (a0, .inr (10, [.ref a1, .ref a5, .ref a10, .int (bb 8 1), .int (bb 8 2), .int (bb 8 3), .int (bb 8 4), .int (bb 8 5), .int (bb 8 6), .int (bb 8 7), .int (bb 8 8)])), (a1, .inr (6, [.ref a2, .ref a3, .ref a4, .int (nI nh)])), (a2, .inl (aT 0, 6, .inl (bb 0))), (a3, .inl (aT 0, 6, .inl (bb 1))), (a4, .inl (aT 0, 6, .inl (bb 2))), (a5, .inr (8, [.ref a6, .ref a7, .ref a8, .ref a9, .int (nI nm), .int (bb 8 0)])), (a6, .inl (aT 0, 12, .inl (bb 3))), (a7, .inl (aT 0, 12, .inl (bb 4))), (a8, .inl (aT 0, 12, .inl (bb 5))), (a9, .inl (aT 0, 12, .inl (bb 6))), (a10, .inl (aT 0, 4, .inl (bb 7))), (o0, .inr (1, [.ref ov, .int (nI 0), .int mb, .int (nI cn)])), (ov, .inl (aT 4, cp, .inl fO))] (qI D aT (fun r W1 => ∃ (W2 : va_W) (o2 : Nat → Int64), ((∃ r0 : Int32, r = nI 0 ∧ o2 0 = r0.toInt64 ∧ (fun r W1 => (∃ q, fnd (fun k => M (29 + 4 * k)) x nm = some q) ∧ ∃ (c2 p2 ov2 : Nat) (f2 : Nat → Int32) (m2 : Int32), (r = nI c2 ∧ sb_Fit f2 ∧ c2 ≤ p2 ∧ p2 ≤ 4000) ∧ W1 = [(x0, .inr (12, [.ref a0, .ref v0, .ref h0, .ref t0, .ref p0, .ref o0, .int (bI sv), .int le, .int lf])), (a0, .inr (10, [.ref a1, .ref a5, .ref a10, .int (bb 8 1), .int (bb 8 2), .int (bb 8 3), .int (bb 8 4), .int (bb 8 5), .int (bb 8 6), .int (bb 8 7), .int (bb 8 8)])), (a1, .inr (6, [.ref a2, .ref a3, .ref a4, .int (nI nh)])), (a2, .inl (aT 0, 6, .inl (bb 0))), (a3, .inl (aT 0, 6, .inl (bb 1))), (a4, .inl (aT 0, 6, .inl (bb 2))), (a5, .inr (8, [.ref a6, .ref a7, .ref a8, .ref a9, .int (nI nm), .int (bb 8 0)])), (a6, .inl (aT 0, 12, .inl (bb 3))), (a7, .inl (aT 0, 12, .inl (bb 4))), (a8, .inl (aT 0, 12, .inl (bb 5))), (a9, .inl (aT 0, 12, .inl (bb 6))), (a10, .inl (aT 0, 4, .inl (bb 7))), (o0, .inr (1, [.ref ov2, .int (nI 0), .int m2, .int (nI c2)])), (ov2, .inl (aT 4, p2, .inl f2))]) r0 W2) ∨ (∃ E9 : String, (fun E W1 => (E = "java/util/NoSuchElementException" ∧ fnd (fun k => M (29 + 4 * k)) x nm = none) ∧ W1 = [(x0, .inr (12, [.ref a0, .ref v0, .ref h0, .ref t0, .ref p0, .ref o0, .int (bI sv), .int le, .int lf])), (a0, .inr (10, [.ref a1, .ref a5, .ref a10, .int (bb 8 1), .int (bb 8 2), .int (bb 8 3), .int (bb 8 4), .int (bb 8 5), .int (bb 8 6), .int (bb 8 7), .int (bb 8 8)])), (a1, .inr (6, [.ref a2, .ref a3, .ref a4, .int (nI nh)])), (a2, .inl (aT 0, 6, .inl (bb 0))), (a3, .inl (aT 0, 6, .inl (bb 1))), (a4, .inl (aT 0, 6, .inl (bb 2))), (a5, .inr (8, [.ref a6, .ref a7, .ref a8, .ref a9, .int (nI nm), .int (bb 8 0)])), (a6, .inl (aT 0, 12, .inl (bb 3))), (a7, .inl (aT 0, 12, .inl (bb 4))), (a8, .inl (aT 0, 12, .inl (bb 5))), (a9, .inl (aT 0, 12, .inl (bb 6))), (a10, .inl (aT 0, 4, .inl (bb 7))), (o0, .inr (1, [.ref ov, .int (nI 0), .int mb, .int (nI cn)])), (ov, .inl (aT 4, cp, .inl fO))]) E9 W2 ∧ ((E9 = "java/util/NoSuchElementException" ∧ r = nI 1)))) ∧ W1 = ([(u0, .inl (aT 2, 1, .inr (.inl o2)))] ++ W2))) := by
  refine CxT.of RL (by decide +kernel) rfl (Nat.le_of_ble_eq_true rfl) ?_
  intro p e s m below meth c A ls C hml hl hA hr hlocks htb hZ hW
  have hl : lv_has ls 4 [(0, .ref x0), (1, .int x), (2, .ref u0)] := hl
  have hx := C.1
  have hb := C.2.1
  refine lv_aload_n hx hb dL_writeBranch_0 rfl (lv_at hl 2 rfl) ?_
  refine lv_iconst (v := nI 0) hx hb dL_writeBranch_1 (by decide) ?_
  refine lv_aload_n hx hb dL_writeBranch_2 rfl (lv_at hl 0 rfl) ?_
  refine lv_iload_n hx hb dL_writeBranch_3 rfl (lv_at hl 1 rfl) ?_
  refine cx_calli (Wr := [(u0, .inl (aT 2, 1, .inr (.inl o)))]) (cx_runV C hml hl.1 hZ hW hA (As := [.int x]) (rest := [.int (nI 0), .ref u0]) (k_X9_writeBranch l hfl D aT x0 v0 t0 p0 o0 sv le lf h0 a0 a1 a2 a3 a4 a5 a6 a7 a8 a9 a10 bb nh nm M Bd hBd hC hB ov cn cp fO mb hfit hcn hcp x) gV_L_X9_writeBranch_127 hV_X9_writeBranch rfl ⟨Nat.le_of_ble_eq_true rfl, Nat.le_of_ble_eq_true rfl⟩ ⟨Nat.le_of_ble_eq_true rfl, Nat.le_of_ble_eq_true rfl⟩ [1, 2, 3, 4, 5, 6, 7, 8, 9, 10, 11, 12, 13, 14] rfl (by decide) 1 12 rfl rfl rfl rfl (Nat.le_of_ble_eq_true rfl) dL_writeBranch_4) hW hA [1, 2, 3, 4, 5, 6, 7, 8, 9, 10, 11, 12, 13, 14] [0] rfl rfl (by decide) (by decide) ?_ (fun r_4 W_4 H locs hq hW => ?_)
  rotate_left
  obtain hq := hq
  have hW : CxB D ([(u0, .inl (aT 2, 1, .inr (.inl o)))] ++ W_4) A s.heap H _ := hW
  refine lv_i2l (v := (r_4).toInt64) hx hb dL_writeBranch_7 rfl ?_
  refine cx_last C hW 0 2 (j := 0) (W1 := ([(u0, .inl (aT 2, 1, .inr (.inl (vp_updL o 0 ((r_4).toInt64)))))] ++ W_4)) rfl rfl rfl (by omega) (by decide) rfl dL_writeBranch_8 (fun H locs hW => ?_)
  refine lv_goto (tgt := 15) hx hb dL_writeBranch_9 (by decide) ?_
  refine lv_iconst (v := nI 0) hx hb dL_writeBranch_15 (by decide) ?_
  exact cx_tret C hr hlocks rfl hW ⟨Nat.le_of_ble_eq_true rfl, Nat.le_of_ble_eq_true rfl⟩ (⟨W_4, _, Or.inl ⟨r_4, rfl, rfl, hq⟩, rfl⟩) dL_writeBranch_16
  · intro E ce q9 W9 H locs hE hW h7 h8 h9
    have hE2 := hE
    rcases (show E = "java/util/NoSuchElementException" from by
      clear hW
      revert hE
      grind) with rfl
    · have hW : CxB D ([(u0, .inl (aT 2, 1, .inr (.inl o)))] ++ W9) A s.heap H _ := hW
      refine cx_catchT C hZ (nm := "java/util/NoSuchElementException") [] ⟨0, 9, 12, 24⟩ (tableOf []) htb (fun z hz => by cases hz) (by decide) (by decide) gw_690 nw_705 h7 h8 h9 ?_
      refine lv_astore_n (lv' := [(3, .ref q9), (0, .ref x0), (1, .int x), (2, .ref u0)]) hx hb dL_writeBranch_12 rfl hl (by decide) rfl (fun ls hl => ?_)
      refine lv_iconst (v := nI 1) hx hb dL_writeBranch_13 (by decide) ?_
      exact cx_tret C hr hlocks rfl hW ⟨Nat.le_of_ble_eq_true rfl, Nat.le_of_ble_eq_true rfl⟩ (⟨W9, _, Or.inr ⟨_, hE2, ⟨rfl, rfl⟩⟩, rfl⟩) dL_writeBranch_14
theorem dL_outputAt_0 : decode cL_outputAt 0 = .ok (.aload_n 2, 1) := by decide +kernel
theorem dL_outputAt_1 : decode cL_outputAt 1 = .ok (.iconst 0, 1) := by decide +kernel
theorem dL_outputAt_2 : decode cL_outputAt 2 = .ok (.aload_n 0, 1) := by decide +kernel
theorem dL_outputAt_3 : decode cL_outputAt 3 = .ok (.iload_n 1, 1) := by decide +kernel
theorem dL_outputAt_4 : decode cL_outputAt 4 = .ok (.invokevirtual 130, 3) := by decide +kernel
theorem dL_outputAt_7 : decode cL_outputAt 7 = .ok (.i2l, 1) := by decide +kernel
theorem dL_outputAt_8 : decode cL_outputAt 8 = .ok (.lastore, 1) := by decide +kernel
theorem dL_outputAt_9 : decode cL_outputAt 9 = .ok (.goto 6, 3) := by decide +kernel
theorem dL_outputAt_12 : decode cL_outputAt 12 = .ok (.astore_n 3, 1) := by decide +kernel
theorem dL_outputAt_13 : decode cL_outputAt 13 = .ok (.iconst 1, 1) := by decide +kernel
theorem dL_outputAt_14 : decode cL_outputAt 14 = .ok (.ireturn, 1) := by decide +kernel
theorem dL_outputAt_15 : decode cL_outputAt 15 = .ok (.iconst 0, 1) := by decide +kernel
theorem dL_outputAt_16 : decode cL_outputAt 16 = .ok (.ireturn, 1) := by decide +kernel
theorem gV_L_X9_outputAt_130 : GoodIn gw (wsV RL 130 RX9 yX9_outputAt (Cond.code yX9_outputAt cX9_outputAt 2 (some .char) :: gw)) := gdV gw_1582 gw_1583 gw_1584 gw_67 gw_1585
theorem hV_X9_outputAt : yX9_outputAt.cls = RX9 ∧ yX9_outputAt.cls ≠ "java/lang/invoke/MethodHandle" ∧ yX9_outputAt.cls ≠ "java/lang/invoke/VarHandle" ∧ (parseMethodDescriptor yX9_outputAt.desc).map (fun d => d.parameters.length) = some 1 := ⟨rfl, by decide +kernel, by decide +kernel, by decide +kernel⟩
set_option maxHeartbeats 2000000 in
set_option maxRecDepth 20000 in
theorem k_L_outputAt (l : Launch) (hfl : l.stackTraces = false) (D : va_G) (aT : Nat → ClassId) (u0 : Nat) (o : Nat → Int64) (x0 : Nat) (v0 : Nat) (t0 : Nat) (p0 : Nat) (o0 : Nat) (sv : Bool) (le : Int32) (lf : Int32) (h0 : Nat) (a0 : Nat) (ov : Nat) (cn : Nat) (cp : Nat) (fO : Nat → Int32) (mb : Int32) (hfit : sb_Fit fO) (hcn : cn ≤ cp) (hcp : cp ≤ 4000) (x : Int32) : CxT l yL_outputAt cL_outputAt 4 (some (.int)) [(0, 9, 12, 40)] 7 1 6 111 D aT [.ref x0, .int x, .ref u0] [(u0, .inl (aT 2, 1, .inr (.inl o))), (x0, .inr (12, [.ref a0, .ref v0, .ref h0, .ref t0, .ref p0, .ref o0, .int (bI sv), .int le, .int lf])), (o0, .inr (1, [.ref ov, .int (nI 0), .int mb, .int (nI cn)])), (ov, .inl (aT 4, cp, .inl fO))] (qI D aT (fun r W1 => ∃ (W2 : va_W) (o2 : Nat → Int64), ((∃ r0 : Int32, r = nI 0 ∧ o2 0 = r0.toInt64 ∧ (fun r W1 => ∃ y : Int32, r = (y.toUInt32 % 65536).toInt32 ∧ W1 = [(x0, .inr (12, [.ref a0, .ref v0, .ref h0, .ref t0, .ref p0, .ref o0, .int (bI sv), .int le, .int lf])), (o0, .inr (1, [.ref ov, .int (nI 0), .int mb, .int (nI cn)])), (ov, .inl (aT 4, cp, .inl fO))]) r0 W2) ∨ (∃ E9 : String, (fun E W1 => E = "java/lang/IndexOutOfBoundsException" ∧ W1 = [(x0, .inr (12, [.ref a0, .ref v0, .ref h0, .ref t0, .ref p0, .ref o0, .int (bI sv), .int le, .int lf])), (o0, .inr (1, [.ref ov, .int (nI 0), .int mb, .int (nI cn)])), (ov, .inl (aT 4, cp, .inl fO))]) E9 W2 ∧ ((E9 = "java/lang/IndexOutOfBoundsException" ∧ r = nI 1)))) ∧ W1 = ([(u0, .inl (aT 2, 1, .inr (.inl o2)))] ++ W2))) := by
  refine CxT.of RL (by decide +kernel) rfl (Nat.le_of_ble_eq_true rfl) ?_
  intro p e s m below meth c A ls C hml hl hA hr hlocks htb hZ hW
  have hl : lv_has ls 4 [(0, .ref x0), (1, .int x), (2, .ref u0)] := hl
  have hx := C.1
  have hb := C.2.1
  refine lv_aload_n hx hb dL_outputAt_0 rfl (lv_at hl 2 rfl) ?_
  refine lv_iconst (v := nI 0) hx hb dL_outputAt_1 (by decide) ?_
  refine lv_aload_n hx hb dL_outputAt_2 rfl (lv_at hl 0 rfl) ?_
  refine lv_iload_n hx hb dL_outputAt_3 rfl (lv_at hl 1 rfl) ?_
  refine cx_calli (Wr := [(u0, .inl (aT 2, 1, .inr (.inl o)))]) (cx_runV C hml hl.1 hZ hW hA (As := [.int x]) (rest := [.int (nI 0), .ref u0]) (k_X9_outputAt l hfl D aT x0 v0 t0 p0 o0 sv le lf h0 a0 ov cn cp fO mb hfit hcn hcp x) gV_L_X9_outputAt_130 hV_X9_outputAt rfl ⟨Nat.le_of_ble_eq_true rfl, Nat.le_of_ble_eq_true rfl⟩ ⟨Nat.le_of_ble_eq_true rfl, Nat.le_of_ble_eq_true rfl⟩ [1, 2, 3] rfl (by decide) 1 12 rfl rfl rfl rfl (Nat.le_of_ble_eq_true rfl) dL_outputAt_4) hW hA [1, 2, 3] [0] rfl rfl (by decide) (by decide) ?_ (fun r_4 W_4 H locs hq hW => ?_)
  rotate_left
  obtain hq := hq
  have hW : CxB D ([(u0, .inl (aT 2, 1, .inr (.inl o)))] ++ W_4) A s.heap H _ := hW
  refine lv_i2l (v := (r_4).toInt64) hx hb dL_outputAt_7 rfl ?_
  refine cx_last C hW 0 2 (j := 0) (W1 := ([(u0, .inl (aT 2, 1, .inr (.inl (vp_updL o 0 ((r_4).toInt64)))))] ++ W_4)) rfl rfl rfl (by omega) (by decide) rfl dL_outputAt_8 (fun H locs hW => ?_)
  refine lv_goto (tgt := 15) hx hb dL_outputAt_9 (by decide) ?_
  refine lv_iconst (v := nI 0) hx hb dL_outputAt_15 (by decide) ?_
  exact cx_tret C hr hlocks rfl hW ⟨Nat.le_of_ble_eq_true rfl, Nat.le_of_ble_eq_true rfl⟩ (⟨W_4, _, Or.inl ⟨r_4, rfl, rfl, hq⟩, rfl⟩) dL_outputAt_16
  · intro E ce q9 W9 H locs hE hW h7 h8 h9
    have hE2 := hE
    rcases (show E = "java/lang/IndexOutOfBoundsException" from by
      clear hW
      revert hE
      grind) with rfl
    · have hW : CxB D ([(u0, .inl (aT 2, 1, .inr (.inl o)))] ++ W9) A s.heap H _ := hW
      refine cx_catchT C hZ (nm := "java/lang/IndexOutOfBoundsException") [] ⟨0, 9, 12, 40⟩ (tableOf []) htb (fun z hz => by cases hz) (by decide) (by decide) gw_799 nw_837 h7 h8 h9 ?_
      refine lv_astore_n (lv' := [(3, .ref q9), (0, .ref x0), (1, .int x), (2, .ref u0)]) hx hb dL_outputAt_12 rfl hl (by decide) rfl (fun ls hl => ?_)
      refine lv_iconst (v := nI 1) hx hb dL_outputAt_13 (by decide) ?_
      exact cx_tret C hr hlocks rfl hW ⟨Nat.le_of_ble_eq_true rfl, Nat.le_of_ble_eq_true rfl⟩ (⟨W9, _, Or.inr ⟨_, hE2, ⟨rfl, rfl⟩⟩, rfl⟩) dL_outputAt_14
