section CXD
variable {p : Program} {l : Launch} {e : Env} {R : Room} {s : State} {m : MethodId} {args : Array Value} {below : List Frame} {meth : Method} {c : Code} {H : Heap} {locs : List Loc} {cells slots : Nat} {Q : State → Prop} {cc : ByteArray} {pc : Nat} {ls : Array Slot} {rest : List Value} {D : va_G} {aT : Nat → ClassId} {Wd : va_W} {A : Nat → Prop} {H0 : Heap} {own : String} {a : Nat}
theorem cx_dast (C : CxX p c cc s args m D aT own) (hW : CxB D Wd A H0 H locs) (i t0 : Nat) {n j : Nat} {f : Nat → UInt64} {x : UInt64} {ty : FieldType} {W1 : va_W} (he : Wd[i]? = some (a, .inl (aT t0, n, .inr (.inr (.inr (.inl f)))))) (ht : (tyG aT)[t0]? = some (aT t0, ty)) (hc : ty = .double) (hj : j < n) (hn : n < 2 ^ 31) (hW1 : Wd.set i (a, .inl (aT t0, n, .inr (.inr (.inr (.inl (vf_upd f j x)))))) = W1) (hdg : decode cc pc = .ok (.dastore, 1)) (kk : ∀ (H1 : Heap) (locs1 : List Loc), CxB D W1 A H0 H1 locs1 → W p l e R s m args below meth c H1 locs1 cells slots Q (F0 m (pc + 1) ls rest)) : W p l e R s m args below meth c H locs cells slots Q (F0 m pc ls (.double x :: .int (nI j) :: .ref a :: rest)) := by
  obtain ⟨hx, hb, hg, hown, hK⟩ := C
  subst hc
  refine va_dast (D := D) hx hb hK hW.1 hW.2.1 hW.2.2 i t0 he ht (vp_in_nI hj (by omega)) hdg (fun H1 locs1 h1 h2 h3 => ?_)
  rw [nI_clamp (by omega)] at h1 h2
  rw [hW1] at h1 h2
  exact kk H1 locs1 ⟨h1, h2, h3⟩
end CXD
theorem dL_meanLeaves_0 : decode cL_meanLeaves 0 = .ok (.aload_n 1, 1) := by decide +kernel
theorem dL_meanLeaves_1 : decode cL_meanLeaves 1 = .ok (.iconst 0, 1) := by decide +kernel
theorem dL_meanLeaves_2 : decode cL_meanLeaves 2 = .ok (.aload_n 0, 1) := by decide +kernel
theorem dL_meanLeaves_3 : decode cL_meanLeaves 3 = .ok (.invokevirtual 103, 3) := by decide +kernel
theorem dL_meanLeaves_6 : decode cL_meanLeaves 6 = .ok (.dastore, 1) := by decide +kernel
theorem dL_meanLeaves_7 : decode cL_meanLeaves 7 = .ok (.goto 6, 3) := by decide +kernel
theorem dL_meanLeaves_10 : decode cL_meanLeaves 10 = .ok (.astore_n 2, 1) := by decide +kernel
theorem dL_meanLeaves_11 : decode cL_meanLeaves 11 = .ok (.iconst 1, 1) := by decide +kernel
theorem dL_meanLeaves_12 : decode cL_meanLeaves 12 = .ok (.ireturn, 1) := by decide +kernel
theorem dL_meanLeaves_13 : decode cL_meanLeaves 13 = .ok (.iconst 0, 1) := by decide +kernel
theorem dL_meanLeaves_14 : decode cL_meanLeaves 14 = .ok (.ireturn, 1) := by decide +kernel
theorem gV_L_X9_meanLeaves_103 : GoodIn gw (wsV RL 103 RX9 yX9_meanLeaves (Cond.code yX9_meanLeaves cX9_meanLeaves 1 (some .double) :: gw)) := gdV gw_1071 gw_1072 gw_1073 gw_67 gw_1074
theorem hV_X9_meanLeaves : yX9_meanLeaves.cls = RX9 ∧ yX9_meanLeaves.cls ≠ "java/lang/invoke/MethodHandle" ∧ yX9_meanLeaves.cls ≠ "java/lang/invoke/VarHandle" ∧ (parseMethodDescriptor yX9_meanLeaves.desc).map (fun d => d.parameters.length) = some 0 := ⟨rfl, by decide +kernel, by decide +kernel, by decide +kernel⟩
set_option maxHeartbeats 2000000 in
set_option maxRecDepth 20000 in
theorem k_L_meanLeaves (l : Launch) (hfl : l.stackTraces = false) (D : va_G) (aT : Nat → ClassId) (u1 : Nat) (o : Nat → UInt64) (x0 : Nat) (v0 : Nat) (t0 : Nat) (p0 : Nat) (o0 : Nat) (sv : Bool) (le : Int32) (lf : Int32) (h0 : Nat) (a0 : Nat) (a1 : Nat) (a2 : Nat) (a3 : Nat) (a4 : Nat) (a5 : Nat) (a6 : Nat) (a7 : Nat) (a8 : Nat) (a9 : Nat) (a10 : Nat) (bb : Nat → Nat → Int32) (nh : Nat) (nm : Nat) (M : Nat → Int32) (Bd : Nat) (hBd : Bd < 1048000) (hC : CoW M Bd) (hB : BlC bb nh nm M) : CxT l yL_meanLeaves cL_meanLeaves 3 (some (.int)) [(0, 7, 10, 107)] 7 1 6 110 D aT [.ref x0, .ref u1] [(u1, .inl (aT 3, 1, .inr (.inr (.inr (.inl o))))), (x0, .inr (12, [.ref a0, .ref v0, .ref h0, .ref t0, .ref p0, .ref o0, .int (bI sv), .int le, .int lf])), (a0, .inr (10, [.ref a1, .ref a5, .ref a10, .int (bb 8 1), .int (bb 8 2), .int (bb 8 3), .int (bb 8 4), .int (bb 8 5), .int (bb 8 6), .int (bb 8 7), .int (bb 8 8)])), (a1, .inr (6, [.ref a2, .ref a3, .ref a4, .int (nI nh)])), (a2, .inl (aT 0, 6, .inl (bb 0))), (a3, .inl (aT 0, 6, .inl (bb 1))), (a4, .inl (aT 0, 6, .inl (bb 2))), (a5, .inr (8, [.ref a6, .ref a7, .ref a8, .ref a9, .int (nI nm), .int (bb 8 0)])), (a6, .inl (aT 0, 12, .inl (bb 3))), (a7, .inl (aT 0, 12, .inl (bb 4))), (a8, .inl (aT 0, 12, .inl (bb 5))), (a9, .inl (aT 0, 12, .inl (bb 6))), (a10, .inl (aT 0, 4, .inl (bb 7)))] (qI D aT (fun r W1 => ∃ (W2 : va_W) (o2 : Nat → UInt64), ((∃ r0 : UInt64, r = nI 0 ∧ o2 0 = r0 ∧ (fun r W1 => (0 < nh ∧ vf_n64 r ∧ r = FP.ddiv (FP.i2d (nI (sml (lvM M) nh))) (FP.i2d (nI nh))) ∧ W1 = [(x0, .inr (12, [.ref a0, .ref v0, .ref h0, .ref t0, .ref p0, .ref o0, .int (bI sv), .int le, .int lf])), (a0, .inr (10, [.ref a1, .ref a5, .ref a10, .int (bb 8 1), .int (bb 8 2), .int (bb 8 3), .int (bb 8 4), .int (bb 8 5), .int (bb 8 6), .int (bb 8 7), .int (bb 8 8)])), (a1, .inr (6, [.ref a2, .ref a3, .ref a4, .int (nI nh)])), (a2, .inl (aT 0, 6, .inl (bb 0))), (a3, .inl (aT 0, 6, .inl (bb 1))), (a4, .inl (aT 0, 6, .inl (bb 2))), (a5, .inr (8, [.ref a6, .ref a7, .ref a8, .ref a9, .int (nI nm), .int (bb 8 0)])), (a6, .inl (aT 0, 12, .inl (bb 3))), (a7, .inl (aT 0, 12, .inl (bb 4))), (a8, .inl (aT 0, 12, .inl (bb 5))), (a9, .inl (aT 0, 12, .inl (bb 6))), (a10, .inl (aT 0, 4, .inl (bb 7)))]) r0 W2) ∨ (∃ E9 : String, (fun E W1 => (E = "java/lang/ArithmeticException" ∧ nh = 0) ∧ W1 = [(x0, .inr (12, [.ref a0, .ref v0, .ref h0, .ref t0, .ref p0, .ref o0, .int (bI sv), .int le, .int lf])), (a0, .inr (10, [.ref a1, .ref a5, .ref a10, .int (bb 8 1), .int (bb 8 2), .int (bb 8 3), .int (bb 8 4), .int (bb 8 5), .int (bb 8 6), .int (bb 8 7), .int (bb 8 8)])), (a1, .inr (6, [.ref a2, .ref a3, .ref a4, .int (nI nh)])), (a2, .inl (aT 0, 6, .inl (bb 0))), (a3, .inl (aT 0, 6, .inl (bb 1))), (a4, .inl (aT 0, 6, .inl (bb 2))), (a5, .inr (8, [.ref a6, .ref a7, .ref a8, .ref a9, .int (nI nm), .int (bb 8 0)])), (a6, .inl (aT 0, 12, .inl (bb 3))), (a7, .inl (aT 0, 12, .inl (bb 4))), (a8, .inl (aT 0, 12, .inl (bb 5))), (a9, .inl (aT 0, 12, .inl (bb 6))), (a10, .inl (aT 0, 4, .inl (bb 7)))]) E9 W2 ∧ E9 = "java/lang/ArithmeticException" ∧ r = nI 1)) ∧ W1 = ([(u1, .inl (aT 3, 1, .inr (.inr (.inr (.inl o2)))))] ++ W2))) := by
  refine CxT.of RL (by decide +kernel) rfl (Nat.le_of_ble_eq_true rfl) ?_
  intro p e s m below meth c A ls C hml hl hA hr hlocks htb hZ hW
  have hl : lv_has ls 3 [(0, .ref x0), (1, .ref u1)] := hl
  have hx := C.1
  have hb := C.2.1
  refine lv_aload_n hx hb dL_meanLeaves_0 rfl (lv_at hl 1 rfl) ?_
  refine lv_iconst (v := nI 0) hx hb dL_meanLeaves_1 (by decide) ?_
  refine lv_aload_n hx hb dL_meanLeaves_2 rfl (lv_at hl 0 rfl) ?_
  refine cx_calld (Wr := [(u1, .inl (aT 3, 1, .inr (.inr (.inr (.inl o)))))]) (cx_runV C hml hl.1 hZ hW hA (As := []) (rest := [.int (nI 0), .ref u1]) (k_X9_meanLeaves l hfl D aT x0 v0 t0 p0 o0 sv le lf h0 a0 a1 a2 a3 a4 a5 a6 a7 a8 a9 a10 bb nh nm M Bd hBd hC hB) gV_L_X9_meanLeaves_103 hV_X9_meanLeaves rfl ⟨Nat.le_of_ble_eq_true rfl, Nat.le_of_ble_eq_true rfl⟩ ⟨Nat.le_of_ble_eq_true rfl, Nat.le_of_ble_eq_true rfl⟩ [1, 2, 3, 4, 5, 6, 7, 8, 9, 10, 11, 12] rfl (by decide) 1 12 rfl rfl rfl rfl (Nat.le_of_ble_eq_true rfl) dL_meanLeaves_3) hW hA [1, 2, 3, 4, 5, 6, 7, 8, 9, 10, 11, 12] [0] rfl rfl (by decide) (by decide) ?_ (fun r_3 W_3 H locs hq hW => ?_)
  rotate_left
  obtain hq := hq
  have hW : CxB D ([(u1, .inl (aT 3, 1, .inr (.inr (.inr (.inl o)))))] ++ W_3) A s.heap H _ := hW
  refine cx_dast C hW 0 3 (j := 0) (W1 := ([(u1, .inl (aT 3, 1, .inr (.inr (.inr (.inl (vf_upd o 0 r_3))))))] ++ W_3)) rfl rfl rfl (by omega) (by decide) rfl dL_meanLeaves_6 (fun H locs hW => ?_)
  refine lv_goto (tgt := 13) hx hb dL_meanLeaves_7 (by decide) ?_
  refine lv_iconst (v := nI 0) hx hb dL_meanLeaves_13 (by decide) ?_
  exact cx_tret C hr hlocks rfl hW ⟨Nat.le_of_ble_eq_true rfl, Nat.le_of_ble_eq_true rfl⟩ (⟨W_3, _, Or.inl ⟨r_3, rfl, rfl, hq⟩, rfl⟩) dL_meanLeaves_14
  · intro E ce q9 W9 H locs hE hW h7 h8 h9
    have hE2 := hE
    rcases (show E = "java/lang/ArithmeticException" from by
      clear hW
      revert hE
      grind) with rfl
    · have hW : CxB D ([(u1, .inl (aT 3, 1, .inr (.inr (.inr (.inl o)))))] ++ W9) A s.heap H _ := hW
      refine cx_catchT C hZ (nm := "java/lang/ArithmeticException") [] ⟨0, 7, 10, 107⟩ (tableOf []) htb (fun z hz => by cases hz) (by decide) (by decide) gw_1057 nw_1069 h7 h8 h9 ?_
      refine lv_astore_n (lv' := [(2, .ref q9), (0, .ref x0), (1, .ref u1)]) hx hb dL_meanLeaves_10 rfl hl (by decide) rfl (fun ls hl => ?_)
      refine lv_iconst (v := nI 1) hx hb dL_meanLeaves_11 (by decide) ?_
      exact cx_tret C hr hlocks rfl hW ⟨Nat.le_of_ble_eq_true rfl, Nat.le_of_ble_eq_true rfl⟩ (⟨W9, _, Or.inr ⟨_, hE2, rfl, rfl⟩, rfl⟩) dL_meanLeaves_12
theorem dL_carriedShare_0 : decode cL_carriedShare 0 = .ok (.aload_n 1, 1) := by decide +kernel
theorem dL_carriedShare_1 : decode cL_carriedShare 1 = .ok (.iconst 0, 1) := by decide +kernel
theorem dL_carriedShare_2 : decode cL_carriedShare 2 = .ok (.aload_n 0, 1) := by decide +kernel
theorem dL_carriedShare_3 : decode cL_carriedShare 3 = .ok (.invokevirtual 109, 3) := by decide +kernel
theorem dL_carriedShare_6 : decode cL_carriedShare 6 = .ok (.f2d, 1) := by decide +kernel
theorem dL_carriedShare_7 : decode cL_carriedShare 7 = .ok (.dastore, 1) := by decide +kernel
theorem dL_carriedShare_8 : decode cL_carriedShare 8 = .ok (.goto 6, 3) := by decide +kernel
theorem dL_carriedShare_11 : decode cL_carriedShare 11 = .ok (.astore_n 2, 1) := by decide +kernel
theorem dL_carriedShare_12 : decode cL_carriedShare 12 = .ok (.iconst 1, 1) := by decide +kernel
theorem dL_carriedShare_13 : decode cL_carriedShare 13 = .ok (.ireturn, 1) := by decide +kernel
theorem dL_carriedShare_14 : decode cL_carriedShare 14 = .ok (.iconst 0, 1) := by decide +kernel
theorem dL_carriedShare_15 : decode cL_carriedShare 15 = .ok (.ireturn, 1) := by decide +kernel
theorem gV_L_X9_carriedShare_109 : GoodIn gw (wsV RL 109 RX9 yX9_carriedShare (Cond.code yX9_carriedShare cX9_carriedShare 1 (some .float) :: gw)) := gdV gw_1082 gw_1083 gw_1084 gw_67 gw_1085
theorem hV_X9_carriedShare : yX9_carriedShare.cls = RX9 ∧ yX9_carriedShare.cls ≠ "java/lang/invoke/MethodHandle" ∧ yX9_carriedShare.cls ≠ "java/lang/invoke/VarHandle" ∧ (parseMethodDescriptor yX9_carriedShare.desc).map (fun d => d.parameters.length) = some 0 := ⟨rfl, by decide +kernel, by decide +kernel, by decide +kernel⟩
set_option maxHeartbeats 2000000 in
set_option maxRecDepth 20000 in
theorem k_L_carriedShare (l : Launch) (hfl : l.stackTraces = false) (D : va_G) (aT : Nat → ClassId) (u1 : Nat) (o : Nat → UInt64) (x0 : Nat) (v0 : Nat) (t0 : Nat) (p0 : Nat) (o0 : Nat) (sv : Bool) (le : Int32) (lf : Int32) (h0 : Nat) (a0 : Nat) (a1 : Nat) (a2 : Nat) (a3 : Nat) (a4 : Nat) (a5 : Nat) (a6 : Nat) (a7 : Nat) (a8 : Nat) (a9 : Nat) (a10 : Nat) (bb : Nat → Nat → Int32) (nh : Nat) (nm : Nat) (M : Nat → Int32) (Bd : Nat) (hBd : Bd < 1048000) (hC : CoW M Bd) (hB : BlC bb nh nm M) : CxT l yL_carriedShare cL_carriedShare 3 (some (.int)) [(0, 8, 11, 107)] 7 1 6 110 D aT [.ref x0, .ref u1] [(u1, .inl (aT 3, 1, .inr (.inr (.inr (.inl o))))), (x0, .inr (12, [.ref a0, .ref v0, .ref h0, .ref t0, .ref p0, .ref o0, .int (bI sv), .int le, .int lf])), (a0, .inr (10, [.ref a1, .ref a5, .ref a10, .int (bb 8 1), .int (bb 8 2), .int (bb 8 3), .int (bb 8 4), .int (bb 8 5), .int (bb 8 6), .int (bb 8 7), .int (bb 8 8)])), (a1, .inr (6, [.ref a2, .ref a3, .ref a4, .int (nI nh)])), (a2, .inl (aT 0, 6, .inl (bb 0))), (a3, .inl (aT 0, 6, .inl (bb 1))), (a4, .inl (aT 0, 6, .inl (bb 2))), (a5, .inr (8, [.ref a6, .ref a7, .ref a8, .ref a9, .int (nI nm), .int (bb 8 0)])), (a6, .inl (aT 0, 12, .inl (bb 3))), (a7, .inl (aT 0, 12, .inl (bb 4))), (a8, .inl (aT 0, 12, .inl (bb 5))), (a9, .inl (aT 0, 12, .inl (bb 6))), (a10, .inl (aT 0, 4, .inl (bb 7)))] (qI D aT (fun r W1 => ∃ (W2 : va_W) (o2 : Nat → UInt64), ((∃ r0 : UInt32, r = nI 0 ∧ o2 0 = FP.f2d r0 ∧ (fun r W1 => (M 9 ≠ nI 0 ∧ vf_n32 r ∧ r = FP.fdiv (FP.i2f (M 10)) (FP.i2f (M 9))) ∧ W1 = [(x0, .inr (12, [.ref a0, .ref v0, .ref h0, .ref t0, .ref p0, .ref o0, .int (bI sv), .int le, .int lf])), (a0, .inr (10, [.ref a1, .ref a5, .ref a10, .int (bb 8 1), .int (bb 8 2), .int (bb 8 3), .int (bb 8 4), .int (bb 8 5), .int (bb 8 6), .int (bb 8 7), .int (bb 8 8)])), (a1, .inr (6, [.ref a2, .ref a3, .ref a4, .int (nI nh)])), (a2, .inl (aT 0, 6, .inl (bb 0))), (a3, .inl (aT 0, 6, .inl (bb 1))), (a4, .inl (aT 0, 6, .inl (bb 2))), (a5, .inr (8, [.ref a6, .ref a7, .ref a8, .ref a9, .int (nI nm), .int (bb 8 0)])), (a6, .inl (aT 0, 12, .inl (bb 3))), (a7, .inl (aT 0, 12, .inl (bb 4))), (a8, .inl (aT 0, 12, .inl (bb 5))), (a9, .inl (aT 0, 12, .inl (bb 6))), (a10, .inl (aT 0, 4, .inl (bb 7)))]) r0 W2) ∨ (∃ E9 : String, (fun E W1 => (E = "java/lang/ArithmeticException" ∧ M 9 = nI 0) ∧ W1 = [(x0, .inr (12, [.ref a0, .ref v0, .ref h0, .ref t0, .ref p0, .ref o0, .int (bI sv), .int le, .int lf])), (a0, .inr (10, [.ref a1, .ref a5, .ref a10, .int (bb 8 1), .int (bb 8 2), .int (bb 8 3), .int (bb 8 4), .int (bb 8 5), .int (bb 8 6), .int (bb 8 7), .int (bb 8 8)])), (a1, .inr (6, [.ref a2, .ref a3, .ref a4, .int (nI nh)])), (a2, .inl (aT 0, 6, .inl (bb 0))), (a3, .inl (aT 0, 6, .inl (bb 1))), (a4, .inl (aT 0, 6, .inl (bb 2))), (a5, .inr (8, [.ref a6, .ref a7, .ref a8, .ref a9, .int (nI nm), .int (bb 8 0)])), (a6, .inl (aT 0, 12, .inl (bb 3))), (a7, .inl (aT 0, 12, .inl (bb 4))), (a8, .inl (aT 0, 12, .inl (bb 5))), (a9, .inl (aT 0, 12, .inl (bb 6))), (a10, .inl (aT 0, 4, .inl (bb 7)))]) E9 W2 ∧ E9 = "java/lang/ArithmeticException" ∧ r = nI 1)) ∧ W1 = ([(u1, .inl (aT 3, 1, .inr (.inr (.inr (.inl o2)))))] ++ W2))) := by
  refine CxT.of RL (by decide +kernel) rfl (Nat.le_of_ble_eq_true rfl) ?_
  intro p e s m below meth c A ls C hml hl hA hr hlocks htb hZ hW
  have hl : lv_has ls 3 [(0, .ref x0), (1, .ref u1)] := hl
  have hx := C.1
  have hb := C.2.1
  refine lv_aload_n hx hb dL_carriedShare_0 rfl (lv_at hl 1 rfl) ?_
  refine lv_iconst (v := nI 0) hx hb dL_carriedShare_1 (by decide) ?_
  refine lv_aload_n hx hb dL_carriedShare_2 rfl (lv_at hl 0 rfl) ?_
  refine cx_callf (Wr := [(u1, .inl (aT 3, 1, .inr (.inr (.inr (.inl o)))))]) (cx_runV C hml hl.1 hZ hW hA (As := []) (rest := [.int (nI 0), .ref u1]) (k_X9_carriedShare l hfl D aT x0 v0 t0 p0 o0 sv le lf h0 a0 a1 a2 a3 a4 a5 a6 a7 a8 a9 a10 bb nh nm M Bd hBd hC hB) gV_L_X9_carriedShare_109 hV_X9_carriedShare rfl ⟨Nat.le_of_ble_eq_true rfl, Nat.le_of_ble_eq_true rfl⟩ ⟨Nat.le_of_ble_eq_true rfl, Nat.le_of_ble_eq_true rfl⟩ [1, 2, 3, 4, 5, 6, 7, 8, 9, 10, 11, 12] rfl (by decide) 1 12 rfl rfl rfl rfl (Nat.le_of_ble_eq_true rfl) dL_carriedShare_3) hW hA [1, 2, 3, 4, 5, 6, 7, 8, 9, 10, 11, 12] [0] rfl rfl (by decide) (by decide) ?_ (fun r_3 W_3 H locs hq hW => ?_)
  rotate_left
  obtain hq := hq
  have hW : CxB D ([(u1, .inl (aT 3, 1, .inr (.inr (.inr (.inl o)))))] ++ W_3) A s.heap H _ := hW
  refine lv_f2d hx hb dL_carriedShare_6 (f2d_nn hq.1.2.1) ?_
  refine cx_dast C hW 0 3 (j := 0) (W1 := ([(u1, .inl (aT 3, 1, .inr (.inr (.inr (.inl (vf_upd o 0 (FP.f2d r_3)))))))] ++ W_3)) rfl rfl rfl (by omega) (by decide) rfl dL_carriedShare_7 (fun H locs hW => ?_)
  refine lv_goto (tgt := 14) hx hb dL_carriedShare_8 (by decide) ?_
  refine lv_iconst (v := nI 0) hx hb dL_carriedShare_14 (by decide) ?_
  exact cx_tret C hr hlocks rfl hW ⟨Nat.le_of_ble_eq_true rfl, Nat.le_of_ble_eq_true rfl⟩ (⟨W_3, _, Or.inl ⟨r_3, rfl, rfl, hq⟩, rfl⟩) dL_carriedShare_15
  · intro E ce q9 W9 H locs hE hW h7 h8 h9
    have hE2 := hE
    rcases (show E = "java/lang/ArithmeticException" from by
      clear hW
      revert hE
      grind) with rfl
    · have hW : CxB D ([(u1, .inl (aT 3, 1, .inr (.inr (.inr (.inl o)))))] ++ W9) A s.heap H _ := hW
      refine cx_catchT C hZ (nm := "java/lang/ArithmeticException") [] ⟨0, 8, 11, 107⟩ (tableOf []) htb (fun z hz => by cases hz) (by decide) (by decide) gw_1057 nw_1069 h7 h8 h9 ?_
      refine lv_astore_n (lv' := [(2, .ref q9), (0, .ref x0), (1, .ref u1)]) hx hb dL_carriedShare_11 rfl hl (by decide) rfl (fun ls hl => ?_)
      refine lv_iconst (v := nI 1) hx hb dL_carriedShare_12 (by decide) ?_
      exact cx_tret C hr hlocks rfl hW ⟨Nat.le_of_ble_eq_true rfl, Nat.le_of_ble_eq_true rfl⟩ (⟨W9, _, Or.inr ⟨_, hE2, rfl, rfl⟩, rfl⟩) dL_carriedShare_13
