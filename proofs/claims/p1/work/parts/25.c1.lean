theorem cx_drop {D : va_G} {Wd W1 : va_W} {A : Nat → Prop} {H0 H : Heap} {locs : List Loc} (h : CxB D Wd A H0 H locs) (is : List Nat) (his : is.map (fun i => Wd[i]?) = W1.map some) (hn : va_nd is = true) : CxB D W1 A H0 H locs := ⟨h.1.sub is (cx_fm his), h.2.1.sub is hn his, h.2.2⟩
theorem rg_i {A B : Int64} {a b : Int32} (hA : A.toInt = a.toInt) (hB : B.toInt = b.toInt) (x : Int32) : rgB A B x = decide (a ≤ x ∧ x ≤ b) := by
  unfold rgB
  refine decide_eq_decide.mpr ?_
  rw [Int64.le_iff_toInt_le, Int64.le_iff_toInt_le, Int32.toInt_toInt64, hA, hB, Int32.le_iff_toInt_le, Int32.le_iff_toInt_le]
theorem rg_lo {A B : Int64} {a b : Int32} (hA : A.toInt = a.toInt) (hB : B.toInt = b.toInt) {x : Int32} (h : x < a) : rgB A B x = false := by
  rw [rg_i hA hB]
  exact decide_eq_false (fun q => absurd q.1 (Int32.not_le.mpr h))
theorem rg_hi {A B : Int64} {a b : Int32} (hA : A.toInt = a.toInt) (hB : B.toInt = b.toInt) {x : Int32} (h : b < x) : rgB A B x = false := by
  rw [rg_i hA hB]
  exact decide_eq_false (fun q => absurd q.2 (Int32.not_le.mpr h))
theorem rg_in {A B : Int64} {a b : Int32} (hA : A.toInt = a.toInt) (hB : B.toInt = b.toInt) {x : Int32} (h1 : ¬ x < a) (h2 : ¬ b < x) : rgB A B x = true := by
  rw [rg_i hA hB]
  exact decide_eq_true ⟨Int32.not_lt.mp h1, Int32.not_lt.mp h2⟩
theorem dg_lo {x : Int32} (h : x < 0) : rgB 0 9 x = false := rg_lo (a := 0) (b := 9) (by decide) (by decide) h
theorem dg_hi {x : Int32} (h : nI 9 < x) : rgB 0 9 x = false := rg_hi (a := 0) (b := nI 9) (by decide) (by decide) h
theorem dg_in {x : Int32} (h1 : ¬ x < 0) (h2 : ¬ nI 9 < x) : rgB 0 9 x = true := rg_in (a := 0) (b := nI 9) (by decide) (by decide) h1 h2
theorem dX2_init_0 : decode cX2_init 0 = .ok (.aload_n 0, 1) := by decide +kernel
theorem dX2_init_1 : decode cX2_init 1 = .ok (.invokespecial 3, 3) := by decide +kernel
theorem dX2_init_4 : decode cX2_init 4 = .ok (.aload_n 0, 1) := by decide +kernel
theorem dX2_init_5 : decode cX2_init 5 = .ok (.bipush 6, 2) := by decide +kernel
theorem dX2_init_7 : decode cX2_init 7 = .ok (.newarray .int, 2) := by decide +kernel
theorem dX2_init_9 : decode cX2_init 9 = .ok (.putfield 9, 3) := by decide +kernel
theorem dX2_init_12 : decode cX2_init 12 = .ok (.aload_n 0, 1) := by decide +kernel
theorem dX2_init_13 : decode cX2_init 13 = .ok (.bipush 6, 2) := by decide +kernel
theorem dX2_init_15 : decode cX2_init 15 = .ok (.newarray .int, 2) := by decide +kernel
theorem dX2_init_17 : decode cX2_init 17 = .ok (.putfield 15, 3) := by decide +kernel
theorem dX2_init_20 : decode cX2_init 20 = .ok (.aload_n 0, 1) := by decide +kernel
theorem dX2_init_21 : decode cX2_init 21 = .ok (.bipush 6, 2) := by decide +kernel
theorem dX2_init_23 : decode cX2_init 23 = .ok (.newarray .int, 2) := by decide +kernel
theorem dX2_init_25 : decode cX2_init 25 = .ok (.putfield 18, 3) := by decide +kernel
theorem dX2_init_28 : decode cX2_init 28 = .ok (.aload_n 0, 1) := by decide +kernel
theorem dX2_init_29 : decode cX2_init 29 = .ok (.iconst 0, 1) := by decide +kernel
theorem dX2_init_30 : decode cX2_init 30 = .ok (.putfield 21, 3) := by decide +kernel
theorem dX2_init_33 : decode cX2_init 33 = .ok (.return_, 1) := by decide +kernel
set_option maxHeartbeats 2000000 in
set_option maxRecDepth 20000 in
theorem k_X2_init (l : Launch) (hfl : l.stackTraces = false) (D : va_G) (aT : Nat → ClassId) (a1 : Nat) : CxG l yX2_init cX2_init 1 none 1 3 18 20 D aT [.ref a1] [(a1, .inr (6, [.null, .null, .null, .int (nI 0)]))] (qV D aT (fun W1 => ∃ q_7 : Nat, ∃ q_15 : Nat, ∃ q_23 : Nat, W1 = [(a1, .inr (6, [.ref q_7, .ref q_15, .ref q_23, .int (nI 0)])), (q_7, .inl (aT 0, 6, .inl (fun _ => nI 0))), (q_15, .inl (aT 0, 6, .inl (fun _ => nI 0))), (q_23, .inl (aT 0, 6, .inl (fun _ => nI 0)))])) (fun _ => False) := by
  refine CxG.of RX2 (by decide +kernel) rfl (Nat.le_of_ble_eq_true rfl) ?_
  intro p e s m below meth c A ls C hml hl hA hr hlocks hex hnm hZ hW
  have hl : lv_has ls 1 [(0, .ref a1)] := hl
  have hx := C.1
  have hb := C.2.1
  refine lv_aload_n hx hb dX2_init_0 rfl (lv_at hl 0 rfl) ?_
  refine cx_init C hml hl.1 gw_123 gw_110 gw_111 dX2_init_1 (Nat.le_of_ble_eq_true rfl) (Nat.le_of_ble_eq_true rfl) ?_
  refine lv_aload_n hx hb dX2_init_4 rfl (lv_at hl 0 rfl) ?_
  refine lv_bipush (v := nI 6) hx hb dX2_init_5 (by decide) ?_
  refine cx_newa C hA hW 0 (atype := .int) (a0 := (6, .inl (fun _ => nI 0))) gw_141 rfl rfl (fun _ _ h9 => h9) (fun _ => rfl) (by decide) (Nat.le_of_ble_eq_true rfl) (Nat.le_of_ble_eq_true rfl) (Nat.le_of_ble_eq_true rfl) dX2_init_7 (fun q_7 H hW => ?_)
  have hW : CxB D [(a1, .inr (6, [.null, .null, .null, .int (nI 0)])), (q_7, .inl (aT 0, 6, .inl (fun _ => nI 0)))] A s.heap H _ := hW
  refine cx_putF C hnm hW 0 0 (W1 := [(a1, .inr (6, [.ref q_7, .null, .null, .int (nI 0)])), (q_7, .inl (aT 0, 6, .inl (fun _ => nI 0)))]) rfl rfl (by decide) inX2 tyX2 tyX2_ok nmX2 gw_124 rfl rfl rfl rfl rfl rfl (Nat.le_of_ble_eq_true rfl) rfl dX2_init_9 (fun H locs hW => ?_)
  refine lv_aload_n hx hb dX2_init_12 rfl (lv_at hl 0 rfl) ?_
  refine lv_bipush (v := nI 6) hx hb dX2_init_13 (by decide) ?_
  refine cx_newa C hA hW 0 (atype := .int) (a0 := (6, .inl (fun _ => nI 0))) gw_141 rfl rfl (fun _ _ h9 => h9) (fun _ => rfl) (by decide) (Nat.le_of_ble_eq_true rfl) (Nat.le_of_ble_eq_true rfl) (Nat.le_of_ble_eq_true rfl) dX2_init_15 (fun q_15 H hW => ?_)
  have hW : CxB D [(a1, .inr (6, [.ref q_7, .null, .null, .int (nI 0)])), (q_7, .inl (aT 0, 6, .inl (fun _ => nI 0))), (q_15, .inl (aT 0, 6, .inl (fun _ => nI 0)))] A s.heap H _ := hW
  refine cx_putF C hnm hW 0 1 (W1 := [(a1, .inr (6, [.ref q_7, .ref q_15, .null, .int (nI 0)])), (q_7, .inl (aT 0, 6, .inl (fun _ => nI 0))), (q_15, .inl (aT 0, 6, .inl (fun _ => nI 0)))]) rfl rfl (by decide) inX2 tyX2 tyX2_ok nmX2 gw_126 rfl rfl rfl rfl rfl rfl (Nat.le_of_ble_eq_true rfl) rfl dX2_init_17 (fun H locs hW => ?_)
  refine lv_aload_n hx hb dX2_init_20 rfl (lv_at hl 0 rfl) ?_
  refine lv_bipush (v := nI 6) hx hb dX2_init_21 (by decide) ?_
  refine cx_newa C hA hW 0 (atype := .int) (a0 := (6, .inl (fun _ => nI 0))) gw_141 rfl rfl (fun _ _ h9 => h9) (fun _ => rfl) (by decide) (Nat.le_of_ble_eq_true rfl) (Nat.le_of_ble_eq_true rfl) (Nat.le_of_ble_eq_true rfl) dX2_init_23 (fun q_23 H hW => ?_)
  have hW : CxB D [(a1, .inr (6, [.ref q_7, .ref q_15, .null, .int (nI 0)])), (q_7, .inl (aT 0, 6, .inl (fun _ => nI 0))), (q_15, .inl (aT 0, 6, .inl (fun _ => nI 0))), (q_23, .inl (aT 0, 6, .inl (fun _ => nI 0)))] A s.heap H _ := hW
  refine cx_putF C hnm hW 0 2 (W1 := [(a1, .inr (6, [.ref q_7, .ref q_15, .ref q_23, .int (nI 0)])), (q_7, .inl (aT 0, 6, .inl (fun _ => nI 0))), (q_15, .inl (aT 0, 6, .inl (fun _ => nI 0))), (q_23, .inl (aT 0, 6, .inl (fun _ => nI 0)))]) rfl rfl (by decide) inX2 tyX2 tyX2_ok nmX2 gw_128 rfl rfl rfl rfl rfl rfl (Nat.le_of_ble_eq_true rfl) rfl dX2_init_25 (fun H locs hW => ?_)
  refine lv_aload_n hx hb dX2_init_28 rfl (lv_at hl 0 rfl) ?_
  refine lv_iconst (v := nI 0) hx hb dX2_init_29 (by decide) ?_
  refine cx_put C hW 0 3 (W1 := [(a1, .inr (6, [.ref q_7, .ref q_15, .ref q_23, .int (nI 0)])), (q_7, .inl (aT 0, 6, .inl (fun _ => nI 0))), (q_15, .inl (aT 0, 6, .inl (fun _ => nI 0))), (q_23, .inl (aT 0, 6, .inl (fun _ => nI 0)))]) rfl rfl (by decide) inX2 tyX2 tyX2_ok nmX2 gw_129 rfl rfl rfl rfl rfl (Nat.le_of_ble_eq_true rfl) rfl dX2_init_30 (fun H locs hW => ?_)
  exact cx_vret C hr hlocks hW ⟨Nat.le_of_ble_eq_true rfl, Nat.le_of_ble_eq_true rfl⟩ (⟨_, _, _, rfl⟩) dX2_init_33
theorem dX5_init_0 : decode cX5_init 0 = .ok (.aload_n 0, 1) := by decide +kernel
theorem dX5_init_1 : decode cX5_init 1 = .ok (.invokespecial 3, 3) := by decide +kernel
theorem dX5_init_4 : decode cX5_init 4 = .ok (.aload_n 0, 1) := by decide +kernel
theorem dX5_init_5 : decode cX5_init 5 = .ok (.bipush 12, 2) := by decide +kernel
theorem dX5_init_7 : decode cX5_init 7 = .ok (.newarray .int, 2) := by decide +kernel
theorem dX5_init_9 : decode cX5_init 9 = .ok (.putfield 9, 3) := by decide +kernel
theorem dX5_init_12 : decode cX5_init 12 = .ok (.aload_n 0, 1) := by decide +kernel
theorem dX5_init_13 : decode cX5_init 13 = .ok (.bipush 12, 2) := by decide +kernel
theorem dX5_init_15 : decode cX5_init 15 = .ok (.newarray .int, 2) := by decide +kernel
theorem dX5_init_17 : decode cX5_init 17 = .ok (.putfield 15, 3) := by decide +kernel
theorem dX5_init_20 : decode cX5_init 20 = .ok (.aload_n 0, 1) := by decide +kernel
theorem dX5_init_21 : decode cX5_init 21 = .ok (.bipush 12, 2) := by decide +kernel
theorem dX5_init_23 : decode cX5_init 23 = .ok (.newarray .int, 2) := by decide +kernel
theorem dX5_init_25 : decode cX5_init 25 = .ok (.putfield 18, 3) := by decide +kernel
theorem dX5_init_28 : decode cX5_init 28 = .ok (.aload_n 0, 1) := by decide +kernel
theorem dX5_init_29 : decode cX5_init 29 = .ok (.bipush 12, 2) := by decide +kernel
theorem dX5_init_31 : decode cX5_init 31 = .ok (.newarray .int, 2) := by decide +kernel
theorem dX5_init_33 : decode cX5_init 33 = .ok (.putfield 21, 3) := by decide +kernel
theorem dX5_init_36 : decode cX5_init 36 = .ok (.aload_n 0, 1) := by decide +kernel
theorem dX5_init_37 : decode cX5_init 37 = .ok (.iconst 0, 1) := by decide +kernel
theorem dX5_init_38 : decode cX5_init 38 = .ok (.putfield 24, 3) := by decide +kernel
theorem dX5_init_41 : decode cX5_init 41 = .ok (.aload_n 0, 1) := by decide +kernel
theorem dX5_init_42 : decode cX5_init 42 = .ok (.iconst 0, 1) := by decide +kernel
theorem dX5_init_43 : decode cX5_init 43 = .ok (.putfield 28, 3) := by decide +kernel
theorem dX5_init_46 : decode cX5_init 46 = .ok (.return_, 1) := by decide +kernel
set_option maxHeartbeats 2000000 in
set_option maxRecDepth 20000 in
theorem k_X5_init (l : Launch) (hfl : l.stackTraces = false) (D : va_G) (aT : Nat → ClassId) (a5 : Nat) : CxG l yX5_init cX5_init 1 none 1 4 48 20 D aT [.ref a5] [(a5, .inr (8, [.null, .null, .null, .null, .int (nI 0), .int (nI 0)]))] (qV D aT (fun W1 => ∃ q_7 : Nat, ∃ q_15 : Nat, ∃ q_23 : Nat, ∃ q_31 : Nat, W1 = [(a5, .inr (8, [.ref q_7, .ref q_15, .ref q_23, .ref q_31, .int (nI 0), .int (nI 0)])), (q_7, .inl (aT 0, 12, .inl (fun _ => nI 0))), (q_15, .inl (aT 0, 12, .inl (fun _ => nI 0))), (q_23, .inl (aT 0, 12, .inl (fun _ => nI 0))), (q_31, .inl (aT 0, 12, .inl (fun _ => nI 0)))])) (fun _ => False) := by
  refine CxG.of RX5 (by decide +kernel) rfl (Nat.le_of_ble_eq_true rfl) ?_
  intro p e s m below meth c A ls C hml hl hA hr hlocks hex hnm hZ hW
  have hl : lv_has ls 1 [(0, .ref a5)] := hl
  have hx := C.1
  have hb := C.2.1
  refine lv_aload_n hx hb dX5_init_0 rfl (lv_at hl 0 rfl) ?_
  refine cx_init C hml hl.1 gw_147 gw_110 gw_111 dX5_init_1 (Nat.le_of_ble_eq_true rfl) (Nat.le_of_ble_eq_true rfl) ?_
  refine lv_aload_n hx hb dX5_init_4 rfl (lv_at hl 0 rfl) ?_
  refine lv_bipush (v := nI 12) hx hb dX5_init_5 (by decide) ?_
  refine cx_newa C hA hW 0 (atype := .int) (a0 := (12, .inl (fun _ => nI 0))) gw_141 rfl rfl (fun _ _ h9 => h9) (fun _ => rfl) (by decide) (Nat.le_of_ble_eq_true rfl) (Nat.le_of_ble_eq_true rfl) (Nat.le_of_ble_eq_true rfl) dX5_init_7 (fun q_7 H hW => ?_)
  have hW : CxB D [(a5, .inr (8, [.null, .null, .null, .null, .int (nI 0), .int (nI 0)])), (q_7, .inl (aT 0, 12, .inl (fun _ => nI 0)))] A s.heap H _ := hW
  refine cx_putF C hnm hW 0 0 (W1 := [(a5, .inr (8, [.ref q_7, .null, .null, .null, .int (nI 0), .int (nI 0)])), (q_7, .inl (aT 0, 12, .inl (fun _ => nI 0)))]) rfl rfl (by decide) inX5 tyX5 tyX5_ok nmX5 gw_148 rfl rfl rfl rfl rfl rfl (Nat.le_of_ble_eq_true rfl) rfl dX5_init_9 (fun H locs hW => ?_)
  refine lv_aload_n hx hb dX5_init_12 rfl (lv_at hl 0 rfl) ?_
  refine lv_bipush (v := nI 12) hx hb dX5_init_13 (by decide) ?_
  refine cx_newa C hA hW 0 (atype := .int) (a0 := (12, .inl (fun _ => nI 0))) gw_141 rfl rfl (fun _ _ h9 => h9) (fun _ => rfl) (by decide) (Nat.le_of_ble_eq_true rfl) (Nat.le_of_ble_eq_true rfl) (Nat.le_of_ble_eq_true rfl) dX5_init_15 (fun q_15 H hW => ?_)
  have hW : CxB D [(a5, .inr (8, [.ref q_7, .null, .null, .null, .int (nI 0), .int (nI 0)])), (q_7, .inl (aT 0, 12, .inl (fun _ => nI 0))), (q_15, .inl (aT 0, 12, .inl (fun _ => nI 0)))] A s.heap H _ := hW
  refine cx_putF C hnm hW 0 1 (W1 := [(a5, .inr (8, [.ref q_7, .ref q_15, .null, .null, .int (nI 0), .int (nI 0)])), (q_7, .inl (aT 0, 12, .inl (fun _ => nI 0))), (q_15, .inl (aT 0, 12, .inl (fun _ => nI 0)))]) rfl rfl (by decide) inX5 tyX5 tyX5_ok nmX5 gw_150 rfl rfl rfl rfl rfl rfl (Nat.le_of_ble_eq_true rfl) rfl dX5_init_17 (fun H locs hW => ?_)
  refine lv_aload_n hx hb dX5_init_20 rfl (lv_at hl 0 rfl) ?_
  refine lv_bipush (v := nI 12) hx hb dX5_init_21 (by decide) ?_
  refine cx_newa C hA hW 0 (atype := .int) (a0 := (12, .inl (fun _ => nI 0))) gw_141 rfl rfl (fun _ _ h9 => h9) (fun _ => rfl) (by decide) (Nat.le_of_ble_eq_true rfl) (Nat.le_of_ble_eq_true rfl) (Nat.le_of_ble_eq_true rfl) dX5_init_23 (fun q_23 H hW => ?_)
  have hW : CxB D [(a5, .inr (8, [.ref q_7, .ref q_15, .null, .null, .int (nI 0), .int (nI 0)])), (q_7, .inl (aT 0, 12, .inl (fun _ => nI 0))), (q_15, .inl (aT 0, 12, .inl (fun _ => nI 0))), (q_23, .inl (aT 0, 12, .inl (fun _ => nI 0)))] A s.heap H _ := hW
  refine cx_putF C hnm hW 0 2 (W1 := [(a5, .inr (8, [.ref q_7, .ref q_15, .ref q_23, .null, .int (nI 0), .int (nI 0)])), (q_7, .inl (aT 0, 12, .inl (fun _ => nI 0))), (q_15, .inl (aT 0, 12, .inl (fun _ => nI 0))), (q_23, .inl (aT 0, 12, .inl (fun _ => nI 0)))]) rfl rfl (by decide) inX5 tyX5 tyX5_ok nmX5 gw_153 rfl rfl rfl rfl rfl rfl (Nat.le_of_ble_eq_true rfl) rfl dX5_init_25 (fun H locs hW => ?_)
  refine lv_aload_n hx hb dX5_init_28 rfl (lv_at hl 0 rfl) ?_
  refine lv_bipush (v := nI 12) hx hb dX5_init_29 (by decide) ?_
  refine cx_newa C hA hW 0 (atype := .int) (a0 := (12, .inl (fun _ => nI 0))) gw_141 rfl rfl (fun _ _ h9 => h9) (fun _ => rfl) (by decide) (Nat.le_of_ble_eq_true rfl) (Nat.le_of_ble_eq_true rfl) (Nat.le_of_ble_eq_true rfl) dX5_init_31 (fun q_31 H hW => ?_)
  have hW : CxB D [(a5, .inr (8, [.ref q_7, .ref q_15, .ref q_23, .null, .int (nI 0), .int (nI 0)])), (q_7, .inl (aT 0, 12, .inl (fun _ => nI 0))), (q_15, .inl (aT 0, 12, .inl (fun _ => nI 0))), (q_23, .inl (aT 0, 12, .inl (fun _ => nI 0))), (q_31, .inl (aT 0, 12, .inl (fun _ => nI 0)))] A s.heap H _ := hW
  refine cx_putF C hnm hW 0 3 (W1 := [(a5, .inr (8, [.ref q_7, .ref q_15, .ref q_23, .ref q_31, .int (nI 0), .int (nI 0)])), (q_7, .inl (aT 0, 12, .inl (fun _ => nI 0))), (q_15, .inl (aT 0, 12, .inl (fun _ => nI 0))), (q_23, .inl (aT 0, 12, .inl (fun _ => nI 0))), (q_31, .inl (aT 0, 12, .inl (fun _ => nI 0)))]) rfl rfl (by decide) inX5 tyX5 tyX5_ok nmX5 gw_157 rfl rfl rfl rfl rfl rfl (Nat.le_of_ble_eq_true rfl) rfl dX5_init_33 (fun H locs hW => ?_)
  refine lv_aload_n hx hb dX5_init_36 rfl (lv_at hl 0 rfl) ?_
  refine lv_iconst (v := nI 0) hx hb dX5_init_37 (by decide) ?_
  refine cx_put C hW 0 4 (W1 := [(a5, .inr (8, [.ref q_7, .ref q_15, .ref q_23, .ref q_31, .int (nI 0), .int (nI 0)])), (q_7, .inl (aT 0, 12, .inl (fun _ => nI 0))), (q_15, .inl (aT 0, 12, .inl (fun _ => nI 0))), (q_23, .inl (aT 0, 12, .inl (fun _ => nI 0))), (q_31, .inl (aT 0, 12, .inl (fun _ => nI 0)))]) rfl rfl (by decide) inX5 tyX5 tyX5_ok nmX5 gw_161 rfl rfl rfl rfl rfl (Nat.le_of_ble_eq_true rfl) rfl dX5_init_38 (fun H locs hW => ?_)
  refine lv_aload_n hx hb dX5_init_41 rfl (lv_at hl 0 rfl) ?_
  refine lv_iconst (v := nI 0) hx hb dX5_init_42 (by decide) ?_
  refine cx_put C hW 0 5 (W1 := [(a5, .inr (8, [.ref q_7, .ref q_15, .ref q_23, .ref q_31, .int (nI 0), .int (nI 0)])), (q_7, .inl (aT 0, 12, .inl (fun _ => nI 0))), (q_15, .inl (aT 0, 12, .inl (fun _ => nI 0))), (q_23, .inl (aT 0, 12, .inl (fun _ => nI 0))), (q_31, .inl (aT 0, 12, .inl (fun _ => nI 0)))]) rfl rfl (by decide) inX5 tyX5 tyX5_ok nmX5 gw_165 rfl rfl rfl rfl rfl (Nat.le_of_ble_eq_true rfl) rfl dX5_init_43 (fun H locs hW => ?_)
  exact cx_vret C hr hlocks hW ⟨Nat.le_of_ble_eq_true rfl, Nat.le_of_ble_eq_true rfl⟩ (⟨_, _, _, _, rfl⟩) dX5_init_46
theorem dX7_init_0 : decode cX7_init 0 = .ok (.aload_n 0, 1) := by decide +kernel
theorem dX7_init_1 : decode cX7_init 1 = .ok (.invokespecial 3, 3) := by decide +kernel
theorem dX7_init_4 : decode cX7_init 4 = .ok (.aload_n 0, 1) := by decide +kernel
theorem dX7_init_5 : decode cX7_init 5 = .ok (.new 9, 3) := by decide +kernel
theorem dX7_init_8 : decode cX7_init 8 = .ok (.dup, 1) := by decide +kernel
theorem dX7_init_9 : decode cX7_init 9 = .ok (.invokespecial 11, 3) := by decide +kernel
theorem dX7_init_12 : decode cX7_init 12 = .ok (.putfield 12, 3) := by decide +kernel
theorem dX7_init_15 : decode cX7_init 15 = .ok (.aload_n 0, 1) := by decide +kernel
theorem dX7_init_16 : decode cX7_init 16 = .ok (.new 18, 3) := by decide +kernel
theorem dX7_init_19 : decode cX7_init 19 = .ok (.dup, 1) := by decide +kernel
theorem dX7_init_20 : decode cX7_init 20 = .ok (.invokespecial 20, 3) := by decide +kernel
theorem dX7_init_23 : decode cX7_init 23 = .ok (.putfield 21, 3) := by decide +kernel
theorem dX7_init_26 : decode cX7_init 26 = .ok (.aload_n 0, 1) := by decide +kernel
theorem dX7_init_27 : decode cX7_init 27 = .ok (.iconst 4, 1) := by decide +kernel
theorem dX7_init_28 : decode cX7_init 28 = .ok (.newarray .int, 2) := by decide +kernel
theorem dX7_init_30 : decode cX7_init 30 = .ok (.putfield 25, 3) := by decide +kernel
theorem dX7_init_33 : decode cX7_init 33 = .ok (.aload_n 0, 1) := by decide +kernel
theorem dX7_init_34 : decode cX7_init 34 = .ok (.iconst 0, 1) := by decide +kernel
theorem dX7_init_35 : decode cX7_init 35 = .ok (.putfield 29, 3) := by decide +kernel
theorem dX7_init_38 : decode cX7_init 38 = .ok (.return_, 1) := by decide +kernel
theorem gI_X2_init : GoodIn gw (Cond.code yX2_init cX2_init 1 none :: gw) := gdI gw_122
theorem hI_X2_init : yX2_init.cls ≠ "java/lang/invoke/MethodHandle" ∧ yX2_init.cls ≠ "java/lang/invoke/VarHandle" ∧ (parseMethodDescriptor yX2_init.desc).map (fun d => d.parameters.length) = some 0 := ⟨by decide +kernel, by decide +kernel, by decide +kernel⟩
theorem gI_X5_init : GoodIn gw (Cond.code yX5_init cX5_init 1 none :: gw) := gdI gw_146
theorem hI_X5_init : yX5_init.cls ≠ "java/lang/invoke/MethodHandle" ∧ yX5_init.cls ≠ "java/lang/invoke/VarHandle" ∧ (parseMethodDescriptor yX5_init.desc).map (fun d => d.parameters.length) = some 0 := ⟨by decide +kernel, by decide +kernel, by decide +kernel⟩
set_option maxHeartbeats 2000000 in
set_option maxRecDepth 20000 in
theorem k_X7_init (l : Launch) (hfl : l.stackTraces = false) (D : va_G) (aT : Nat → ClassId) (a0 : Nat) : CxG l yX7_init cX7_init 1 none 2 10 80 40 D aT [.ref a0] [(a0, .inr (10, [.null, .null, .null, .int (nI 0), .int (nI 0), .int (nI 0), .int (nI 0), .int (nI 0), .int (nI 0), .int (nI 0), .int (nI 0)]))] (qV D aT (fun W1 => ∃ q_5 : Nat, ∃ q_7_9 : Nat, ∃ q_15_9 : Nat, ∃ q_23_9 : Nat, ∃ q_16 : Nat, ∃ q_7_20 : Nat, ∃ q_15_20 : Nat, ∃ q_23_20 : Nat, ∃ q_31_20 : Nat, ∃ q_28 : Nat, W1 = [(a0, .inr (10, [.ref q_5, .ref q_16, .ref q_28, .int (nI 0), .int (nI 0), .int (nI 0), .int (nI 0), .int (nI 0), .int (nI 0), .int (nI 0), .int (nI 0)])), (q_5, .inr (6, [.ref q_7_9, .ref q_15_9, .ref q_23_9, .int (nI 0)])), (q_7_9, .inl (aT 0, 6, .inl (fun _ => nI 0))), (q_15_9, .inl (aT 0, 6, .inl (fun _ => nI 0))), (q_23_9, .inl (aT 0, 6, .inl (fun _ => nI 0))), (q_16, .inr (8, [.ref q_7_20, .ref q_15_20, .ref q_23_20, .ref q_31_20, .int (nI 0), .int (nI 0)])), (q_7_20, .inl (aT 0, 12, .inl (fun _ => nI 0))), (q_15_20, .inl (aT 0, 12, .inl (fun _ => nI 0))), (q_23_20, .inl (aT 0, 12, .inl (fun _ => nI 0))), (q_31_20, .inl (aT 0, 12, .inl (fun _ => nI 0))), (q_28, .inl (aT 0, 4, .inl (fun _ => nI 0)))])) (fun _ => False) := by
  refine CxG.of RX7 (by decide +kernel) rfl (Nat.le_of_ble_eq_true rfl) ?_
  intro p e s m below meth c A ls C hml hl hA hr hlocks hex hnm hZ hW
  have hl : lv_has ls 1 [(0, .ref a0)] := hl
  have hx := C.1
  have hb := C.2.1
  refine lv_aload_n hx hb dX7_init_0 rfl (lv_at hl 0 rfl) ?_
  refine cx_init C hml hl.1 gw_117 gw_110 gw_111 dX7_init_1 (Nat.le_of_ble_eq_true rfl) (Nat.le_of_ble_eq_true rfl) ?_
  refine lv_aload_n hx hb dX7_init_4 rfl (lv_at hl 0 rfl) ?_
  refine cx_new C hA hW (ci := 6) (fs := [.null, .null, .null, .int (nI 0)]) rfl inX2 tyX2 tyX2_ok gw_118 gw_119 gw_69 (fun j hj => by rcases (show j = 0 ∨ j = 1 ∨ j = 2 ∨ j = 3 by omega) with rfl | rfl | rfl | rfl <;> rfl) (Nat.le_of_ble_eq_true rfl) (Nat.le_of_ble_eq_true rfl) dX7_init_5 (fun q_5 H hW => ?_)
  have hW : CxB D [(a0, .inr (10, [.null, .null, .null, .int (nI 0), .int (nI 0), .int (nI 0), .int (nI 0), .int (nI 0), .int (nI 0), .int (nI 0), .int (nI 0)])), (q_5, .inr (6, [.null, .null, .null, .int (nI 0)]))] A s.heap H _ := hW
  refine lv_dup hx hb dX7_init_8 rfl ?_
  refine cx_callv (Wr := [(a0, .inr (10, [.null, .null, .null, .int (nI 0), .int (nI 0), .int (nI 0), .int (nI 0), .int (nI 0), .int (nI 0), .int (nI 0), .int (nI 0)]))]) (cx_runI C hml hl.1 hZ hW hA (As := []) (rest := [.ref q_5, .ref a0]) (k_X2_init l hfl D aT q_5) gI_X2_init gw_69 gw_120 gw_121 rfl hI_X2_init rfl ⟨Nat.le_of_ble_eq_true rfl, Nat.le_of_ble_eq_true rfl⟩ ⟨Nat.le_of_ble_eq_true rfl, Nat.le_of_ble_eq_true rfl⟩ [1] rfl (by decide) rfl (Nat.le_of_ble_eq_true rfl) dX7_init_9) hW hA [1] [0] rfl rfl (by decide) (by decide) (fun _ _ _ _ _ h9 => h9.elim) (fun W_9 H locs hq hW => ?_)
  obtain ⟨q_7_9, q_15_9, q_23_9, rfl⟩ := hq
  have hW : CxB D [(a0, .inr (10, [.null, .null, .null, .int (nI 0), .int (nI 0), .int (nI 0), .int (nI 0), .int (nI 0), .int (nI 0), .int (nI 0), .int (nI 0)])), (q_5, .inr (6, [.ref q_7_9, .ref q_15_9, .ref q_23_9, .int (nI 0)])), (q_7_9, .inl (aT 0, 6, .inl (fun _ => nI 0))), (q_15_9, .inl (aT 0, 6, .inl (fun _ => nI 0))), (q_23_9, .inl (aT 0, 6, .inl (fun _ => nI 0)))] A s.heap H _ := hW
  refine cx_putF C hnm hW 0 0 (W1 := [(a0, .inr (10, [.ref q_5, .null, .null, .int (nI 0), .int (nI 0), .int (nI 0), .int (nI 0), .int (nI 0), .int (nI 0), .int (nI 0), .int (nI 0)])), (q_5, .inr (6, [.ref q_7_9, .ref q_15_9, .ref q_23_9, .int (nI 0)])), (q_7_9, .inl (aT 0, 6, .inl (fun _ => nI 0))), (q_15_9, .inl (aT 0, 6, .inl (fun _ => nI 0))), (q_23_9, .inl (aT 0, 6, .inl (fun _ => nI 0)))]) rfl rfl (by decide) inX7 tyX7 tyX7_ok nmX7 gw_179 rfl rfl rfl rfl rfl rfl (Nat.le_of_ble_eq_true rfl) rfl dX7_init_12 (fun H locs hW => ?_)
  refine lv_aload_n hx hb dX7_init_15 rfl (lv_at hl 0 rfl) ?_
  refine cx_new C hA hW (ci := 8) (fs := [.null, .null, .null, .null, .int (nI 0), .int (nI 0)]) rfl inX5 tyX5 tyX5_ok gw_142 gw_143 gw_70 (fun j hj => by rcases (show j = 0 ∨ j = 1 ∨ j = 2 ∨ j = 3 ∨ j = 4 ∨ j = 5 by omega) with rfl | rfl | rfl | rfl | rfl | rfl <;> rfl) (Nat.le_of_ble_eq_true rfl) (Nat.le_of_ble_eq_true rfl) dX7_init_16 (fun q_16 H hW => ?_)
  have hW : CxB D [(a0, .inr (10, [.ref q_5, .null, .null, .int (nI 0), .int (nI 0), .int (nI 0), .int (nI 0), .int (nI 0), .int (nI 0), .int (nI 0), .int (nI 0)])), (q_5, .inr (6, [.ref q_7_9, .ref q_15_9, .ref q_23_9, .int (nI 0)])), (q_7_9, .inl (aT 0, 6, .inl (fun _ => nI 0))), (q_15_9, .inl (aT 0, 6, .inl (fun _ => nI 0))), (q_23_9, .inl (aT 0, 6, .inl (fun _ => nI 0))), (q_16, .inr (8, [.null, .null, .null, .null, .int (nI 0), .int (nI 0)]))] A s.heap H _ := hW
  refine lv_dup hx hb dX7_init_19 rfl ?_
  refine cx_callv (Wr := [(a0, .inr (10, [.ref q_5, .null, .null, .int (nI 0), .int (nI 0), .int (nI 0), .int (nI 0), .int (nI 0), .int (nI 0), .int (nI 0), .int (nI 0)])), (q_5, .inr (6, [.ref q_7_9, .ref q_15_9, .ref q_23_9, .int (nI 0)])), (q_7_9, .inl (aT 0, 6, .inl (fun _ => nI 0))), (q_15_9, .inl (aT 0, 6, .inl (fun _ => nI 0))), (q_23_9, .inl (aT 0, 6, .inl (fun _ => nI 0)))]) (cx_runI C hml hl.1 hZ hW hA (As := []) (rest := [.ref q_16, .ref a0]) (k_X5_init l hfl D aT q_16) gI_X5_init gw_70 gw_144 gw_145 rfl hI_X5_init rfl ⟨Nat.le_of_ble_eq_true rfl, Nat.le_of_ble_eq_true rfl⟩ ⟨Nat.le_of_ble_eq_true rfl, Nat.le_of_ble_eq_true rfl⟩ [5] rfl (by decide) rfl (Nat.le_of_ble_eq_true rfl) dX7_init_20) hW hA [5] [0, 1, 2, 3, 4] rfl rfl (by decide) (by decide) (fun _ _ _ _ _ h9 => h9.elim) (fun W_20 H locs hq hW => ?_)
  obtain ⟨q_7_20, q_15_20, q_23_20, q_31_20, rfl⟩ := hq
  have hW : CxB D [(a0, .inr (10, [.ref q_5, .null, .null, .int (nI 0), .int (nI 0), .int (nI 0), .int (nI 0), .int (nI 0), .int (nI 0), .int (nI 0), .int (nI 0)])), (q_5, .inr (6, [.ref q_7_9, .ref q_15_9, .ref q_23_9, .int (nI 0)])), (q_7_9, .inl (aT 0, 6, .inl (fun _ => nI 0))), (q_15_9, .inl (aT 0, 6, .inl (fun _ => nI 0))), (q_23_9, .inl (aT 0, 6, .inl (fun _ => nI 0))), (q_16, .inr (8, [.ref q_7_20, .ref q_15_20, .ref q_23_20, .ref q_31_20, .int (nI 0), .int (nI 0)])), (q_7_20, .inl (aT 0, 12, .inl (fun _ => nI 0))), (q_15_20, .inl (aT 0, 12, .inl (fun _ => nI 0))), (q_23_20, .inl (aT 0, 12, .inl (fun _ => nI 0))), (q_31_20, .inl (aT 0, 12, .inl (fun _ => nI 0)))] A s.heap H _ := hW
  refine cx_putF C hnm hW 0 1 (W1 := [(a0, .inr (10, [.ref q_5, .ref q_16, .null, .int (nI 0), .int (nI 0), .int (nI 0), .int (nI 0), .int (nI 0), .int (nI 0), .int (nI 0), .int (nI 0)])), (q_5, .inr (6, [.ref q_7_9, .ref q_15_9, .ref q_23_9, .int (nI 0)])), (q_7_9, .inl (aT 0, 6, .inl (fun _ => nI 0))), (q_15_9, .inl (aT 0, 6, .inl (fun _ => nI 0))), (q_23_9, .inl (aT 0, 6, .inl (fun _ => nI 0))), (q_16, .inr (8, [.ref q_7_20, .ref q_15_20, .ref q_23_20, .ref q_31_20, .int (nI 0), .int (nI 0)])), (q_7_20, .inl (aT 0, 12, .inl (fun _ => nI 0))), (q_15_20, .inl (aT 0, 12, .inl (fun _ => nI 0))), (q_23_20, .inl (aT 0, 12, .inl (fun _ => nI 0))), (q_31_20, .inl (aT 0, 12, .inl (fun _ => nI 0)))]) rfl rfl (by decide) inX7 tyX7 tyX7_ok nmX7 gw_181 rfl rfl rfl rfl rfl rfl (Nat.le_of_ble_eq_true rfl) rfl dX7_init_23 (fun H locs hW => ?_)
  refine lv_aload_n hx hb dX7_init_26 rfl (lv_at hl 0 rfl) ?_
  refine lv_iconst (v := nI 4) hx hb dX7_init_27 (by decide) ?_
  refine cx_newa C hA hW 0 (atype := .int) (a0 := (4, .inl (fun _ => nI 0))) gw_141 rfl rfl (fun _ _ h9 => h9) (fun _ => rfl) (by decide) (Nat.le_of_ble_eq_true rfl) (Nat.le_of_ble_eq_true rfl) (Nat.le_of_ble_eq_true rfl) dX7_init_28 (fun q_28 H hW => ?_)
  have hW : CxB D [(a0, .inr (10, [.ref q_5, .ref q_16, .null, .int (nI 0), .int (nI 0), .int (nI 0), .int (nI 0), .int (nI 0), .int (nI 0), .int (nI 0), .int (nI 0)])), (q_5, .inr (6, [.ref q_7_9, .ref q_15_9, .ref q_23_9, .int (nI 0)])), (q_7_9, .inl (aT 0, 6, .inl (fun _ => nI 0))), (q_15_9, .inl (aT 0, 6, .inl (fun _ => nI 0))), (q_23_9, .inl (aT 0, 6, .inl (fun _ => nI 0))), (q_16, .inr (8, [.ref q_7_20, .ref q_15_20, .ref q_23_20, .ref q_31_20, .int (nI 0), .int (nI 0)])), (q_7_20, .inl (aT 0, 12, .inl (fun _ => nI 0))), (q_15_20, .inl (aT 0, 12, .inl (fun _ => nI 0))), (q_23_20, .inl (aT 0, 12, .inl (fun _ => nI 0))), (q_31_20, .inl (aT 0, 12, .inl (fun _ => nI 0))), (q_28, .inl (aT 0, 4, .inl (fun _ => nI 0)))] A s.heap H _ := hW
  refine cx_putF C hnm hW 0 2 (W1 := [(a0, .inr (10, [.ref q_5, .ref q_16, .ref q_28, .int (nI 0), .int (nI 0), .int (nI 0), .int (nI 0), .int (nI 0), .int (nI 0), .int (nI 0), .int (nI 0)])), (q_5, .inr (6, [.ref q_7_9, .ref q_15_9, .ref q_23_9, .int (nI 0)])), (q_7_9, .inl (aT 0, 6, .inl (fun _ => nI 0))), (q_15_9, .inl (aT 0, 6, .inl (fun _ => nI 0))), (q_23_9, .inl (aT 0, 6, .inl (fun _ => nI 0))), (q_16, .inr (8, [.ref q_7_20, .ref q_15_20, .ref q_23_20, .ref q_31_20, .int (nI 0), .int (nI 0)])), (q_7_20, .inl (aT 0, 12, .inl (fun _ => nI 0))), (q_15_20, .inl (aT 0, 12, .inl (fun _ => nI 0))), (q_23_20, .inl (aT 0, 12, .inl (fun _ => nI 0))), (q_31_20, .inl (aT 0, 12, .inl (fun _ => nI 0))), (q_28, .inl (aT 0, 4, .inl (fun _ => nI 0)))]) rfl rfl (by decide) inX7 tyX7 tyX7_ok nmX7 gw_183 rfl rfl rfl rfl rfl rfl (Nat.le_of_ble_eq_true rfl) rfl dX7_init_30 (fun H locs hW => ?_)
  refine lv_aload_n hx hb dX7_init_33 rfl (lv_at hl 0 rfl) ?_
  refine lv_iconst (v := nI 0) hx hb dX7_init_34 (by decide) ?_
  refine cx_put C hW 0 3 (W1 := [(a0, .inr (10, [.ref q_5, .ref q_16, .ref q_28, .int (nI 0), .int (nI 0), .int (nI 0), .int (nI 0), .int (nI 0), .int (nI 0), .int (nI 0), .int (nI 0)])), (q_5, .inr (6, [.ref q_7_9, .ref q_15_9, .ref q_23_9, .int (nI 0)])), (q_7_9, .inl (aT 0, 6, .inl (fun _ => nI 0))), (q_15_9, .inl (aT 0, 6, .inl (fun _ => nI 0))), (q_23_9, .inl (aT 0, 6, .inl (fun _ => nI 0))), (q_16, .inr (8, [.ref q_7_20, .ref q_15_20, .ref q_23_20, .ref q_31_20, .int (nI 0), .int (nI 0)])), (q_7_20, .inl (aT 0, 12, .inl (fun _ => nI 0))), (q_15_20, .inl (aT 0, 12, .inl (fun _ => nI 0))), (q_23_20, .inl (aT 0, 12, .inl (fun _ => nI 0))), (q_31_20, .inl (aT 0, 12, .inl (fun _ => nI 0))), (q_28, .inl (aT 0, 4, .inl (fun _ => nI 0)))]) rfl rfl (by decide) inX7 tyX7 tyX7_ok nmX7 gw_185 rfl rfl rfl rfl rfl (Nat.le_of_ble_eq_true rfl) rfl dX7_init_35 (fun H locs hW => ?_)
  exact cx_vret C hr hlocks hW ⟨Nat.le_of_ble_eq_true rfl, Nat.le_of_ble_eq_true rfl⟩ (⟨_, _, _, _, _, _, _, _, _, _, rfl⟩) dX7_init_38
theorem dX8_init_0 : decode cX8_init 0 = .ok (.aload_n 0, 1) := by decide +kernel
theorem dX8_init_1 : decode cX8_init 1 = .ok (.invokespecial 3, 3) := by decide +kernel
theorem dX8_init_4 : decode cX8_init 4 = .ok (.aload_n 0, 1) := by decide +kernel
theorem dX8_init_5 : decode cX8_init 5 = .ok (.bipush 12, 2) := by decide +kernel
theorem dX8_init_7 : decode cX8_init 7 = .ok (.newarray .int, 2) := by decide +kernel
theorem dX8_init_9 : decode cX8_init 9 = .ok (.putfield 9, 3) := by decide +kernel
theorem dX8_init_12 : decode cX8_init 12 = .ok (.aload_n 0, 1) := by decide +kernel
theorem dX8_init_13 : decode cX8_init 13 = .ok (.bipush 12, 2) := by decide +kernel
theorem dX8_init_15 : decode cX8_init 15 = .ok (.newarray .int, 2) := by decide +kernel
theorem dX8_init_17 : decode cX8_init 17 = .ok (.putfield 15, 3) := by decide +kernel
theorem dX8_init_20 : decode cX8_init 20 = .ok (.aload_n 0, 1) := by decide +kernel
theorem dX8_init_21 : decode cX8_init 21 = .ok (.bipush 12, 2) := by decide +kernel
theorem dX8_init_23 : decode cX8_init 23 = .ok (.newarray .int, 2) := by decide +kernel
theorem dX8_init_25 : decode cX8_init 25 = .ok (.putfield 18, 3) := by decide +kernel
theorem dX8_init_28 : decode cX8_init 28 = .ok (.aload_n 0, 1) := by decide +kernel
theorem dX8_init_29 : decode cX8_init 29 = .ok (.bipush 12, 2) := by decide +kernel
theorem dX8_init_31 : decode cX8_init 31 = .ok (.newarray .int, 2) := by decide +kernel
theorem dX8_init_33 : decode cX8_init 33 = .ok (.putfield 21, 3) := by decide +kernel
theorem dX8_init_36 : decode cX8_init 36 = .ok (.aload_n 0, 1) := by decide +kernel
theorem dX8_init_37 : decode cX8_init 37 = .ok (.bipush 12, 2) := by decide +kernel
theorem dX8_init_39 : decode cX8_init 39 = .ok (.newarray .long, 2) := by decide +kernel
theorem dX8_init_41 : decode cX8_init 41 = .ok (.putfield 24, 3) := by decide +kernel
theorem dX8_init_44 : decode cX8_init 44 = .ok (.aload_n 0, 1) := by decide +kernel
theorem dX8_init_45 : decode cX8_init 45 = .ok (.bipush 12, 2) := by decide +kernel
theorem dX8_init_47 : decode cX8_init 47 = .ok (.newarray .long, 2) := by decide +kernel
theorem dX8_init_49 : decode cX8_init 49 = .ok (.putfield 28, 3) := by decide +kernel
theorem dX8_init_52 : decode cX8_init 52 = .ok (.return_, 1) := by decide +kernel
set_option maxHeartbeats 2000000 in
set_option maxRecDepth 20000 in
theorem k_X8_init (l : Launch) (hfl : l.stackTraces = false) (D : va_G) (aT : Nat → ClassId) (t0 : Nat) : CxG l yX8_init cX8_init 1 none 1 6 72 20 D aT [.ref t0] [(t0, .inr (11, [.null, .null, .null, .null, .null, .null]))] (qV D aT (fun W1 => ∃ q_7 : Nat, ∃ q_15 : Nat, ∃ q_23 : Nat, ∃ q_31 : Nat, ∃ q_39 : Nat, ∃ q_47 : Nat, W1 = [(t0, .inr (11, [.ref q_7, .ref q_15, .ref q_23, .ref q_31, .ref q_39, .ref q_47])), (q_7, .inl (aT 0, 12, .inl (fun _ => nI 0))), (q_15, .inl (aT 0, 12, .inl (fun _ => nI 0))), (q_23, .inl (aT 0, 12, .inl (fun _ => nI 0))), (q_31, .inl (aT 0, 12, .inl (fun _ => nI 0))), (q_39, .inl (aT 2, 12, .inr (.inl (fun _ => 0)))), (q_47, .inl (aT 2, 12, .inr (.inl (fun _ => 0))))])) (fun _ => False) := by
  refine CxG.of RX8 (by decide +kernel) rfl (Nat.le_of_ble_eq_true rfl) ?_
  intro p e s m below meth c A ls C hml hl hA hr hlocks hex hnm hZ hW
  have hl : lv_has ls 1 [(0, .ref t0)] := hl
  have hx := C.1
  have hb := C.2.1
  refine lv_aload_n hx hb dX8_init_0 rfl (lv_at hl 0 rfl) ?_
  refine cx_init C hml hl.1 gw_242 gw_110 gw_111 dX8_init_1 (Nat.le_of_ble_eq_true rfl) (Nat.le_of_ble_eq_true rfl) ?_
  refine lv_aload_n hx hb dX8_init_4 rfl (lv_at hl 0 rfl) ?_
  refine lv_bipush (v := nI 12) hx hb dX8_init_5 (by decide) ?_
  refine cx_newa C hA hW 0 (atype := .int) (a0 := (12, .inl (fun _ => nI 0))) gw_141 rfl rfl (fun _ _ h9 => h9) (fun _ => rfl) (by decide) (Nat.le_of_ble_eq_true rfl) (Nat.le_of_ble_eq_true rfl) (Nat.le_of_ble_eq_true rfl) dX8_init_7 (fun q_7 H hW => ?_)
  have hW : CxB D [(t0, .inr (11, [.null, .null, .null, .null, .null, .null])), (q_7, .inl (aT 0, 12, .inl (fun _ => nI 0)))] A s.heap H _ := hW
  refine cx_putF C hnm hW 0 0 (W1 := [(t0, .inr (11, [.ref q_7, .null, .null, .null, .null, .null])), (q_7, .inl (aT 0, 12, .inl (fun _ => nI 0)))]) rfl rfl (by decide) inX8 tyX8 tyX8_ok nmX8 gw_243 rfl rfl rfl rfl rfl rfl (Nat.le_of_ble_eq_true rfl) rfl dX8_init_9 (fun H locs hW => ?_)
  refine lv_aload_n hx hb dX8_init_12 rfl (lv_at hl 0 rfl) ?_
  refine lv_bipush (v := nI 12) hx hb dX8_init_13 (by decide) ?_
  refine cx_newa C hA hW 0 (atype := .int) (a0 := (12, .inl (fun _ => nI 0))) gw_141 rfl rfl (fun _ _ h9 => h9) (fun _ => rfl) (by decide) (Nat.le_of_ble_eq_true rfl) (Nat.le_of_ble_eq_true rfl) (Nat.le_of_ble_eq_true rfl) dX8_init_15 (fun q_15 H hW => ?_)
  have hW : CxB D [(t0, .inr (11, [.ref q_7, .null, .null, .null, .null, .null])), (q_7, .inl (aT 0, 12, .inl (fun _ => nI 0))), (q_15, .inl (aT 0, 12, .inl (fun _ => nI 0)))] A s.heap H _ := hW
  refine cx_putF C hnm hW 0 1 (W1 := [(t0, .inr (11, [.ref q_7, .ref q_15, .null, .null, .null, .null])), (q_7, .inl (aT 0, 12, .inl (fun _ => nI 0))), (q_15, .inl (aT 0, 12, .inl (fun _ => nI 0)))]) rfl rfl (by decide) inX8 tyX8 tyX8_ok nmX8 gw_244 rfl rfl rfl rfl rfl rfl (Nat.le_of_ble_eq_true rfl) rfl dX8_init_17 (fun H locs hW => ?_)
  refine lv_aload_n hx hb dX8_init_20 rfl (lv_at hl 0 rfl) ?_
  refine lv_bipush (v := nI 12) hx hb dX8_init_21 (by decide) ?_
  refine cx_newa C hA hW 0 (atype := .int) (a0 := (12, .inl (fun _ => nI 0))) gw_141 rfl rfl (fun _ _ h9 => h9) (fun _ => rfl) (by decide) (Nat.le_of_ble_eq_true rfl) (Nat.le_of_ble_eq_true rfl) (Nat.le_of_ble_eq_true rfl) dX8_init_23 (fun q_23 H hW => ?_)
  have hW : CxB D [(t0, .inr (11, [.ref q_7, .ref q_15, .null, .null, .null, .null])), (q_7, .inl (aT 0, 12, .inl (fun _ => nI 0))), (q_15, .inl (aT 0, 12, .inl (fun _ => nI 0))), (q_23, .inl (aT 0, 12, .inl (fun _ => nI 0)))] A s.heap H _ := hW
  refine cx_putF C hnm hW 0 2 (W1 := [(t0, .inr (11, [.ref q_7, .ref q_15, .ref q_23, .null, .null, .null])), (q_7, .inl (aT 0, 12, .inl (fun _ => nI 0))), (q_15, .inl (aT 0, 12, .inl (fun _ => nI 0))), (q_23, .inl (aT 0, 12, .inl (fun _ => nI 0)))]) rfl rfl (by decide) inX8 tyX8 tyX8_ok nmX8 gw_245 rfl rfl rfl rfl rfl rfl (Nat.le_of_ble_eq_true rfl) rfl dX8_init_25 (fun H locs hW => ?_)
  refine lv_aload_n hx hb dX8_init_28 rfl (lv_at hl 0 rfl) ?_
  refine lv_bipush (v := nI 12) hx hb dX8_init_29 (by decide) ?_
  refine cx_newa C hA hW 0 (atype := .int) (a0 := (12, .inl (fun _ => nI 0))) gw_141 rfl rfl (fun _ _ h9 => h9) (fun _ => rfl) (by decide) (Nat.le_of_ble_eq_true rfl) (Nat.le_of_ble_eq_true rfl) (Nat.le_of_ble_eq_true rfl) dX8_init_31 (fun q_31 H hW => ?_)
  have hW : CxB D [(t0, .inr (11, [.ref q_7, .ref q_15, .ref q_23, .null, .null, .null])), (q_7, .inl (aT 0, 12, .inl (fun _ => nI 0))), (q_15, .inl (aT 0, 12, .inl (fun _ => nI 0))), (q_23, .inl (aT 0, 12, .inl (fun _ => nI 0))), (q_31, .inl (aT 0, 12, .inl (fun _ => nI 0)))] A s.heap H _ := hW
  refine cx_putF C hnm hW 0 3 (W1 := [(t0, .inr (11, [.ref q_7, .ref q_15, .ref q_23, .ref q_31, .null, .null])), (q_7, .inl (aT 0, 12, .inl (fun _ => nI 0))), (q_15, .inl (aT 0, 12, .inl (fun _ => nI 0))), (q_23, .inl (aT 0, 12, .inl (fun _ => nI 0))), (q_31, .inl (aT 0, 12, .inl (fun _ => nI 0)))]) rfl rfl (by decide) inX8 tyX8 tyX8_ok nmX8 gw_246 rfl rfl rfl rfl rfl rfl (Nat.le_of_ble_eq_true rfl) rfl dX8_init_33 (fun H locs hW => ?_)
  refine lv_aload_n hx hb dX8_init_36 rfl (lv_at hl 0 rfl) ?_
  refine lv_bipush (v := nI 12) hx hb dX8_init_37 (by decide) ?_
  refine cx_newa C hA hW 2 (atype := .long) (a0 := (12, .inr (.inl (fun _ => 0)))) gw_262 rfl rfl (fun _ _ h9 => h9) (fun _ => rfl) (by decide) (Nat.le_of_ble_eq_true rfl) (Nat.le_of_ble_eq_true rfl) (Nat.le_of_ble_eq_true rfl) dX8_init_39 (fun q_39 H hW => ?_)
  have hW : CxB D [(t0, .inr (11, [.ref q_7, .ref q_15, .ref q_23, .ref q_31, .null, .null])), (q_7, .inl (aT 0, 12, .inl (fun _ => nI 0))), (q_15, .inl (aT 0, 12, .inl (fun _ => nI 0))), (q_23, .inl (aT 0, 12, .inl (fun _ => nI 0))), (q_31, .inl (aT 0, 12, .inl (fun _ => nI 0))), (q_39, .inl (aT 2, 12, .inr (.inl (fun _ => 0))))] A s.heap H _ := hW
  refine cx_putF C hnm hW 0 4 (W1 := [(t0, .inr (11, [.ref q_7, .ref q_15, .ref q_23, .ref q_31, .ref q_39, .null])), (q_7, .inl (aT 0, 12, .inl (fun _ => nI 0))), (q_15, .inl (aT 0, 12, .inl (fun _ => nI 0))), (q_23, .inl (aT 0, 12, .inl (fun _ => nI 0))), (q_31, .inl (aT 0, 12, .inl (fun _ => nI 0))), (q_39, .inl (aT 2, 12, .inr (.inl (fun _ => 0))))]) rfl rfl (by decide) inX8 tyX8 tyX8_ok nmX8 gw_247 rfl rfl rfl rfl rfl rfl (Nat.le_of_ble_eq_true rfl) rfl dX8_init_41 (fun H locs hW => ?_)
  refine lv_aload_n hx hb dX8_init_44 rfl (lv_at hl 0 rfl) ?_
  refine lv_bipush (v := nI 12) hx hb dX8_init_45 (by decide) ?_
  refine cx_newa C hA hW 2 (atype := .long) (a0 := (12, .inr (.inl (fun _ => 0)))) gw_262 rfl rfl (fun _ _ h9 => h9) (fun _ => rfl) (by decide) (Nat.le_of_ble_eq_true rfl) (Nat.le_of_ble_eq_true rfl) (Nat.le_of_ble_eq_true rfl) dX8_init_47 (fun q_47 H hW => ?_)
  have hW : CxB D [(t0, .inr (11, [.ref q_7, .ref q_15, .ref q_23, .ref q_31, .ref q_39, .null])), (q_7, .inl (aT 0, 12, .inl (fun _ => nI 0))), (q_15, .inl (aT 0, 12, .inl (fun _ => nI 0))), (q_23, .inl (aT 0, 12, .inl (fun _ => nI 0))), (q_31, .inl (aT 0, 12, .inl (fun _ => nI 0))), (q_39, .inl (aT 2, 12, .inr (.inl (fun _ => 0)))), (q_47, .inl (aT 2, 12, .inr (.inl (fun _ => 0))))] A s.heap H _ := hW
  refine cx_putF C hnm hW 0 5 (W1 := [(t0, .inr (11, [.ref q_7, .ref q_15, .ref q_23, .ref q_31, .ref q_39, .ref q_47])), (q_7, .inl (aT 0, 12, .inl (fun _ => nI 0))), (q_15, .inl (aT 0, 12, .inl (fun _ => nI 0))), (q_23, .inl (aT 0, 12, .inl (fun _ => nI 0))), (q_31, .inl (aT 0, 12, .inl (fun _ => nI 0))), (q_39, .inl (aT 2, 12, .inr (.inl (fun _ => 0)))), (q_47, .inl (aT 2, 12, .inr (.inl (fun _ => 0))))]) rfl rfl (by decide) inX8 tyX8 tyX8_ok nmX8 gw_248 rfl rfl rfl rfl rfl rfl (Nat.le_of_ble_eq_true rfl) rfl dX8_init_49 (fun H locs hW => ?_)
  exact cx_vret C hr hlocks hW ⟨Nat.le_of_ble_eq_true rfl, Nat.le_of_ble_eq_true rfl⟩ (⟨_, _, _, _, _, _, rfl⟩) dX8_init_52
theorem dX7_isDigit_0 : decode cX7_isDigit 0 = .ok (.iload_n 0, 1) := by decide +kernel
theorem dX7_isDigit_1 : decode cX7_isDigit 1 = .ok (.ifCond .lt 13, 3) := by decide +kernel
theorem dX7_isDigit_4 : decode cX7_isDigit 4 = .ok (.iload_n 0, 1) := by decide +kernel
theorem dX7_isDigit_5 : decode cX7_isDigit 5 = .ok (.bipush 9, 2) := by decide +kernel
theorem dX7_isDigit_7 : decode cX7_isDigit 7 = .ok (.if_icmp .gt 7, 3) := by decide +kernel
theorem dX7_isDigit_10 : decode cX7_isDigit 10 = .ok (.iconst 1, 1) := by decide +kernel
theorem dX7_isDigit_11 : decode cX7_isDigit 11 = .ok (.goto 4, 3) := by decide +kernel
theorem dX7_isDigit_14 : decode cX7_isDigit 14 = .ok (.iconst 0, 1) := by decide +kernel
theorem dX7_isDigit_15 : decode cX7_isDigit 15 = .ok (.ireturn, 1) := by decide +kernel
set_option maxHeartbeats 2000000 in
set_option maxRecDepth 20000 in
theorem k_X7_isDigit (l : Launch) (hfl : l.stackTraces = false) (D : va_G) (aT : Nat → ClassId) (x : Int32) : CxG l yX7_isDigit cX7_isDigit 1 (some (.boolean)) 0 0 0 0 D aT [.int x] [] (qI D aT (fun r W1 => r = bI (rgB 0 9 x) ∧ W1 = [])) (fun _ => False) := by
  refine CxG.of RX7 (by decide +kernel) rfl (Nat.le_of_ble_eq_true rfl) ?_
  intro p e s m below meth c A ls C hml hl hA hr hlocks hex hnm hZ hW
  have hl : lv_has ls 1 [(0, .int x)] := hl
  have hx := C.1
  have hb := C.2.1
  refine lv_iload_n hx hb dX7_isDigit_0 rfl (lv_at hl 0 rfl) ?_
  refine lv_if_lt hx hb (x := x) (tgt := 14) dX7_isDigit_1 (by decide) (fun c_1 => ?_) (fun c_1 => ?_)
  · refine lv_iconst (v := nI 0) hx hb dX7_isDigit_14 (by decide) ?_
    exact cx_iret C hr hlocks (by decide) hW ⟨Nat.le_of_ble_eq_true rfl, Nat.le_of_ble_eq_true rfl⟩ (⟨by rw [dg_lo c_1]; rfl, rfl⟩) dX7_isDigit_15
  · refine lv_iload_n hx hb dX7_isDigit_4 rfl (lv_at hl 0 rfl) ?_
    refine lv_bipush (v := nI 9) hx hb dX7_isDigit_5 (by decide) ?_
    refine lv_icmp_gt hx hb (x := x) (y := (nI 9)) (tgt := 14) dX7_isDigit_7 (by decide) (fun c_7 => ?_) (fun c_7 => ?_)
    · refine lv_iconst (v := nI 0) hx hb dX7_isDigit_14 (by decide) ?_
      exact cx_iret C hr hlocks (by decide) hW ⟨Nat.le_of_ble_eq_true rfl, Nat.le_of_ble_eq_true rfl⟩ (⟨by rw [dg_hi c_7]; rfl, rfl⟩) dX7_isDigit_15
    · refine lv_iconst (v := nI 1) hx hb dX7_isDigit_10 (by decide) ?_
      refine lv_goto (tgt := 15) hx hb dX7_isDigit_11 (by decide) ?_
      exact cx_iret C hr hlocks (by decide) hW ⟨Nat.le_of_ble_eq_true rfl, Nat.le_of_ble_eq_true rfl⟩ (⟨by rw [dg_in c_1 c_7]; rfl, rfl⟩) dX7_isDigit_15
theorem dX2_copyFrom_0 : decode cX2_copyFrom 0 = .ok (.aload_n 1, 1) := by decide +kernel
theorem dX2_copyFrom_1 : decode cX2_copyFrom 1 = .ok (.getfield 9, 3) := by decide +kernel
theorem dX2_copyFrom_4 : decode cX2_copyFrom 4 = .ok (.iconst 0, 1) := by decide +kernel
theorem dX2_copyFrom_5 : decode cX2_copyFrom 5 = .ok (.aload_n 0, 1) := by decide +kernel
theorem dX2_copyFrom_6 : decode cX2_copyFrom 6 = .ok (.getfield 9, 3) := by decide +kernel
theorem dX2_copyFrom_9 : decode cX2_copyFrom 9 = .ok (.iconst 0, 1) := by decide +kernel
theorem dX2_copyFrom_10 : decode cX2_copyFrom 10 = .ok (.bipush 6, 2) := by decide +kernel
theorem dX2_copyFrom_12 : decode cX2_copyFrom 12 = .ok (.invokestatic 25, 3) := by decide +kernel
theorem dX2_copyFrom_15 : decode cX2_copyFrom 15 = .ok (.aload_n 1, 1) := by decide +kernel
theorem dX2_copyFrom_16 : decode cX2_copyFrom 16 = .ok (.getfield 15, 3) := by decide +kernel
theorem dX2_copyFrom_19 : decode cX2_copyFrom 19 = .ok (.iconst 0, 1) := by decide +kernel
theorem dX2_copyFrom_20 : decode cX2_copyFrom 20 = .ok (.aload_n 0, 1) := by decide +kernel
theorem dX2_copyFrom_21 : decode cX2_copyFrom 21 = .ok (.getfield 15, 3) := by decide +kernel
theorem dX2_copyFrom_24 : decode cX2_copyFrom 24 = .ok (.iconst 0, 1) := by decide +kernel
theorem dX2_copyFrom_25 : decode cX2_copyFrom 25 = .ok (.bipush 6, 2) := by decide +kernel
theorem dX2_copyFrom_27 : decode cX2_copyFrom 27 = .ok (.invokestatic 25, 3) := by decide +kernel
theorem dX2_copyFrom_30 : decode cX2_copyFrom 30 = .ok (.aload_n 1, 1) := by decide +kernel
theorem dX2_copyFrom_31 : decode cX2_copyFrom 31 = .ok (.getfield 18, 3) := by decide +kernel
theorem dX2_copyFrom_34 : decode cX2_copyFrom 34 = .ok (.iconst 0, 1) := by decide +kernel
theorem dX2_copyFrom_35 : decode cX2_copyFrom 35 = .ok (.aload_n 0, 1) := by decide +kernel
theorem dX2_copyFrom_36 : decode cX2_copyFrom 36 = .ok (.getfield 18, 3) := by decide +kernel
theorem dX2_copyFrom_39 : decode cX2_copyFrom 39 = .ok (.iconst 0, 1) := by decide +kernel
theorem dX2_copyFrom_40 : decode cX2_copyFrom 40 = .ok (.bipush 6, 2) := by decide +kernel
theorem dX2_copyFrom_42 : decode cX2_copyFrom 42 = .ok (.invokestatic 25, 3) := by decide +kernel
theorem dX2_copyFrom_45 : decode cX2_copyFrom 45 = .ok (.aload_n 0, 1) := by decide +kernel
theorem dX2_copyFrom_46 : decode cX2_copyFrom 46 = .ok (.aload_n 1, 1) := by decide +kernel
theorem dX2_copyFrom_47 : decode cX2_copyFrom 47 = .ok (.getfield 21, 3) := by decide +kernel
theorem dX2_copyFrom_50 : decode cX2_copyFrom 50 = .ok (.putfield 21, 3) := by decide +kernel
theorem dX2_copyFrom_53 : decode cX2_copyFrom 53 = .ok (.return_, 1) := by decide +kernel
set_option maxHeartbeats 2000000 in
set_option maxRecDepth 20000 in
theorem k_X2_copyFrom (l : Launch) (hfl : l.stackTraces = false) (D : va_G) (aT : Nat → ClassId) (a1 : Nat) (a2 : Nat) (a3 : Nat) (a4 : Nat) (b1 : Nat) (b2 : Nat) (b3 : Nat) (b4 : Nat) (f2 : Nat → Int32) (f3 : Nat → Int32) (f4 : Nat → Int32) (g2 : Nat → Int32) (g3 : Nat → Int32) (g4 : Nat → Int32) (na : Int32) (nb : Int32) : CxG l yX2_copyFrom cX2_copyFrom 2 none 1 0 0 60 D aT [.ref b1, .ref a1] [(a1, .inr (6, [.ref a2, .ref a3, .ref a4, .int na])), (a2, .inl (aT 0, 6, .inl f2)), (a3, .inl (aT 0, 6, .inl f3)), (a4, .inl (aT 0, 6, .inl f4)), (b1, .inr (6, [.ref b2, .ref b3, .ref b4, .int nb])), (b2, .inl (aT 0, 6, .inl g2)), (b3, .inl (aT 0, 6, .inl g3)), (b4, .inl (aT 0, 6, .inl g4))] (qV D aT (fun W1 => W1 = [(a1, .inr (6, [.ref a2, .ref a3, .ref a4, .int na])), (a2, .inl (aT 0, 6, .inl f2)), (a3, .inl (aT 0, 6, .inl f3)), (a4, .inl (aT 0, 6, .inl f4)), (b1, .inr (6, [.ref b2, .ref b3, .ref b4, .int na])), (b2, .inl (aT 0, 6, .inl (va_cpy f2 g2 0 0 6))), (b3, .inl (aT 0, 6, .inl (va_cpy f3 g3 0 0 6))), (b4, .inl (aT 0, 6, .inl (va_cpy f4 g4 0 0 6)))])) (fun _ => False) := by
  refine CxG.of RX2 (by decide +kernel) rfl (Nat.le_of_ble_eq_true rfl) ?_
  intro p e s m below meth c A ls C hml hl hA hr hlocks hex hnm hZ hW
  have hl : lv_has ls 2 [(0, .ref b1), (1, .ref a1)] := hl
  have hx := C.1
  have hb := C.2.1
  refine lv_aload_n hx hb dX2_copyFrom_0 rfl (lv_at hl 1 rfl) ?_
  refine cx_get C hW 0 0 rfl rfl (by decide) inX2 gw_124 rfl rfl dX2_copyFrom_1 ?_
  refine lv_iconst (v := nI 0) hx hb dX2_copyFrom_4 (by decide) ?_
  refine lv_aload_n hx hb dX2_copyFrom_5 rfl (lv_at hl 0 rfl) ?_
  refine cx_get C hW 4 0 rfl rfl (by decide) inX2 gw_124 rfl rfl dX2_copyFrom_6 ?_
  refine lv_iconst (v := nI 0) hx hb dX2_copyFrom_9 (by decide) ?_
  refine lv_bipush (v := nI 6) hx hb dX2_copyFrom_10 (by decide) ?_
  refine cx_copy C hml hl.1 hW 1 5 0 (W1 := [(a1, .inr (6, [.ref a2, .ref a3, .ref a4, .int na])), (a2, .inl (aT 0, 6, .inl f2)), (a3, .inl (aT 0, 6, .inl f3)), (a4, .inl (aT 0, 6, .inl f4)), (b1, .inr (6, [.ref b2, .ref b3, .ref b4, .int nb])), (b2, .inl (aT 0, 6, .inl (va_cpy f2 g2 0 0 6))), (b3, .inl (aT 0, 6, .inl g3)), (b4, .inl (aT 0, 6, .inl g4))]) rfl rfl rfl rfl (by decide) (by decide) (by decide) gw_390 gw_392 gw_391 gw_82 (Nat.le_of_ble_eq_true rfl) (Nat.le_of_ble_eq_true rfl) rfl dX2_copyFrom_12 (fun H locs hW => ?_)
  refine lv_aload_n hx hb dX2_copyFrom_15 rfl (lv_at hl 1 rfl) ?_
  refine cx_get C hW 0 1 rfl rfl (by decide) inX2 gw_126 rfl rfl dX2_copyFrom_16 ?_
  refine lv_iconst (v := nI 0) hx hb dX2_copyFrom_19 (by decide) ?_
  refine lv_aload_n hx hb dX2_copyFrom_20 rfl (lv_at hl 0 rfl) ?_
  refine cx_get C hW 4 1 rfl rfl (by decide) inX2 gw_126 rfl rfl dX2_copyFrom_21 ?_
  refine lv_iconst (v := nI 0) hx hb dX2_copyFrom_24 (by decide) ?_
  refine lv_bipush (v := nI 6) hx hb dX2_copyFrom_25 (by decide) ?_
  refine cx_copy C hml hl.1 hW 2 6 0 (W1 := [(a1, .inr (6, [.ref a2, .ref a3, .ref a4, .int na])), (a2, .inl (aT 0, 6, .inl f2)), (a3, .inl (aT 0, 6, .inl f3)), (a4, .inl (aT 0, 6, .inl f4)), (b1, .inr (6, [.ref b2, .ref b3, .ref b4, .int nb])), (b2, .inl (aT 0, 6, .inl (va_cpy f2 g2 0 0 6))), (b3, .inl (aT 0, 6, .inl (va_cpy f3 g3 0 0 6))), (b4, .inl (aT 0, 6, .inl g4))]) rfl rfl rfl rfl (by decide) (by decide) (by decide) gw_390 gw_392 gw_391 gw_82 (Nat.le_of_ble_eq_true rfl) (Nat.le_of_ble_eq_true rfl) rfl dX2_copyFrom_27 (fun H locs hW => ?_)
  refine lv_aload_n hx hb dX2_copyFrom_30 rfl (lv_at hl 1 rfl) ?_
  refine cx_get C hW 0 2 rfl rfl (by decide) inX2 gw_128 rfl rfl dX2_copyFrom_31 ?_
  refine lv_iconst (v := nI 0) hx hb dX2_copyFrom_34 (by decide) ?_
  refine lv_aload_n hx hb dX2_copyFrom_35 rfl (lv_at hl 0 rfl) ?_
  refine cx_get C hW 4 2 rfl rfl (by decide) inX2 gw_128 rfl rfl dX2_copyFrom_36 ?_
  refine lv_iconst (v := nI 0) hx hb dX2_copyFrom_39 (by decide) ?_
  refine lv_bipush (v := nI 6) hx hb dX2_copyFrom_40 (by decide) ?_
  refine cx_copy C hml hl.1 hW 3 7 0 (W1 := [(a1, .inr (6, [.ref a2, .ref a3, .ref a4, .int na])), (a2, .inl (aT 0, 6, .inl f2)), (a3, .inl (aT 0, 6, .inl f3)), (a4, .inl (aT 0, 6, .inl f4)), (b1, .inr (6, [.ref b2, .ref b3, .ref b4, .int nb])), (b2, .inl (aT 0, 6, .inl (va_cpy f2 g2 0 0 6))), (b3, .inl (aT 0, 6, .inl (va_cpy f3 g3 0 0 6))), (b4, .inl (aT 0, 6, .inl (va_cpy f4 g4 0 0 6)))]) rfl rfl rfl rfl (by decide) (by decide) (by decide) gw_390 gw_392 gw_391 gw_82 (Nat.le_of_ble_eq_true rfl) (Nat.le_of_ble_eq_true rfl) rfl dX2_copyFrom_42 (fun H locs hW => ?_)
  refine lv_aload_n hx hb dX2_copyFrom_45 rfl (lv_at hl 0 rfl) ?_
  refine lv_aload_n hx hb dX2_copyFrom_46 rfl (lv_at hl 1 rfl) ?_
  refine cx_get C hW 0 3 rfl rfl (by decide) inX2 gw_129 rfl rfl dX2_copyFrom_47 ?_
  refine cx_put C hW 4 3 (W1 := [(a1, .inr (6, [.ref a2, .ref a3, .ref a4, .int na])), (a2, .inl (aT 0, 6, .inl f2)), (a3, .inl (aT 0, 6, .inl f3)), (a4, .inl (aT 0, 6, .inl f4)), (b1, .inr (6, [.ref b2, .ref b3, .ref b4, .int na])), (b2, .inl (aT 0, 6, .inl (va_cpy f2 g2 0 0 6))), (b3, .inl (aT 0, 6, .inl (va_cpy f3 g3 0 0 6))), (b4, .inl (aT 0, 6, .inl (va_cpy f4 g4 0 0 6)))]) rfl rfl (by decide) inX2 tyX2 tyX2_ok nmX2 gw_129 rfl rfl rfl rfl rfl (Nat.le_of_ble_eq_true rfl) rfl dX2_copyFrom_50 (fun H locs hW => ?_)
  exact cx_vret C hr hlocks hW ⟨Nat.le_of_ble_eq_true rfl, Nat.le_of_ble_eq_true rfl⟩ (rfl) dX2_copyFrom_53
theorem dX5_copyFrom_0 : decode cX5_copyFrom 0 = .ok (.aload_n 1, 1) := by decide +kernel
theorem dX5_copyFrom_1 : decode cX5_copyFrom 1 = .ok (.getfield 9, 3) := by decide +kernel
theorem dX5_copyFrom_4 : decode cX5_copyFrom 4 = .ok (.iconst 0, 1) := by decide +kernel
theorem dX5_copyFrom_5 : decode cX5_copyFrom 5 = .ok (.aload_n 0, 1) := by decide +kernel
theorem dX5_copyFrom_6 : decode cX5_copyFrom 6 = .ok (.getfield 9, 3) := by decide +kernel
theorem dX5_copyFrom_9 : decode cX5_copyFrom 9 = .ok (.iconst 0, 1) := by decide +kernel
theorem dX5_copyFrom_10 : decode cX5_copyFrom 10 = .ok (.bipush 12, 2) := by decide +kernel
theorem dX5_copyFrom_12 : decode cX5_copyFrom 12 = .ok (.invokestatic 31, 3) := by decide +kernel
theorem dX5_copyFrom_15 : decode cX5_copyFrom 15 = .ok (.aload_n 1, 1) := by decide +kernel
theorem dX5_copyFrom_16 : decode cX5_copyFrom 16 = .ok (.getfield 15, 3) := by decide +kernel
theorem dX5_copyFrom_19 : decode cX5_copyFrom 19 = .ok (.iconst 0, 1) := by decide +kernel
theorem dX5_copyFrom_20 : decode cX5_copyFrom 20 = .ok (.aload_n 0, 1) := by decide +kernel
theorem dX5_copyFrom_21 : decode cX5_copyFrom 21 = .ok (.getfield 15, 3) := by decide +kernel
theorem dX5_copyFrom_24 : decode cX5_copyFrom 24 = .ok (.iconst 0, 1) := by decide +kernel
theorem dX5_copyFrom_25 : decode cX5_copyFrom 25 = .ok (.bipush 12, 2) := by decide +kernel
theorem dX5_copyFrom_27 : decode cX5_copyFrom 27 = .ok (.invokestatic 31, 3) := by decide +kernel
theorem dX5_copyFrom_30 : decode cX5_copyFrom 30 = .ok (.aload_n 1, 1) := by decide +kernel
theorem dX5_copyFrom_31 : decode cX5_copyFrom 31 = .ok (.getfield 18, 3) := by decide +kernel
theorem dX5_copyFrom_34 : decode cX5_copyFrom 34 = .ok (.iconst 0, 1) := by decide +kernel
theorem dX5_copyFrom_35 : decode cX5_copyFrom 35 = .ok (.aload_n 0, 1) := by decide +kernel
theorem dX5_copyFrom_36 : decode cX5_copyFrom 36 = .ok (.getfield 18, 3) := by decide +kernel
theorem dX5_copyFrom_39 : decode cX5_copyFrom 39 = .ok (.iconst 0, 1) := by decide +kernel
theorem dX5_copyFrom_40 : decode cX5_copyFrom 40 = .ok (.bipush 12, 2) := by decide +kernel
theorem dX5_copyFrom_42 : decode cX5_copyFrom 42 = .ok (.invokestatic 31, 3) := by decide +kernel
theorem dX5_copyFrom_45 : decode cX5_copyFrom 45 = .ok (.aload_n 1, 1) := by decide +kernel
theorem dX5_copyFrom_46 : decode cX5_copyFrom 46 = .ok (.getfield 21, 3) := by decide +kernel
theorem dX5_copyFrom_49 : decode cX5_copyFrom 49 = .ok (.iconst 0, 1) := by decide +kernel
theorem dX5_copyFrom_50 : decode cX5_copyFrom 50 = .ok (.aload_n 0, 1) := by decide +kernel
theorem dX5_copyFrom_51 : decode cX5_copyFrom 51 = .ok (.getfield 21, 3) := by decide +kernel
theorem dX5_copyFrom_54 : decode cX5_copyFrom 54 = .ok (.iconst 0, 1) := by decide +kernel
theorem dX5_copyFrom_55 : decode cX5_copyFrom 55 = .ok (.bipush 12, 2) := by decide +kernel
theorem dX5_copyFrom_57 : decode cX5_copyFrom 57 = .ok (.invokestatic 31, 3) := by decide +kernel
theorem dX5_copyFrom_60 : decode cX5_copyFrom 60 = .ok (.aload_n 0, 1) := by decide +kernel
theorem dX5_copyFrom_61 : decode cX5_copyFrom 61 = .ok (.aload_n 1, 1) := by decide +kernel
theorem dX5_copyFrom_62 : decode cX5_copyFrom 62 = .ok (.getfield 24, 3) := by decide +kernel
theorem dX5_copyFrom_65 : decode cX5_copyFrom 65 = .ok (.putfield 24, 3) := by decide +kernel
theorem dX5_copyFrom_68 : decode cX5_copyFrom 68 = .ok (.aload_n 0, 1) := by decide +kernel
theorem dX5_copyFrom_69 : decode cX5_copyFrom 69 = .ok (.aload_n 1, 1) := by decide +kernel
theorem dX5_copyFrom_70 : decode cX5_copyFrom 70 = .ok (.getfield 28, 3) := by decide +kernel
theorem dX5_copyFrom_73 : decode cX5_copyFrom 73 = .ok (.putfield 28, 3) := by decide +kernel
theorem dX5_copyFrom_76 : decode cX5_copyFrom 76 = .ok (.return_, 1) := by decide +kernel
set_option maxHeartbeats 2000000 in
set_option maxRecDepth 20000 in
theorem k_X5_copyFrom (l : Launch) (hfl : l.stackTraces = false) (D : va_G) (aT : Nat → ClassId) (a5 : Nat) (a6 : Nat) (a7 : Nat) (a8 : Nat) (a9 : Nat) (b5 : Nat) (b6 : Nat) (b7 : Nat) (b8 : Nat) (b9 : Nat) (f6 : Nat → Int32) (f7 : Nat → Int32) (f8 : Nat → Int32) (f9 : Nat → Int32) (g6 : Nat → Int32) (g7 : Nat → Int32) (g8 : Nat → Int32) (g9 : Nat → Int32) (na : Int32) (ma : Int32) (nb : Int32) (mb : Int32) : CxG l yX5_copyFrom cX5_copyFrom 2 none 1 0 0 60 D aT [.ref b5, .ref a5] [(a5, .inr (8, [.ref a6, .ref a7, .ref a8, .ref a9, .int na, .int ma])), (a6, .inl (aT 0, 12, .inl f6)), (a7, .inl (aT 0, 12, .inl f7)), (a8, .inl (aT 0, 12, .inl f8)), (a9, .inl (aT 0, 12, .inl f9)), (b5, .inr (8, [.ref b6, .ref b7, .ref b8, .ref b9, .int nb, .int mb])), (b6, .inl (aT 0, 12, .inl g6)), (b7, .inl (aT 0, 12, .inl g7)), (b8, .inl (aT 0, 12, .inl g8)), (b9, .inl (aT 0, 12, .inl g9))] (qV D aT (fun W1 => W1 = [(a5, .inr (8, [.ref a6, .ref a7, .ref a8, .ref a9, .int na, .int ma])), (a6, .inl (aT 0, 12, .inl f6)), (a7, .inl (aT 0, 12, .inl f7)), (a8, .inl (aT 0, 12, .inl f8)), (a9, .inl (aT 0, 12, .inl f9)), (b5, .inr (8, [.ref b6, .ref b7, .ref b8, .ref b9, .int na, .int ma])), (b6, .inl (aT 0, 12, .inl (va_cpy f6 g6 0 0 12))), (b7, .inl (aT 0, 12, .inl (va_cpy f7 g7 0 0 12))), (b8, .inl (aT 0, 12, .inl (va_cpy f8 g8 0 0 12))), (b9, .inl (aT 0, 12, .inl (va_cpy f9 g9 0 0 12)))])) (fun _ => False) := by
  refine CxG.of RX5 (by decide +kernel) rfl (Nat.le_of_ble_eq_true rfl) ?_
  intro p e s m below meth c A ls C hml hl hA hr hlocks hex hnm hZ hW
  have hl : lv_has ls 2 [(0, .ref b5), (1, .ref a5)] := hl
  have hx := C.1
  have hb := C.2.1
  refine lv_aload_n hx hb dX5_copyFrom_0 rfl (lv_at hl 1 rfl) ?_
  refine cx_get C hW 0 0 rfl rfl (by decide) inX5 gw_148 rfl rfl dX5_copyFrom_1 ?_
  refine lv_iconst (v := nI 0) hx hb dX5_copyFrom_4 (by decide) ?_
  refine lv_aload_n hx hb dX5_copyFrom_5 rfl (lv_at hl 0 rfl) ?_
  refine cx_get C hW 5 0 rfl rfl (by decide) inX5 gw_148 rfl rfl dX5_copyFrom_6 ?_
  refine lv_iconst (v := nI 0) hx hb dX5_copyFrom_9 (by decide) ?_
  refine lv_bipush (v := nI 12) hx hb dX5_copyFrom_10 (by decide) ?_
  refine cx_copy C hml hl.1 hW 1 6 0 (W1 := [(a5, .inr (8, [.ref a6, .ref a7, .ref a8, .ref a9, .int na, .int ma])), (a6, .inl (aT 0, 12, .inl f6)), (a7, .inl (aT 0, 12, .inl f7)), (a8, .inl (aT 0, 12, .inl f8)), (a9, .inl (aT 0, 12, .inl f9)), (b5, .inr (8, [.ref b6, .ref b7, .ref b8, .ref b9, .int nb, .int mb])), (b6, .inl (aT 0, 12, .inl (va_cpy f6 g6 0 0 12))), (b7, .inl (aT 0, 12, .inl g7)), (b8, .inl (aT 0, 12, .inl g8)), (b9, .inl (aT 0, 12, .inl g9))]) rfl rfl rfl rfl (by decide) (by decide) (by decide) gw_397 gw_392 gw_391 gw_82 (Nat.le_of_ble_eq_true rfl) (Nat.le_of_ble_eq_true rfl) rfl dX5_copyFrom_12 (fun H locs hW => ?_)
  refine lv_aload_n hx hb dX5_copyFrom_15 rfl (lv_at hl 1 rfl) ?_
  refine cx_get C hW 0 1 rfl rfl (by decide) inX5 gw_150 rfl rfl dX5_copyFrom_16 ?_
  refine lv_iconst (v := nI 0) hx hb dX5_copyFrom_19 (by decide) ?_
  refine lv_aload_n hx hb dX5_copyFrom_20 rfl (lv_at hl 0 rfl) ?_
  refine cx_get C hW 5 1 rfl rfl (by decide) inX5 gw_150 rfl rfl dX5_copyFrom_21 ?_
  refine lv_iconst (v := nI 0) hx hb dX5_copyFrom_24 (by decide) ?_
  refine lv_bipush (v := nI 12) hx hb dX5_copyFrom_25 (by decide) ?_
  refine cx_copy C hml hl.1 hW 2 7 0 (W1 := [(a5, .inr (8, [.ref a6, .ref a7, .ref a8, .ref a9, .int na, .int ma])), (a6, .inl (aT 0, 12, .inl f6)), (a7, .inl (aT 0, 12, .inl f7)), (a8, .inl (aT 0, 12, .inl f8)), (a9, .inl (aT 0, 12, .inl f9)), (b5, .inr (8, [.ref b6, .ref b7, .ref b8, .ref b9, .int nb, .int mb])), (b6, .inl (aT 0, 12, .inl (va_cpy f6 g6 0 0 12))), (b7, .inl (aT 0, 12, .inl (va_cpy f7 g7 0 0 12))), (b8, .inl (aT 0, 12, .inl g8)), (b9, .inl (aT 0, 12, .inl g9))]) rfl rfl rfl rfl (by decide) (by decide) (by decide) gw_397 gw_392 gw_391 gw_82 (Nat.le_of_ble_eq_true rfl) (Nat.le_of_ble_eq_true rfl) rfl dX5_copyFrom_27 (fun H locs hW => ?_)
  refine lv_aload_n hx hb dX5_copyFrom_30 rfl (lv_at hl 1 rfl) ?_
  refine cx_get C hW 0 2 rfl rfl (by decide) inX5 gw_153 rfl rfl dX5_copyFrom_31 ?_
  refine lv_iconst (v := nI 0) hx hb dX5_copyFrom_34 (by decide) ?_
  refine lv_aload_n hx hb dX5_copyFrom_35 rfl (lv_at hl 0 rfl) ?_
  refine cx_get C hW 5 2 rfl rfl (by decide) inX5 gw_153 rfl rfl dX5_copyFrom_36 ?_
  refine lv_iconst (v := nI 0) hx hb dX5_copyFrom_39 (by decide) ?_
  refine lv_bipush (v := nI 12) hx hb dX5_copyFrom_40 (by decide) ?_
  refine cx_copy C hml hl.1 hW 3 8 0 (W1 := [(a5, .inr (8, [.ref a6, .ref a7, .ref a8, .ref a9, .int na, .int ma])), (a6, .inl (aT 0, 12, .inl f6)), (a7, .inl (aT 0, 12, .inl f7)), (a8, .inl (aT 0, 12, .inl f8)), (a9, .inl (aT 0, 12, .inl f9)), (b5, .inr (8, [.ref b6, .ref b7, .ref b8, .ref b9, .int nb, .int mb])), (b6, .inl (aT 0, 12, .inl (va_cpy f6 g6 0 0 12))), (b7, .inl (aT 0, 12, .inl (va_cpy f7 g7 0 0 12))), (b8, .inl (aT 0, 12, .inl (va_cpy f8 g8 0 0 12))), (b9, .inl (aT 0, 12, .inl g9))]) rfl rfl rfl rfl (by decide) (by decide) (by decide) gw_397 gw_392 gw_391 gw_82 (Nat.le_of_ble_eq_true rfl) (Nat.le_of_ble_eq_true rfl) rfl dX5_copyFrom_42 (fun H locs hW => ?_)
  refine lv_aload_n hx hb dX5_copyFrom_45 rfl (lv_at hl 1 rfl) ?_
  refine cx_get C hW 0 3 rfl rfl (by decide) inX5 gw_157 rfl rfl dX5_copyFrom_46 ?_
  refine lv_iconst (v := nI 0) hx hb dX5_copyFrom_49 (by decide) ?_
  refine lv_aload_n hx hb dX5_copyFrom_50 rfl (lv_at hl 0 rfl) ?_
  refine cx_get C hW 5 3 rfl rfl (by decide) inX5 gw_157 rfl rfl dX5_copyFrom_51 ?_
  refine lv_iconst (v := nI 0) hx hb dX5_copyFrom_54 (by decide) ?_
  refine lv_bipush (v := nI 12) hx hb dX5_copyFrom_55 (by decide) ?_
  refine cx_copy C hml hl.1 hW 4 9 0 (W1 := [(a5, .inr (8, [.ref a6, .ref a7, .ref a8, .ref a9, .int na, .int ma])), (a6, .inl (aT 0, 12, .inl f6)), (a7, .inl (aT 0, 12, .inl f7)), (a8, .inl (aT 0, 12, .inl f8)), (a9, .inl (aT 0, 12, .inl f9)), (b5, .inr (8, [.ref b6, .ref b7, .ref b8, .ref b9, .int nb, .int mb])), (b6, .inl (aT 0, 12, .inl (va_cpy f6 g6 0 0 12))), (b7, .inl (aT 0, 12, .inl (va_cpy f7 g7 0 0 12))), (b8, .inl (aT 0, 12, .inl (va_cpy f8 g8 0 0 12))), (b9, .inl (aT 0, 12, .inl (va_cpy f9 g9 0 0 12)))]) rfl rfl rfl rfl (by decide) (by decide) (by decide) gw_397 gw_392 gw_391 gw_82 (Nat.le_of_ble_eq_true rfl) (Nat.le_of_ble_eq_true rfl) rfl dX5_copyFrom_57 (fun H locs hW => ?_)
  refine lv_aload_n hx hb dX5_copyFrom_60 rfl (lv_at hl 0 rfl) ?_
  refine lv_aload_n hx hb dX5_copyFrom_61 rfl (lv_at hl 1 rfl) ?_
  refine cx_get C hW 0 4 rfl rfl (by decide) inX5 gw_161 rfl rfl dX5_copyFrom_62 ?_
  refine cx_put C hW 5 4 (W1 := [(a5, .inr (8, [.ref a6, .ref a7, .ref a8, .ref a9, .int na, .int ma])), (a6, .inl (aT 0, 12, .inl f6)), (a7, .inl (aT 0, 12, .inl f7)), (a8, .inl (aT 0, 12, .inl f8)), (a9, .inl (aT 0, 12, .inl f9)), (b5, .inr (8, [.ref b6, .ref b7, .ref b8, .ref b9, .int na, .int mb])), (b6, .inl (aT 0, 12, .inl (va_cpy f6 g6 0 0 12))), (b7, .inl (aT 0, 12, .inl (va_cpy f7 g7 0 0 12))), (b8, .inl (aT 0, 12, .inl (va_cpy f8 g8 0 0 12))), (b9, .inl (aT 0, 12, .inl (va_cpy f9 g9 0 0 12)))]) rfl rfl (by decide) inX5 tyX5 tyX5_ok nmX5 gw_161 rfl rfl rfl rfl rfl (Nat.le_of_ble_eq_true rfl) rfl dX5_copyFrom_65 (fun H locs hW => ?_)
  refine lv_aload_n hx hb dX5_copyFrom_68 rfl (lv_at hl 0 rfl) ?_
  refine lv_aload_n hx hb dX5_copyFrom_69 rfl (lv_at hl 1 rfl) ?_
  refine cx_get C hW 0 5 rfl rfl (by decide) inX5 gw_165 rfl rfl dX5_copyFrom_70 ?_
  refine cx_put C hW 5 5 (W1 := [(a5, .inr (8, [.ref a6, .ref a7, .ref a8, .ref a9, .int na, .int ma])), (a6, .inl (aT 0, 12, .inl f6)), (a7, .inl (aT 0, 12, .inl f7)), (a8, .inl (aT 0, 12, .inl f8)), (a9, .inl (aT 0, 12, .inl f9)), (b5, .inr (8, [.ref b6, .ref b7, .ref b8, .ref b9, .int na, .int ma])), (b6, .inl (aT 0, 12, .inl (va_cpy f6 g6 0 0 12))), (b7, .inl (aT 0, 12, .inl (va_cpy f7 g7 0 0 12))), (b8, .inl (aT 0, 12, .inl (va_cpy f8 g8 0 0 12))), (b9, .inl (aT 0, 12, .inl (va_cpy f9 g9 0 0 12)))]) rfl rfl (by decide) inX5 tyX5 tyX5_ok nmX5 gw_165 rfl rfl rfl rfl rfl (Nat.le_of_ble_eq_true rfl) rfl dX5_copyFrom_73 (fun H locs hW => ?_)
  exact cx_vret C hr hlocks hW ⟨Nat.le_of_ble_eq_true rfl, Nat.le_of_ble_eq_true rfl⟩ (rfl) dX5_copyFrom_76
theorem dX7_copyFrom_0 : decode cX7_copyFrom 0 = .ok (.aload_n 0, 1) := by decide +kernel
theorem dX7_copyFrom_1 : decode cX7_copyFrom 1 = .ok (.getfield 12, 3) := by decide +kernel
theorem dX7_copyFrom_4 : decode cX7_copyFrom 4 = .ok (.aload_n 1, 1) := by decide +kernel
theorem dX7_copyFrom_5 : decode cX7_copyFrom 5 = .ok (.getfield 12, 3) := by decide +kernel
theorem dX7_copyFrom_8 : decode cX7_copyFrom 8 = .ok (.invokevirtual 33, 3) := by decide +kernel
theorem dX7_copyFrom_11 : decode cX7_copyFrom 11 = .ok (.aload_n 0, 1) := by decide +kernel
theorem dX7_copyFrom_12 : decode cX7_copyFrom 12 = .ok (.getfield 21, 3) := by decide +kernel
theorem dX7_copyFrom_15 : decode cX7_copyFrom 15 = .ok (.aload_n 1, 1) := by decide +kernel
theorem dX7_copyFrom_16 : decode cX7_copyFrom 16 = .ok (.getfield 21, 3) := by decide +kernel
theorem dX7_copyFrom_19 : decode cX7_copyFrom 19 = .ok (.invokevirtual 37, 3) := by decide +kernel
theorem dX7_copyFrom_22 : decode cX7_copyFrom 22 = .ok (.aload_n 1, 1) := by decide +kernel
theorem dX7_copyFrom_23 : decode cX7_copyFrom 23 = .ok (.getfield 25, 3) := by decide +kernel
theorem dX7_copyFrom_26 : decode cX7_copyFrom 26 = .ok (.iconst 0, 1) := by decide +kernel
theorem dX7_copyFrom_27 : decode cX7_copyFrom 27 = .ok (.aload_n 0, 1) := by decide +kernel
theorem dX7_copyFrom_28 : decode cX7_copyFrom 28 = .ok (.getfield 25, 3) := by decide +kernel
theorem dX7_copyFrom_31 : decode cX7_copyFrom 31 = .ok (.iconst 0, 1) := by decide +kernel
theorem dX7_copyFrom_32 : decode cX7_copyFrom 32 = .ok (.iconst 4, 1) := by decide +kernel
theorem dX7_copyFrom_33 : decode cX7_copyFrom 33 = .ok (.invokestatic 40, 3) := by decide +kernel
theorem dX7_copyFrom_36 : decode cX7_copyFrom 36 = .ok (.aload_n 0, 1) := by decide +kernel
theorem dX7_copyFrom_37 : decode cX7_copyFrom 37 = .ok (.aload_n 1, 1) := by decide +kernel
theorem dX7_copyFrom_38 : decode cX7_copyFrom 38 = .ok (.getfield 29, 3) := by decide +kernel
theorem dX7_copyFrom_41 : decode cX7_copyFrom 41 = .ok (.putfield 29, 3) := by decide +kernel
theorem dX7_copyFrom_44 : decode cX7_copyFrom 44 = .ok (.aload_n 0, 1) := by decide +kernel
theorem dX7_copyFrom_45 : decode cX7_copyFrom 45 = .ok (.aload_n 1, 1) := by decide +kernel
theorem dX7_copyFrom_46 : decode cX7_copyFrom 46 = .ok (.getfield 46, 3) := by decide +kernel
theorem dX7_copyFrom_49 : decode cX7_copyFrom 49 = .ok (.putfield 46, 3) := by decide +kernel
theorem dX7_copyFrom_52 : decode cX7_copyFrom 52 = .ok (.aload_n 0, 1) := by decide +kernel
theorem dX7_copyFrom_53 : decode cX7_copyFrom 53 = .ok (.aload_n 1, 1) := by decide +kernel
theorem dX7_copyFrom_54 : decode cX7_copyFrom 54 = .ok (.getfield 49, 3) := by decide +kernel
theorem dX7_copyFrom_57 : decode cX7_copyFrom 57 = .ok (.putfield 49, 3) := by decide +kernel
theorem dX7_copyFrom_60 : decode cX7_copyFrom 60 = .ok (.aload_n 0, 1) := by decide +kernel
theorem dX7_copyFrom_61 : decode cX7_copyFrom 61 = .ok (.aload_n 1, 1) := by decide +kernel
theorem dX7_copyFrom_62 : decode cX7_copyFrom 62 = .ok (.getfield 52, 3) := by decide +kernel
theorem dX7_copyFrom_65 : decode cX7_copyFrom 65 = .ok (.putfield 52, 3) := by decide +kernel
theorem dX7_copyFrom_68 : decode cX7_copyFrom 68 = .ok (.aload_n 0, 1) := by decide +kernel
theorem dX7_copyFrom_69 : decode cX7_copyFrom 69 = .ok (.aload_n 1, 1) := by decide +kernel
theorem dX7_copyFrom_70 : decode cX7_copyFrom 70 = .ok (.getfield 55, 3) := by decide +kernel
theorem dX7_copyFrom_73 : decode cX7_copyFrom 73 = .ok (.putfield 55, 3) := by decide +kernel
theorem dX7_copyFrom_76 : decode cX7_copyFrom 76 = .ok (.aload_n 0, 1) := by decide +kernel
theorem dX7_copyFrom_77 : decode cX7_copyFrom 77 = .ok (.aload_n 1, 1) := by decide +kernel
theorem dX7_copyFrom_78 : decode cX7_copyFrom 78 = .ok (.getfield 58, 3) := by decide +kernel
theorem dX7_copyFrom_81 : decode cX7_copyFrom 81 = .ok (.putfield 58, 3) := by decide +kernel
theorem dX7_copyFrom_84 : decode cX7_copyFrom 84 = .ok (.aload_n 0, 1) := by decide +kernel
theorem dX7_copyFrom_85 : decode cX7_copyFrom 85 = .ok (.aload_n 1, 1) := by decide +kernel
theorem dX7_copyFrom_86 : decode cX7_copyFrom 86 = .ok (.getfield 61, 3) := by decide +kernel
theorem dX7_copyFrom_89 : decode cX7_copyFrom 89 = .ok (.putfield 61, 3) := by decide +kernel
theorem dX7_copyFrom_92 : decode cX7_copyFrom 92 = .ok (.aload_n 0, 1) := by decide +kernel
theorem dX7_copyFrom_93 : decode cX7_copyFrom 93 = .ok (.aload_n 1, 1) := by decide +kernel
theorem dX7_copyFrom_94 : decode cX7_copyFrom 94 = .ok (.getfield 64, 3) := by decide +kernel
theorem dX7_copyFrom_97 : decode cX7_copyFrom 97 = .ok (.putfield 64, 3) := by decide +kernel
theorem dX7_copyFrom_100 : decode cX7_copyFrom 100 = .ok (.return_, 1) := by decide +kernel
theorem gV_X7_X2_copyFrom_33 : GoodIn gw (wsV RX7 33 RX2 yX2_copyFrom (Cond.code yX2_copyFrom cX2_copyFrom 2 (none) :: gw)) := gdV gw_386 gw_387 gw_388 gw_69 gw_389
theorem hV_X2_copyFrom : yX2_copyFrom.cls = RX2 ∧ yX2_copyFrom.cls ≠ "java/lang/invoke/MethodHandle" ∧ yX2_copyFrom.cls ≠ "java/lang/invoke/VarHandle" ∧ (parseMethodDescriptor yX2_copyFrom.desc).map (fun d => d.parameters.length) = some 1 := ⟨rfl, by decide +kernel, by decide +kernel, by decide +kernel⟩
theorem gV_X7_X5_copyFrom_37 : GoodIn gw (wsV RX7 37 RX5 yX5_copyFrom (Cond.code yX5_copyFrom cX5_copyFrom 2 (none) :: gw)) := gdV gw_393 gw_394 gw_395 gw_70 gw_396
theorem hV_X5_copyFrom : yX5_copyFrom.cls = RX5 ∧ yX5_copyFrom.cls ≠ "java/lang/invoke/MethodHandle" ∧ yX5_copyFrom.cls ≠ "java/lang/invoke/VarHandle" ∧ (parseMethodDescriptor yX5_copyFrom.desc).map (fun d => d.parameters.length) = some 1 := ⟨rfl, by decide +kernel, by decide +kernel, by decide +kernel⟩
set_option maxHeartbeats 2000000 in
set_option maxRecDepth 20000 in
theorem k_X7_copyFrom (l : Launch) (hfl : l.stackTraces = false) (D : va_G) (aT : Nat → ClassId) (a0 : Nat) (a1 : Nat) (a2 : Nat) (a3 : Nat) (a4 : Nat) (a5 : Nat) (a6 : Nat) (a7 : Nat) (a8 : Nat) (a9 : Nat) (a10 : Nat) (f2 : Nat → Int32) (f3 : Nat → Int32) (f4 : Nat → Int32) (f6 : Nat → Int32) (f7 : Nat → Int32) (f8 : Nat → Int32) (f9 : Nat → Int32) (f10 : Nat → Int32) (x0 : Int32) (x1 : Int32) (x2 : Int32) (x3 : Int32) (x4 : Int32) (x5 : Int32) (x6 : Int32) (x7 : Int32) (x8 : Int32) (x9 : Int32) (x10 : Int32) (b0 : Nat) (b1 : Nat) (b2 : Nat) (b3 : Nat) (b4 : Nat) (b5 : Nat) (b6 : Nat) (b7 : Nat) (b8 : Nat) (b9 : Nat) (b10 : Nat) (g2 : Nat → Int32) (g3 : Nat → Int32) (g4 : Nat → Int32) (g6 : Nat → Int32) (g7 : Nat → Int32) (g8 : Nat → Int32) (g9 : Nat → Int32) (g10 : Nat → Int32) (y0 : Int32) (y1 : Int32) (y2 : Int32) (y3 : Int32) (y4 : Int32) (y5 : Int32) (y6 : Int32) (y7 : Int32) (y8 : Int32) (y9 : Int32) (y10 : Int32) : CxG l yX7_copyFrom cX7_copyFrom 2 none 2 0 0 81 D aT [.ref b0, .ref a0] [(a0, .inr (10, [.ref a1, .ref a5, .ref a10, .int x0, .int x1, .int x2, .int x3, .int x4, .int x5, .int x6, .int x7])), (a1, .inr (6, [.ref a2, .ref a3, .ref a4, .int x8])), (a2, .inl (aT 0, 6, .inl f2)), (a3, .inl (aT 0, 6, .inl f3)), (a4, .inl (aT 0, 6, .inl f4)), (a5, .inr (8, [.ref a6, .ref a7, .ref a8, .ref a9, .int x9, .int x10])), (a6, .inl (aT 0, 12, .inl f6)), (a7, .inl (aT 0, 12, .inl f7)), (a8, .inl (aT 0, 12, .inl f8)), (a9, .inl (aT 0, 12, .inl f9)), (a10, .inl (aT 0, 4, .inl f10)), (b0, .inr (10, [.ref b1, .ref b5, .ref b10, .int y0, .int y1, .int y2, .int y3, .int y4, .int y5, .int y6, .int y7])), (b1, .inr (6, [.ref b2, .ref b3, .ref b4, .int y8])), (b2, .inl (aT 0, 6, .inl g2)), (b3, .inl (aT 0, 6, .inl g3)), (b4, .inl (aT 0, 6, .inl g4)), (b5, .inr (8, [.ref b6, .ref b7, .ref b8, .ref b9, .int y9, .int y10])), (b6, .inl (aT 0, 12, .inl g6)), (b7, .inl (aT 0, 12, .inl g7)), (b8, .inl (aT 0, 12, .inl g8)), (b9, .inl (aT 0, 12, .inl g9)), (b10, .inl (aT 0, 4, .inl g10))] (qV D aT (fun W1 => W1 = [(a0, .inr (10, [.ref a1, .ref a5, .ref a10, .int x0, .int x1, .int x2, .int x3, .int x4, .int x5, .int x6, .int x7])), (a10, .inl (aT 0, 4, .inl f10)), (b0, .inr (10, [.ref b1, .ref b5, .ref b10, .int x0, .int x1, .int x2, .int x3, .int x4, .int x5, .int x6, .int x7])), (b10, .inl (aT 0, 4, .inl (va_cpy f10 g10 0 0 4))), (a1, .inr (6, [.ref a2, .ref a3, .ref a4, .int x8])), (a2, .inl (aT 0, 6, .inl f2)), (a3, .inl (aT 0, 6, .inl f3)), (a4, .inl (aT 0, 6, .inl f4)), (b1, .inr (6, [.ref b2, .ref b3, .ref b4, .int x8])), (b2, .inl (aT 0, 6, .inl (va_cpy f2 g2 0 0 6))), (b3, .inl (aT 0, 6, .inl (va_cpy f3 g3 0 0 6))), (b4, .inl (aT 0, 6, .inl (va_cpy f4 g4 0 0 6))), (a5, .inr (8, [.ref a6, .ref a7, .ref a8, .ref a9, .int x9, .int x10])), (a6, .inl (aT 0, 12, .inl f6)), (a7, .inl (aT 0, 12, .inl f7)), (a8, .inl (aT 0, 12, .inl f8)), (a9, .inl (aT 0, 12, .inl f9)), (b5, .inr (8, [.ref b6, .ref b7, .ref b8, .ref b9, .int x9, .int x10])), (b6, .inl (aT 0, 12, .inl (va_cpy f6 g6 0 0 12))), (b7, .inl (aT 0, 12, .inl (va_cpy f7 g7 0 0 12))), (b8, .inl (aT 0, 12, .inl (va_cpy f8 g8 0 0 12))), (b9, .inl (aT 0, 12, .inl (va_cpy f9 g9 0 0 12)))])) (fun _ => False) := by
  refine CxG.of RX7 (by decide +kernel) rfl (Nat.le_of_ble_eq_true rfl) ?_
  intro p e s m below meth c A ls C hml hl hA hr hlocks hex hnm hZ hW
  have hl : lv_has ls 2 [(0, .ref b0), (1, .ref a0)] := hl
  have hx := C.1
  have hb := C.2.1
  refine lv_aload_n hx hb dX7_copyFrom_0 rfl (lv_at hl 0 rfl) ?_
  refine cx_get C hW 11 0 rfl rfl (by decide) inX7 gw_179 rfl rfl dX7_copyFrom_1 ?_
  refine lv_aload_n hx hb dX7_copyFrom_4 rfl (lv_at hl 1 rfl) ?_
  refine cx_get C hW 0 0 rfl rfl (by decide) inX7 gw_179 rfl rfl dX7_copyFrom_5 ?_
  refine cx_callv (Wr := [(a0, .inr (10, [.ref a1, .ref a5, .ref a10, .int x0, .int x1, .int x2, .int x3, .int x4, .int x5, .int x6, .int x7])), (a5, .inr (8, [.ref a6, .ref a7, .ref a8, .ref a9, .int x9, .int x10])), (a6, .inl (aT 0, 12, .inl f6)), (a7, .inl (aT 0, 12, .inl f7)), (a8, .inl (aT 0, 12, .inl f8)), (a9, .inl (aT 0, 12, .inl f9)), (a10, .inl (aT 0, 4, .inl f10)), (b0, .inr (10, [.ref b1, .ref b5, .ref b10, .int y0, .int y1, .int y2, .int y3, .int y4, .int y5, .int y6, .int y7])), (b5, .inr (8, [.ref b6, .ref b7, .ref b8, .ref b9, .int y9, .int y10])), (b6, .inl (aT 0, 12, .inl g6)), (b7, .inl (aT 0, 12, .inl g7)), (b8, .inl (aT 0, 12, .inl g8)), (b9, .inl (aT 0, 12, .inl g9)), (b10, .inl (aT 0, 4, .inl g10))]) (cx_runV C hml hl.1 hZ hW hA (As := [.ref a1]) (rest := []) (k_X2_copyFrom l hfl D aT a1 a2 a3 a4 b1 b2 b3 b4 f2 f3 f4 g2 g3 g4 x8 y8) gV_X7_X2_copyFrom_33 hV_X2_copyFrom rfl ⟨Nat.le_of_ble_eq_true rfl, Nat.le_of_ble_eq_true rfl⟩ ⟨Nat.le_of_ble_eq_true rfl, Nat.le_of_ble_eq_true rfl⟩ [1, 2, 3, 4, 12, 13, 14, 15] rfl (by decide) 12 6 rfl rfl rfl rfl (Nat.le_of_ble_eq_true rfl) dX7_copyFrom_8) hW hA [1, 2, 3, 4, 12, 13, 14, 15] [0, 5, 6, 7, 8, 9, 10, 11, 16, 17, 18, 19, 20, 21] rfl rfl (by decide) (by decide) (fun _ _ _ _ _ h9 => h9.elim) (fun W_8 H locs hq hW => ?_)
  subst hq
  have hW : CxB D [(a0, .inr (10, [.ref a1, .ref a5, .ref a10, .int x0, .int x1, .int x2, .int x3, .int x4, .int x5, .int x6, .int x7])), (a5, .inr (8, [.ref a6, .ref a7, .ref a8, .ref a9, .int x9, .int x10])), (a6, .inl (aT 0, 12, .inl f6)), (a7, .inl (aT 0, 12, .inl f7)), (a8, .inl (aT 0, 12, .inl f8)), (a9, .inl (aT 0, 12, .inl f9)), (a10, .inl (aT 0, 4, .inl f10)), (b0, .inr (10, [.ref b1, .ref b5, .ref b10, .int y0, .int y1, .int y2, .int y3, .int y4, .int y5, .int y6, .int y7])), (b5, .inr (8, [.ref b6, .ref b7, .ref b8, .ref b9, .int y9, .int y10])), (b6, .inl (aT 0, 12, .inl g6)), (b7, .inl (aT 0, 12, .inl g7)), (b8, .inl (aT 0, 12, .inl g8)), (b9, .inl (aT 0, 12, .inl g9)), (b10, .inl (aT 0, 4, .inl g10)), (a1, .inr (6, [.ref a2, .ref a3, .ref a4, .int x8])), (a2, .inl (aT 0, 6, .inl f2)), (a3, .inl (aT 0, 6, .inl f3)), (a4, .inl (aT 0, 6, .inl f4)), (b1, .inr (6, [.ref b2, .ref b3, .ref b4, .int x8])), (b2, .inl (aT 0, 6, .inl (va_cpy f2 g2 0 0 6))), (b3, .inl (aT 0, 6, .inl (va_cpy f3 g3 0 0 6))), (b4, .inl (aT 0, 6, .inl (va_cpy f4 g4 0 0 6)))] A s.heap H _ := hW
  refine lv_aload_n hx hb dX7_copyFrom_11 rfl (lv_at hl 0 rfl) ?_
  refine cx_get C hW 7 1 rfl rfl (by decide) inX7 gw_181 rfl rfl dX7_copyFrom_12 ?_
  refine lv_aload_n hx hb dX7_copyFrom_15 rfl (lv_at hl 1 rfl) ?_
  refine cx_get C hW 0 1 rfl rfl (by decide) inX7 gw_181 rfl rfl dX7_copyFrom_16 ?_
  refine cx_callv (Wr := [(a0, .inr (10, [.ref a1, .ref a5, .ref a10, .int x0, .int x1, .int x2, .int x3, .int x4, .int x5, .int x6, .int x7])), (a10, .inl (aT 0, 4, .inl f10)), (b0, .inr (10, [.ref b1, .ref b5, .ref b10, .int y0, .int y1, .int y2, .int y3, .int y4, .int y5, .int y6, .int y7])), (b10, .inl (aT 0, 4, .inl g10)), (a1, .inr (6, [.ref a2, .ref a3, .ref a4, .int x8])), (a2, .inl (aT 0, 6, .inl f2)), (a3, .inl (aT 0, 6, .inl f3)), (a4, .inl (aT 0, 6, .inl f4)), (b1, .inr (6, [.ref b2, .ref b3, .ref b4, .int x8])), (b2, .inl (aT 0, 6, .inl (va_cpy f2 g2 0 0 6))), (b3, .inl (aT 0, 6, .inl (va_cpy f3 g3 0 0 6))), (b4, .inl (aT 0, 6, .inl (va_cpy f4 g4 0 0 6)))]) (cx_runV C hml hl.1 hZ hW hA (As := [.ref a5]) (rest := []) (k_X5_copyFrom l hfl D aT a5 a6 a7 a8 a9 b5 b6 b7 b8 b9 f6 f7 f8 f9 g6 g7 g8 g9 x9 x10 y9 y10) gV_X7_X5_copyFrom_37 hV_X5_copyFrom rfl ⟨Nat.le_of_ble_eq_true rfl, Nat.le_of_ble_eq_true rfl⟩ ⟨Nat.le_of_ble_eq_true rfl, Nat.le_of_ble_eq_true rfl⟩ [1, 2, 3, 4, 5, 8, 9, 10, 11, 12] rfl (by decide) 8 8 rfl rfl rfl rfl (Nat.le_of_ble_eq_true rfl) dX7_copyFrom_19) hW hA [1, 2, 3, 4, 5, 8, 9, 10, 11, 12] [0, 6, 7, 13, 14, 15, 16, 17, 18, 19, 20, 21] rfl rfl (by decide) (by decide) (fun _ _ _ _ _ h9 => h9.elim) (fun W_19 H locs hq hW => ?_)
  subst hq
  have hW : CxB D [(a0, .inr (10, [.ref a1, .ref a5, .ref a10, .int x0, .int x1, .int x2, .int x3, .int x4, .int x5, .int x6, .int x7])), (a10, .inl (aT 0, 4, .inl f10)), (b0, .inr (10, [.ref b1, .ref b5, .ref b10, .int y0, .int y1, .int y2, .int y3, .int y4, .int y5, .int y6, .int y7])), (b10, .inl (aT 0, 4, .inl g10)), (a1, .inr (6, [.ref a2, .ref a3, .ref a4, .int x8])), (a2, .inl (aT 0, 6, .inl f2)), (a3, .inl (aT 0, 6, .inl f3)), (a4, .inl (aT 0, 6, .inl f4)), (b1, .inr (6, [.ref b2, .ref b3, .ref b4, .int x8])), (b2, .inl (aT 0, 6, .inl (va_cpy f2 g2 0 0 6))), (b3, .inl (aT 0, 6, .inl (va_cpy f3 g3 0 0 6))), (b4, .inl (aT 0, 6, .inl (va_cpy f4 g4 0 0 6))), (a5, .inr (8, [.ref a6, .ref a7, .ref a8, .ref a9, .int x9, .int x10])), (a6, .inl (aT 0, 12, .inl f6)), (a7, .inl (aT 0, 12, .inl f7)), (a8, .inl (aT 0, 12, .inl f8)), (a9, .inl (aT 0, 12, .inl f9)), (b5, .inr (8, [.ref b6, .ref b7, .ref b8, .ref b9, .int x9, .int x10])), (b6, .inl (aT 0, 12, .inl (va_cpy f6 g6 0 0 12))), (b7, .inl (aT 0, 12, .inl (va_cpy f7 g7 0 0 12))), (b8, .inl (aT 0, 12, .inl (va_cpy f8 g8 0 0 12))), (b9, .inl (aT 0, 12, .inl (va_cpy f9 g9 0 0 12)))] A s.heap H _ := hW
  refine lv_aload_n hx hb dX7_copyFrom_22 rfl (lv_at hl 1 rfl) ?_
  refine cx_get C hW 0 2 rfl rfl (by decide) inX7 gw_183 rfl rfl dX7_copyFrom_23 ?_
  refine lv_iconst (v := nI 0) hx hb dX7_copyFrom_26 (by decide) ?_
  refine lv_aload_n hx hb dX7_copyFrom_27 rfl (lv_at hl 0 rfl) ?_
  refine cx_get C hW 2 2 rfl rfl (by decide) inX7 gw_183 rfl rfl dX7_copyFrom_28 ?_
  refine lv_iconst (v := nI 0) hx hb dX7_copyFrom_31 (by decide) ?_
  refine lv_iconst (v := nI 4) hx hb dX7_copyFrom_32 (by decide) ?_
  refine cx_copy C hml hl.1 hW 1 3 0 (W1 := [(a0, .inr (10, [.ref a1, .ref a5, .ref a10, .int x0, .int x1, .int x2, .int x3, .int x4, .int x5, .int x6, .int x7])), (a10, .inl (aT 0, 4, .inl f10)), (b0, .inr (10, [.ref b1, .ref b5, .ref b10, .int y0, .int y1, .int y2, .int y3, .int y4, .int y5, .int y6, .int y7])), (b10, .inl (aT 0, 4, .inl (va_cpy f10 g10 0 0 4))), (a1, .inr (6, [.ref a2, .ref a3, .ref a4, .int x8])), (a2, .inl (aT 0, 6, .inl f2)), (a3, .inl (aT 0, 6, .inl f3)), (a4, .inl (aT 0, 6, .inl f4)), (b1, .inr (6, [.ref b2, .ref b3, .ref b4, .int x8])), (b2, .inl (aT 0, 6, .inl (va_cpy f2 g2 0 0 6))), (b3, .inl (aT 0, 6, .inl (va_cpy f3 g3 0 0 6))), (b4, .inl (aT 0, 6, .inl (va_cpy f4 g4 0 0 6))), (a5, .inr (8, [.ref a6, .ref a7, .ref a8, .ref a9, .int x9, .int x10])), (a6, .inl (aT 0, 12, .inl f6)), (a7, .inl (aT 0, 12, .inl f7)), (a8, .inl (aT 0, 12, .inl f8)), (a9, .inl (aT 0, 12, .inl f9)), (b5, .inr (8, [.ref b6, .ref b7, .ref b8, .ref b9, .int x9, .int x10])), (b6, .inl (aT 0, 12, .inl (va_cpy f6 g6 0 0 12))), (b7, .inl (aT 0, 12, .inl (va_cpy f7 g7 0 0 12))), (b8, .inl (aT 0, 12, .inl (va_cpy f8 g8 0 0 12))), (b9, .inl (aT 0, 12, .inl (va_cpy f9 g9 0 0 12)))]) rfl rfl rfl rfl (by decide) (by decide) (by decide) gw_398 gw_392 gw_391 gw_82 (Nat.le_of_ble_eq_true rfl) (Nat.le_of_ble_eq_true rfl) rfl dX7_copyFrom_33 (fun H locs hW => ?_)
  refine lv_aload_n hx hb dX7_copyFrom_36 rfl (lv_at hl 0 rfl) ?_
  refine lv_aload_n hx hb dX7_copyFrom_37 rfl (lv_at hl 1 rfl) ?_
  refine cx_get C hW 0 3 rfl rfl (by decide) inX7 gw_185 rfl rfl dX7_copyFrom_38 ?_
  refine cx_put C hW 2 3 (W1 := [(a0, .inr (10, [.ref a1, .ref a5, .ref a10, .int x0, .int x1, .int x2, .int x3, .int x4, .int x5, .int x6, .int x7])), (a10, .inl (aT 0, 4, .inl f10)), (b0, .inr (10, [.ref b1, .ref b5, .ref b10, .int x0, .int y1, .int y2, .int y3, .int y4, .int y5, .int y6, .int y7])), (b10, .inl (aT 0, 4, .inl (va_cpy f10 g10 0 0 4))), (a1, .inr (6, [.ref a2, .ref a3, .ref a4, .int x8])), (a2, .inl (aT 0, 6, .inl f2)), (a3, .inl (aT 0, 6, .inl f3)), (a4, .inl (aT 0, 6, .inl f4)), (b1, .inr (6, [.ref b2, .ref b3, .ref b4, .int x8])), (b2, .inl (aT 0, 6, .inl (va_cpy f2 g2 0 0 6))), (b3, .inl (aT 0, 6, .inl (va_cpy f3 g3 0 0 6))), (b4, .inl (aT 0, 6, .inl (va_cpy f4 g4 0 0 6))), (a5, .inr (8, [.ref a6, .ref a7, .ref a8, .ref a9, .int x9, .int x10])), (a6, .inl (aT 0, 12, .inl f6)), (a7, .inl (aT 0, 12, .inl f7)), (a8, .inl (aT 0, 12, .inl f8)), (a9, .inl (aT 0, 12, .inl f9)), (b5, .inr (8, [.ref b6, .ref b7, .ref b8, .ref b9, .int x9, .int x10])), (b6, .inl (aT 0, 12, .inl (va_cpy f6 g6 0 0 12))), (b7, .inl (aT 0, 12, .inl (va_cpy f7 g7 0 0 12))), (b8, .inl (aT 0, 12, .inl (va_cpy f8 g8 0 0 12))), (b9, .inl (aT 0, 12, .inl (va_cpy f9 g9 0 0 12)))]) rfl rfl (by decide) inX7 tyX7 tyX7_ok nmX7 gw_185 rfl rfl rfl rfl rfl (Nat.le_of_ble_eq_true rfl) rfl dX7_copyFrom_41 (fun H locs hW => ?_)
  refine lv_aload_n hx hb dX7_copyFrom_44 rfl (lv_at hl 0 rfl) ?_
  refine lv_aload_n hx hb dX7_copyFrom_45 rfl (lv_at hl 1 rfl) ?_
  refine cx_get C hW 0 4 rfl rfl (by decide) inX7 gw_187 rfl rfl dX7_copyFrom_46 ?_
  refine cx_put C hW 2 4 (W1 := [(a0, .inr (10, [.ref a1, .ref a5, .ref a10, .int x0, .int x1, .int x2, .int x3, .int x4, .int x5, .int x6, .int x7])), (a10, .inl (aT 0, 4, .inl f10)), (b0, .inr (10, [.ref b1, .ref b5, .ref b10, .int x0, .int x1, .int y2, .int y3, .int y4, .int y5, .int y6, .int y7])), (b10, .inl (aT 0, 4, .inl (va_cpy f10 g10 0 0 4))), (a1, .inr (6, [.ref a2, .ref a3, .ref a4, .int x8])), (a2, .inl (aT 0, 6, .inl f2)), (a3, .inl (aT 0, 6, .inl f3)), (a4, .inl (aT 0, 6, .inl f4)), (b1, .inr (6, [.ref b2, .ref b3, .ref b4, .int x8])), (b2, .inl (aT 0, 6, .inl (va_cpy f2 g2 0 0 6))), (b3, .inl (aT 0, 6, .inl (va_cpy f3 g3 0 0 6))), (b4, .inl (aT 0, 6, .inl (va_cpy f4 g4 0 0 6))), (a5, .inr (8, [.ref a6, .ref a7, .ref a8, .ref a9, .int x9, .int x10])), (a6, .inl (aT 0, 12, .inl f6)), (a7, .inl (aT 0, 12, .inl f7)), (a8, .inl (aT 0, 12, .inl f8)), (a9, .inl (aT 0, 12, .inl f9)), (b5, .inr (8, [.ref b6, .ref b7, .ref b8, .ref b9, .int x9, .int x10])), (b6, .inl (aT 0, 12, .inl (va_cpy f6 g6 0 0 12))), (b7, .inl (aT 0, 12, .inl (va_cpy f7 g7 0 0 12))), (b8, .inl (aT 0, 12, .inl (va_cpy f8 g8 0 0 12))), (b9, .inl (aT 0, 12, .inl (va_cpy f9 g9 0 0 12)))]) rfl rfl (by decide) inX7 tyX7 tyX7_ok nmX7 gw_187 rfl rfl rfl rfl rfl (Nat.le_of_ble_eq_true rfl) rfl dX7_copyFrom_49 (fun H locs hW => ?_)
  refine lv_aload_n hx hb dX7_copyFrom_52 rfl (lv_at hl 0 rfl) ?_
  refine lv_aload_n hx hb dX7_copyFrom_53 rfl (lv_at hl 1 rfl) ?_
  refine cx_get C hW 0 5 rfl rfl (by decide) inX7 gw_189 rfl rfl dX7_copyFrom_54 ?_
  refine cx_put C hW 2 5 (W1 := [(a0, .inr (10, [.ref a1, .ref a5, .ref a10, .int x0, .int x1, .int x2, .int x3, .int x4, .int x5, .int x6, .int x7])), (a10, .inl (aT 0, 4, .inl f10)), (b0, .inr (10, [.ref b1, .ref b5, .ref b10, .int x0, .int x1, .int x2, .int y3, .int y4, .int y5, .int y6, .int y7])), (b10, .inl (aT 0, 4, .inl (va_cpy f10 g10 0 0 4))), (a1, .inr (6, [.ref a2, .ref a3, .ref a4, .int x8])), (a2, .inl (aT 0, 6, .inl f2)), (a3, .inl (aT 0, 6, .inl f3)), (a4, .inl (aT 0, 6, .inl f4)), (b1, .inr (6, [.ref b2, .ref b3, .ref b4, .int x8])), (b2, .inl (aT 0, 6, .inl (va_cpy f2 g2 0 0 6))), (b3, .inl (aT 0, 6, .inl (va_cpy f3 g3 0 0 6))), (b4, .inl (aT 0, 6, .inl (va_cpy f4 g4 0 0 6))), (a5, .inr (8, [.ref a6, .ref a7, .ref a8, .ref a9, .int x9, .int x10])), (a6, .inl (aT 0, 12, .inl f6)), (a7, .inl (aT 0, 12, .inl f7)), (a8, .inl (aT 0, 12, .inl f8)), (a9, .inl (aT 0, 12, .inl f9)), (b5, .inr (8, [.ref b6, .ref b7, .ref b8, .ref b9, .int x9, .int x10])), (b6, .inl (aT 0, 12, .inl (va_cpy f6 g6 0 0 12))), (b7, .inl (aT 0, 12, .inl (va_cpy f7 g7 0 0 12))), (b8, .inl (aT 0, 12, .inl (va_cpy f8 g8 0 0 12))), (b9, .inl (aT 0, 12, .inl (va_cpy f9 g9 0 0 12)))]) rfl rfl (by decide) inX7 tyX7 tyX7_ok nmX7 gw_189 rfl rfl rfl rfl rfl (Nat.le_of_ble_eq_true rfl) rfl dX7_copyFrom_57 (fun H locs hW => ?_)
  refine lv_aload_n hx hb dX7_copyFrom_60 rfl (lv_at hl 0 rfl) ?_
  refine lv_aload_n hx hb dX7_copyFrom_61 rfl (lv_at hl 1 rfl) ?_
  refine cx_get C hW 0 6 rfl rfl (by decide) inX7 gw_191 rfl rfl dX7_copyFrom_62 ?_
  refine cx_put C hW 2 6 (W1 := [(a0, .inr (10, [.ref a1, .ref a5, .ref a10, .int x0, .int x1, .int x2, .int x3, .int x4, .int x5, .int x6, .int x7])), (a10, .inl (aT 0, 4, .inl f10)), (b0, .inr (10, [.ref b1, .ref b5, .ref b10, .int x0, .int x1, .int x2, .int x3, .int y4, .int y5, .int y6, .int y7])), (b10, .inl (aT 0, 4, .inl (va_cpy f10 g10 0 0 4))), (a1, .inr (6, [.ref a2, .ref a3, .ref a4, .int x8])), (a2, .inl (aT 0, 6, .inl f2)), (a3, .inl (aT 0, 6, .inl f3)), (a4, .inl (aT 0, 6, .inl f4)), (b1, .inr (6, [.ref b2, .ref b3, .ref b4, .int x8])), (b2, .inl (aT 0, 6, .inl (va_cpy f2 g2 0 0 6))), (b3, .inl (aT 0, 6, .inl (va_cpy f3 g3 0 0 6))), (b4, .inl (aT 0, 6, .inl (va_cpy f4 g4 0 0 6))), (a5, .inr (8, [.ref a6, .ref a7, .ref a8, .ref a9, .int x9, .int x10])), (a6, .inl (aT 0, 12, .inl f6)), (a7, .inl (aT 0, 12, .inl f7)), (a8, .inl (aT 0, 12, .inl f8)), (a9, .inl (aT 0, 12, .inl f9)), (b5, .inr (8, [.ref b6, .ref b7, .ref b8, .ref b9, .int x9, .int x10])), (b6, .inl (aT 0, 12, .inl (va_cpy f6 g6 0 0 12))), (b7, .inl (aT 0, 12, .inl (va_cpy f7 g7 0 0 12))), (b8, .inl (aT 0, 12, .inl (va_cpy f8 g8 0 0 12))), (b9, .inl (aT 0, 12, .inl (va_cpy f9 g9 0 0 12)))]) rfl rfl (by decide) inX7 tyX7 tyX7_ok nmX7 gw_191 rfl rfl rfl rfl rfl (Nat.le_of_ble_eq_true rfl) rfl dX7_copyFrom_65 (fun H locs hW => ?_)
  refine lv_aload_n hx hb dX7_copyFrom_68 rfl (lv_at hl 0 rfl) ?_
  refine lv_aload_n hx hb dX7_copyFrom_69 rfl (lv_at hl 1 rfl) ?_
  refine cx_get C hW 0 7 rfl rfl (by decide) inX7 gw_192 rfl rfl dX7_copyFrom_70 ?_
  refine cx_put C hW 2 7 (W1 := [(a0, .inr (10, [.ref a1, .ref a5, .ref a10, .int x0, .int x1, .int x2, .int x3, .int x4, .int x5, .int x6, .int x7])), (a10, .inl (aT 0, 4, .inl f10)), (b0, .inr (10, [.ref b1, .ref b5, .ref b10, .int x0, .int x1, .int x2, .int x3, .int x4, .int y5, .int y6, .int y7])), (b10, .inl (aT 0, 4, .inl (va_cpy f10 g10 0 0 4))), (a1, .inr (6, [.ref a2, .ref a3, .ref a4, .int x8])), (a2, .inl (aT 0, 6, .inl f2)), (a3, .inl (aT 0, 6, .inl f3)), (a4, .inl (aT 0, 6, .inl f4)), (b1, .inr (6, [.ref b2, .ref b3, .ref b4, .int x8])), (b2, .inl (aT 0, 6, .inl (va_cpy f2 g2 0 0 6))), (b3, .inl (aT 0, 6, .inl (va_cpy f3 g3 0 0 6))), (b4, .inl (aT 0, 6, .inl (va_cpy f4 g4 0 0 6))), (a5, .inr (8, [.ref a6, .ref a7, .ref a8, .ref a9, .int x9, .int x10])), (a6, .inl (aT 0, 12, .inl f6)), (a7, .inl (aT 0, 12, .inl f7)), (a8, .inl (aT 0, 12, .inl f8)), (a9, .inl (aT 0, 12, .inl f9)), (b5, .inr (8, [.ref b6, .ref b7, .ref b8, .ref b9, .int x9, .int x10])), (b6, .inl (aT 0, 12, .inl (va_cpy f6 g6 0 0 12))), (b7, .inl (aT 0, 12, .inl (va_cpy f7 g7 0 0 12))), (b8, .inl (aT 0, 12, .inl (va_cpy f8 g8 0 0 12))), (b9, .inl (aT 0, 12, .inl (va_cpy f9 g9 0 0 12)))]) rfl rfl (by decide) inX7 tyX7 tyX7_ok nmX7 gw_192 rfl rfl rfl rfl rfl (Nat.le_of_ble_eq_true rfl) rfl dX7_copyFrom_73 (fun H locs hW => ?_)
  refine lv_aload_n hx hb dX7_copyFrom_76 rfl (lv_at hl 0 rfl) ?_
  refine lv_aload_n hx hb dX7_copyFrom_77 rfl (lv_at hl 1 rfl) ?_
  refine cx_get C hW 0 8 rfl rfl (by decide) inX7 gw_193 rfl rfl dX7_copyFrom_78 ?_
  refine cx_put C hW 2 8 (W1 := [(a0, .inr (10, [.ref a1, .ref a5, .ref a10, .int x0, .int x1, .int x2, .int x3, .int x4, .int x5, .int x6, .int x7])), (a10, .inl (aT 0, 4, .inl f10)), (b0, .inr (10, [.ref b1, .ref b5, .ref b10, .int x0, .int x1, .int x2, .int x3, .int x4, .int x5, .int y6, .int y7])), (b10, .inl (aT 0, 4, .inl (va_cpy f10 g10 0 0 4))), (a1, .inr (6, [.ref a2, .ref a3, .ref a4, .int x8])), (a2, .inl (aT 0, 6, .inl f2)), (a3, .inl (aT 0, 6, .inl f3)), (a4, .inl (aT 0, 6, .inl f4)), (b1, .inr (6, [.ref b2, .ref b3, .ref b4, .int x8])), (b2, .inl (aT 0, 6, .inl (va_cpy f2 g2 0 0 6))), (b3, .inl (aT 0, 6, .inl (va_cpy f3 g3 0 0 6))), (b4, .inl (aT 0, 6, .inl (va_cpy f4 g4 0 0 6))), (a5, .inr (8, [.ref a6, .ref a7, .ref a8, .ref a9, .int x9, .int x10])), (a6, .inl (aT 0, 12, .inl f6)), (a7, .inl (aT 0, 12, .inl f7)), (a8, .inl (aT 0, 12, .inl f8)), (a9, .inl (aT 0, 12, .inl f9)), (b5, .inr (8, [.ref b6, .ref b7, .ref b8, .ref b9, .int x9, .int x10])), (b6, .inl (aT 0, 12, .inl (va_cpy f6 g6 0 0 12))), (b7, .inl (aT 0, 12, .inl (va_cpy f7 g7 0 0 12))), (b8, .inl (aT 0, 12, .inl (va_cpy f8 g8 0 0 12))), (b9, .inl (aT 0, 12, .inl (va_cpy f9 g9 0 0 12)))]) rfl rfl (by decide) inX7 tyX7 tyX7_ok nmX7 gw_193 rfl rfl rfl rfl rfl (Nat.le_of_ble_eq_true rfl) rfl dX7_copyFrom_81 (fun H locs hW => ?_)
  refine lv_aload_n hx hb dX7_copyFrom_84 rfl (lv_at hl 0 rfl) ?_
  refine lv_aload_n hx hb dX7_copyFrom_85 rfl (lv_at hl 1 rfl) ?_
  refine cx_get C hW 0 9 rfl rfl (by decide) inX7 gw_194 rfl rfl dX7_copyFrom_86 ?_
  refine cx_put C hW 2 9 (W1 := [(a0, .inr (10, [.ref a1, .ref a5, .ref a10, .int x0, .int x1, .int x2, .int x3, .int x4, .int x5, .int x6, .int x7])), (a10, .inl (aT 0, 4, .inl f10)), (b0, .inr (10, [.ref b1, .ref b5, .ref b10, .int x0, .int x1, .int x2, .int x3, .int x4, .int x5, .int x6, .int y7])), (b10, .inl (aT 0, 4, .inl (va_cpy f10 g10 0 0 4))), (a1, .inr (6, [.ref a2, .ref a3, .ref a4, .int x8])), (a2, .inl (aT 0, 6, .inl f2)), (a3, .inl (aT 0, 6, .inl f3)), (a4, .inl (aT 0, 6, .inl f4)), (b1, .inr (6, [.ref b2, .ref b3, .ref b4, .int x8])), (b2, .inl (aT 0, 6, .inl (va_cpy f2 g2 0 0 6))), (b3, .inl (aT 0, 6, .inl (va_cpy f3 g3 0 0 6))), (b4, .inl (aT 0, 6, .inl (va_cpy f4 g4 0 0 6))), (a5, .inr (8, [.ref a6, .ref a7, .ref a8, .ref a9, .int x9, .int x10])), (a6, .inl (aT 0, 12, .inl f6)), (a7, .inl (aT 0, 12, .inl f7)), (a8, .inl (aT 0, 12, .inl f8)), (a9, .inl (aT 0, 12, .inl f9)), (b5, .inr (8, [.ref b6, .ref b7, .ref b8, .ref b9, .int x9, .int x10])), (b6, .inl (aT 0, 12, .inl (va_cpy f6 g6 0 0 12))), (b7, .inl (aT 0, 12, .inl (va_cpy f7 g7 0 0 12))), (b8, .inl (aT 0, 12, .inl (va_cpy f8 g8 0 0 12))), (b9, .inl (aT 0, 12, .inl (va_cpy f9 g9 0 0 12)))]) rfl rfl (by decide) inX7 tyX7 tyX7_ok nmX7 gw_194 rfl rfl rfl rfl rfl (Nat.le_of_ble_eq_true rfl) rfl dX7_copyFrom_89 (fun H locs hW => ?_)
  refine lv_aload_n hx hb dX7_copyFrom_92 rfl (lv_at hl 0 rfl) ?_
  refine lv_aload_n hx hb dX7_copyFrom_93 rfl (lv_at hl 1 rfl) ?_
  refine cx_get C hW 0 10 rfl rfl (by decide) inX7 gw_195 rfl rfl dX7_copyFrom_94 ?_
  refine cx_put C hW 2 10 (W1 := [(a0, .inr (10, [.ref a1, .ref a5, .ref a10, .int x0, .int x1, .int x2, .int x3, .int x4, .int x5, .int x6, .int x7])), (a10, .inl (aT 0, 4, .inl f10)), (b0, .inr (10, [.ref b1, .ref b5, .ref b10, .int x0, .int x1, .int x2, .int x3, .int x4, .int x5, .int x6, .int x7])), (b10, .inl (aT 0, 4, .inl (va_cpy f10 g10 0 0 4))), (a1, .inr (6, [.ref a2, .ref a3, .ref a4, .int x8])), (a2, .inl (aT 0, 6, .inl f2)), (a3, .inl (aT 0, 6, .inl f3)), (a4, .inl (aT 0, 6, .inl f4)), (b1, .inr (6, [.ref b2, .ref b3, .ref b4, .int x8])), (b2, .inl (aT 0, 6, .inl (va_cpy f2 g2 0 0 6))), (b3, .inl (aT 0, 6, .inl (va_cpy f3 g3 0 0 6))), (b4, .inl (aT 0, 6, .inl (va_cpy f4 g4 0 0 6))), (a5, .inr (8, [.ref a6, .ref a7, .ref a8, .ref a9, .int x9, .int x10])), (a6, .inl (aT 0, 12, .inl f6)), (a7, .inl (aT 0, 12, .inl f7)), (a8, .inl (aT 0, 12, .inl f8)), (a9, .inl (aT 0, 12, .inl f9)), (b5, .inr (8, [.ref b6, .ref b7, .ref b8, .ref b9, .int x9, .int x10])), (b6, .inl (aT 0, 12, .inl (va_cpy f6 g6 0 0 12))), (b7, .inl (aT 0, 12, .inl (va_cpy f7 g7 0 0 12))), (b8, .inl (aT 0, 12, .inl (va_cpy f8 g8 0 0 12))), (b9, .inl (aT 0, 12, .inl (va_cpy f9 g9 0 0 12)))]) rfl rfl (by decide) inX7 tyX7 tyX7_ok nmX7 gw_195 rfl rfl rfl rfl rfl (Nat.le_of_ble_eq_true rfl) rfl dX7_copyFrom_97 (fun H locs hW => ?_)
  exact cx_vret C hr hlocks hW ⟨Nat.le_of_ble_eq_true rfl, Nat.le_of_ble_eq_true rfl⟩ (rfl) dX7_copyFrom_100
