theorem gdSU {own : String} {idx : Nat} {y : MethodName} {b : ByteArray} {L : Nat} {ret : Option FieldType} (h1 : Cond.methodLink own idx y ∈ gw) (h2 : Cond.sameMethod y.cls y.cls y.name y.desc ∈ gw) (h3 : Cond.superclass own y.cls ∈ gw) (h4 : Cond.instanceMethod y ∈ gw) (h5 : Cond.initialized y.cls ∈ gw) (h6 : Cond.code y b L ret ∈ gw) : GoodIn gw (va_wsSU own idx y (Cond.code y b L ret :: gw)) := by
  intro w hw
  have h : w ∈ gw := by
    unfold va_wsSU at hw
    simp only [List.cons_append, List.nil_append, List.mem_cons] at hw
    rcases hw with rfl | rfl | rfl | rfl | rfl | rfl | hw
    · exact h1
    · exact h2
    · exact h3
    · exact h4
    · exact h5
    · exact h6
    · exact hw
  exact ⟨h, gw_good w h⟩
theorem mi_hi {x : Int32} (h : ¬ x < nI 4) : rgB 0 3 x = false := by
  refine rg_hi (a := 0) (b := nI 3) (by decide) (by decide) (Int32.lt_iff_toInt_lt.mpr ?_)
  have h1 := Int32.le_iff_toInt_le.mp (Int32.not_lt.mp h)
  rw [nI_toInt (by decide)] at h1 ⊢
  omega
theorem mi_in {v : Nat} (h : v < 4) : rgB 0 3 (nI v) = true := by
  refine rg_in (a := 0) (b := nI 3) (by decide) (by decide) (fun q => ?_) (fun q => ?_)
  · exact Nat.not_lt_zero _ ((nI_ltI (by omega) (by decide)).mp (show nI v < nI 0 from q))
  · have := (nI_ltI (by decide) (by omega)).mp q
    omega
theorem dJxa1e45_init_da8c8_0 : decode cJxa1e45_init_da8c8 0 = .ok (.aload_n 0, 1) := by decide +kernel
theorem dJxa1e45_init_da8c8_1 : decode cJxa1e45_init_da8c8 1 = .ok (.invokespecial 1, 3) := by decide +kernel
theorem dJxa1e45_init_da8c8_4 : decode cJxa1e45_init_da8c8 4 = .ok (.return_, 1) := by decide +kernel
set_option maxHeartbeats 2000000 in
set_option maxRecDepth 20000 in
theorem k_Jxa1e45_init_da8c8 (l : Launch) (hfl : l.stackTraces = false) (D : va_G) (aT : Nat → ClassId) (p3 : Nat) : CxG l yJxa1e45_init_da8c8 cJxa1e45_init_da8c8 1 none 1 0 0 20 D aT [.ref p3] [(p3, .inr (4, [.int (nI 0), .null, .int (nI 0)]))] (qV D aT (fun W1 => W1 = [(p3, .inr (4, [.int (nI 0), .null, .int (nI 0)]))])) (fun _ => False) := by
  refine CxG.of RJxa1e45 (by decide +kernel) rfl (Nat.le_of_ble_eq_true rfl) ?_
  intro p e s m below meth c A ls C hml hl hA hr hlocks hex hnm hZ hW
  have hl : lv_has ls 1 [(0, .ref p3)] := hl
  have hx := C.1
  have hb := C.2.1
  refine lv_aload_n hx hb dJxa1e45_init_da8c8_0 rfl (lv_at hl 0 rfl) ?_
  refine cx_init C hml hl.1 gw_280 gw_110 gw_111 dJxa1e45_init_da8c8_1 (Nat.le_of_ble_eq_true rfl) (Nat.le_of_ble_eq_true rfl) ?_
  exact cx_vret C hr hlocks hW ⟨Nat.le_of_ble_eq_true rfl, Nat.le_of_ble_eq_true rfl⟩ (rfl) dJxa1e45_init_da8c8_4
theorem dJxc12de_init_da8c8_0 : decode cJxc12de_init_da8c8 0 = .ok (.aload_n 0, 1) := by decide +kernel
theorem dJxc12de_init_da8c8_1 : decode cJxc12de_init_da8c8 1 = .ok (.invokespecial 1, 3) := by decide +kernel
theorem dJxc12de_init_da8c8_4 : decode cJxc12de_init_da8c8 4 = .ok (.aload_n 0, 1) := by decide +kernel
theorem dJxc12de_init_da8c8_5 : decode cJxc12de_init_da8c8 5 = .ok (.iconst 0, 1) := by decide +kernel
theorem dJxc12de_init_da8c8_6 : decode cJxc12de_init_da8c8 6 = .ok (.putfield 7, 3) := by decide +kernel
theorem dJxc12de_init_da8c8_9 : decode cJxc12de_init_da8c8 9 = .ok (.return_, 1) := by decide +kernel
theorem gI_Jxa1e45_init_da8c8 : GoodIn gw (Cond.code yJxa1e45_init_da8c8 cJxa1e45_init_da8c8 1 none :: gw) := gdI gw_279
theorem hI_Jxa1e45_init_da8c8 : yJxa1e45_init_da8c8.cls ≠ "java/lang/invoke/MethodHandle" ∧ yJxa1e45_init_da8c8.cls ≠ "java/lang/invoke/VarHandle" ∧ (parseMethodDescriptor yJxa1e45_init_da8c8.desc).map (fun d => d.parameters.length) = some 0 := ⟨by decide +kernel, by decide +kernel, by decide +kernel⟩
set_option maxHeartbeats 2000000 in
set_option maxRecDepth 20000 in
theorem k_Jxc12de_init_da8c8 (l : Launch) (hfl : l.stackTraces = false) (D : va_G) (aT : Nat → ClassId) (p3 : Nat) : CxG l yJxc12de_init_da8c8 cJxc12de_init_da8c8 1 none 2 0 0 40 D aT [.ref p3] [(p3, .inr (4, [.int (nI 0), .null, .int (nI 0)]))] (qV D aT (fun W1 => W1 = [(p3, .inr (4, [.int (nI 0), .null, .int (nI 0)]))])) (fun _ => False) := by
  refine CxG.of RJxc12de (by decide +kernel) rfl (Nat.le_of_ble_eq_true rfl) ?_
  intro p e s m below meth c A ls C hml hl hA hr hlocks hex hnm hZ hW
  have hl : lv_has ls 1 [(0, .ref p3)] := hl
  have hx := C.1
  have hb := C.2.1
  refine lv_aload_n hx hb dJxc12de_init_da8c8_0 rfl (lv_at hl 0 rfl) ?_
  refine cx_callv (Wr := []) (cx_runI C hml hl.1 hZ hW hA (As := []) (rest := []) (k_Jxa1e45_init_da8c8 l hfl D aT p3) gI_Jxa1e45_init_da8c8 gw_74 gw_277 gw_278 rfl hI_Jxa1e45_init_da8c8 rfl ⟨Nat.le_of_ble_eq_true rfl, Nat.le_of_ble_eq_true rfl⟩ ⟨Nat.le_of_ble_eq_true rfl, Nat.le_of_ble_eq_true rfl⟩ [0] rfl (by decide) rfl (Nat.le_of_ble_eq_true rfl) dJxc12de_init_da8c8_1) hW hA [0] [] rfl rfl (by decide) (by decide) (fun _ _ _ _ _ h9 => h9.elim) (fun W_1 H locs hq hW => ?_)
  subst hq
  have hW : CxB D [(p3, .inr (4, [.int (nI 0), .null, .int (nI 0)]))] A s.heap H _ := hW
  refine lv_aload_n hx hb dJxc12de_init_da8c8_4 rfl (lv_at hl 0 rfl) ?_
  refine lv_iconst (v := nI 0) hx hb dJxc12de_init_da8c8_5 (by decide) ?_
  refine cx_put C hW 0 0 (W1 := [(p3, .inr (4, [.int (nI 0), .null, .int (nI 0)]))]) rfl rfl (by decide) inJx4a65c tyJx4a65c tyJx4a65c_ok nmJx4a65c gw_285 rfl rfl rfl rfl rfl (Nat.le_of_ble_eq_true rfl) rfl dJxc12de_init_da8c8_6 (fun H locs hW => ?_)
  exact cx_vret C hr hlocks hW ⟨Nat.le_of_ble_eq_true rfl, Nat.le_of_ble_eq_true rfl⟩ (rfl) dJxc12de_init_da8c8_9
theorem dJx4a65c_init_da8c8_0 : decode cJx4a65c_init_da8c8 0 = .ok (.aload_n 0, 1) := by decide +kernel
theorem dJx4a65c_init_da8c8_1 : decode cJx4a65c_init_da8c8 1 = .ok (.invokespecial 1, 3) := by decide +kernel
theorem dJx4a65c_init_da8c8_4 : decode cJx4a65c_init_da8c8 4 = .ok (.aload_n 0, 1) := by decide +kernel
theorem dJx4a65c_init_da8c8_5 : decode cJx4a65c_init_da8c8 5 = .ok (.getstatic 39, 3) := by decide +kernel
theorem dJx4a65c_init_da8c8_8 : decode cJx4a65c_init_da8c8 8 = .ok (.putfield 9, 3) := by decide +kernel
theorem dJx4a65c_init_da8c8_11 : decode cJx4a65c_init_da8c8 11 = .ok (.return_, 1) := by decide +kernel
theorem gI_Jxc12de_init_da8c8 : GoodIn gw (Cond.code yJxc12de_init_da8c8 cJxc12de_init_da8c8 1 none :: gw) := gdI gw_276
theorem hI_Jxc12de_init_da8c8 : yJxc12de_init_da8c8.cls ≠ "java/lang/invoke/MethodHandle" ∧ yJxc12de_init_da8c8.cls ≠ "java/lang/invoke/VarHandle" ∧ (parseMethodDescriptor yJxc12de_init_da8c8.desc).map (fun d => d.parameters.length) = some 0 := ⟨by decide +kernel, by decide +kernel, by decide +kernel⟩
set_option maxHeartbeats 2000000 in
set_option maxRecDepth 20000 in
theorem k_Jx4a65c_init_da8c8 (l : Launch) (hfl : l.stackTraces = false) (D : va_G) (aT : Nat → ClassId) (p3 : Nat) : CxG l yJx4a65c_init_da8c8 cJx4a65c_init_da8c8 1 none 3 0 0 60 D aT [.ref p3] [(p3, .inr (4, [.int (nI 0), .null, .int (nI 0)]))] (qV D aT (fun W1 => ∃ w : Option Nat, W1 = [(p3, .inr (4, [.int (nI 0), va_rf w, .int (nI 0)]))])) (fun _ => False) := by
  refine CxG.of RJx4a65c (by decide +kernel) rfl (Nat.le_of_ble_eq_true rfl) ?_
  intro p e s m below meth c A ls C hml hl hA hr hlocks hex hnm hZ hW
  have hl : lv_has ls 1 [(0, .ref p3)] := hl
  have hx := C.1
  have hb := C.2.1
  refine lv_aload_n hx hb dJx4a65c_init_da8c8_0 rfl (lv_at hl 0 rfl) ?_
  refine cx_callv (Wr := []) (cx_runI C hml hl.1 hZ hW hA (As := []) (rest := []) (k_Jxc12de_init_da8c8 l hfl D aT p3) gI_Jxc12de_init_da8c8 gw_75 gw_274 gw_275 rfl hI_Jxc12de_init_da8c8 rfl ⟨Nat.le_of_ble_eq_true rfl, Nat.le_of_ble_eq_true rfl⟩ ⟨Nat.le_of_ble_eq_true rfl, Nat.le_of_ble_eq_true rfl⟩ [0] rfl (by decide) rfl (Nat.le_of_ble_eq_true rfl) dJx4a65c_init_da8c8_1) hW hA [0] [] rfl rfl (by decide) (by decide) (fun _ _ _ _ _ h9 => h9.elim) (fun W_1 H locs hq hW => ?_)
  subst hq
  have hW : CxB D [(p3, .inr (4, [.int (nI 0), .null, .int (nI 0)]))] A s.heap H _ := hW
  refine lv_aload_n hx hb dJx4a65c_init_da8c8_4 rfl (lv_at hl 0 rfl) ?_
  rcases hZ.2.2.2.2.2.1 with hz | ⟨t9, hz⟩
  · refine va_gets hx hb hz hW.2.2 C.2.2.2.1 (C.2.2.1 _ gw_281) (fun _ h9 => h9) dJx4a65c_init_da8c8_5 ?_
    refine cx_put C hW 0 1 (W1 := [(p3, .inr (4, [.int (nI 0), .null, .int (nI 0)]))]) rfl rfl (by decide) inJx4a65c tyJx4a65c tyJx4a65c_ok nmJx4a65c gw_283 rfl rfl rfl rfl rfl (Nat.le_of_ble_eq_true rfl) rfl dJx4a65c_init_da8c8_8 (fun H locs hW => ?_)
    exact cx_vret C hr hlocks hW ⟨Nat.le_of_ble_eq_true rfl, Nat.le_of_ble_eq_true rfl⟩ (⟨none, rfl⟩) dJx4a65c_init_da8c8_11
  · refine va_gets hx hb hz hW.2.2 C.2.2.2.1 (C.2.2.1 _ gw_281) (fun _ h9 => h9) dJx4a65c_init_da8c8_5 ?_
    refine cx_put C hW 0 1 (W1 := [(p3, .inr (4, [.int (nI 0), .ref t9, .int (nI 0)]))]) rfl rfl (by decide) inJx4a65c tyJx4a65c tyJx4a65c_ok nmJx4a65c gw_283 rfl rfl rfl rfl rfl (Nat.le_of_ble_eq_true rfl) rfl dJx4a65c_init_da8c8_8 (fun H locs hW => ?_)
    exact cx_vret C hr hlocks hW ⟨Nat.le_of_ble_eq_true rfl, Nat.le_of_ble_eq_true rfl⟩ (⟨some t9, rfl⟩) dJx4a65c_init_da8c8_11
theorem dJ5_init_d00df_0 : decode cJ5_init_d00df 0 = .ok (.aload_n 0, 1) := by decide +kernel
theorem dJ5_init_d00df_1 : decode cJ5_init_d00df 1 = .ok (.invokespecial 3, 3) := by decide +kernel
theorem dJ5_init_d00df_4 : decode cJ5_init_d00df 4 = .ok (.getstatic 18, 3) := by decide +kernel
theorem dJ5_init_d00df_7 : decode cJ5_init_d00df 7 = .ok (.ifCond .eq 18, 3) := by decide +kernel
theorem dJ5_init_d00df_10 : decode cJ5_init_d00df 10 = .ok (.aload_n 0, 1) := by decide +kernel
theorem dJ5_init_d00df_11 : decode cJ5_init_d00df 11 = .ok (.iload_n 1, 1) := by decide +kernel
theorem dJ5_init_d00df_12 : decode cJ5_init_d00df 12 = .ok (.newarray .byte, 2) := by decide +kernel
theorem dJ5_init_d00df_14 : decode cJ5_init_d00df 14 = .ok (.putfield 15, 3) := by decide +kernel
theorem dJ5_init_d00df_17 : decode cJ5_init_d00df 17 = .ok (.aload_n 0, 1) := by decide +kernel
theorem dJ5_init_d00df_18 : decode cJ5_init_d00df 18 = .ok (.iconst 0, 1) := by decide +kernel
theorem dJ5_init_d00df_19 : decode cJ5_init_d00df 19 = .ok (.putfield 22, 3) := by decide +kernel
theorem dJ5_init_d00df_22 : decode cJ5_init_d00df 22 = .ok (.goto 16, 3) := by decide +kernel
theorem dJ5_init_d00df_25 : decode cJ5_init_d00df 25 = .ok (.aload_n 0, 1) := by decide +kernel
theorem dJ5_init_d00df_26 : decode cJ5_init_d00df 26 = .ok (.iload_n 1, 1) := by decide +kernel
theorem dJ5_init_d00df_27 : decode cJ5_init_d00df 27 = .ok (.invokestatic 26, 3) := by decide +kernel
theorem dJ5_init_d00df_30 : decode cJ5_init_d00df 30 = .ok (.putfield 15, 3) := by decide +kernel
theorem dJ5_init_d00df_33 : decode cJ5_init_d00df 33 = .ok (.aload_n 0, 1) := by decide +kernel
theorem dJ5_init_d00df_34 : decode cJ5_init_d00df 34 = .ok (.iconst 1, 1) := by decide +kernel
theorem dJ5_init_d00df_35 : decode cJ5_init_d00df 35 = .ok (.putfield 22, 3) := by decide +kernel
theorem dJ5_init_d00df_38 : decode cJ5_init_d00df 38 = .ok (.return_, 1) := by decide +kernel
set_option maxHeartbeats 2000000 in
set_option maxRecDepth 20000 in
theorem k_J5_init_d00df (l : Launch) (hfl : l.stackTraces = false) (D : va_G) (aT : Nat → ClassId) (o0 : Nat) : CxG l yJ5_init_d00df cJ5_init_d00df 2 none 1 1 16 20 D aT [.ref o0, .int (nI 16)] [(o0, .inr (1, [.null, .int (nI 0), .int (nI 0), .int (nI 0)]))] (qV D aT (fun W1 => ∃ q_12 : Nat, W1 = [(o0, .inr (1, [.ref q_12, .int (nI 0), .int (nI 0), .int (nI 0)])), (q_12, .inl (aT 4, 16, .inl (fun _ => nI 0)))])) (fun _ => False) := by
  refine CxG.of RJ5 (by decide +kernel) rfl (Nat.le_of_ble_eq_true rfl) ?_
  intro p e s m below meth c A ls C hml hl hA hr hlocks hex hnm hZ hW
  have hl : lv_has ls 2 [(0, .ref o0), (1, .int (nI 16))] := hl
  have hx := C.1
  have hb := C.2.1
  refine lv_aload_n hx hb dJ5_init_d00df_0 rfl (lv_at hl 0 rfl) ?_
  refine cx_init C hml hl.1 gw_321 gw_110 gw_111 dJ5_init_d00df_1 (Nat.le_of_ble_eq_true rfl) (Nat.le_of_ble_eq_true rfl) ?_
  refine va_gets hx hb hZ.2.2.2.2.2.2 hW.2.2 C.2.2.2.1 (C.2.2.1 _ gw_322) (fun _ h9 => h9) dJ5_init_d00df_4 ?_
  refine r_eq (y := nI 1) rfl ?_
  refine lv_if_eq hx hb (x := (nI 1)) (tgt := 25) dJ5_init_d00df_7 (by decide) (fun c_7 => ?_) (fun c_7 => ?_)
  · exact absurd c_7 (by decide)
  · refine lv_aload_n hx hb dJ5_init_d00df_10 rfl (lv_at hl 0 rfl) ?_
    refine lv_iload_n hx hb dJ5_init_d00df_11 rfl (lv_at hl 1 rfl) ?_
    refine cx_newa C hA hW 4 (atype := .byte) (a0 := (16, .inl (fun _ => nI 0))) gw_345 rfl rfl (fun _ _ h9 => h9) (fun _ => rfl) (by decide) (Nat.le_of_ble_eq_true rfl) (Nat.le_of_ble_eq_true rfl) (Nat.le_of_ble_eq_true rfl) dJ5_init_d00df_12 (fun q_12 H hW => ?_)
    have hW : CxB D [(o0, .inr (1, [.null, .int (nI 0), .int (nI 0), .int (nI 0)])), (q_12, .inl (aT 4, 16, .inl (fun _ => nI 0)))] A s.heap H _ := hW
    refine cx_put C hW 0 0 (W1 := [(o0, .inr (1, [.ref q_12, .int (nI 0), .int (nI 0), .int (nI 0)])), (q_12, .inl (aT 4, 16, .inl (fun _ => nI 0)))]) rfl rfl (by decide) inJ4 tyJ4 tyJ4_ok nmJ4 gw_331 rfl rfl rfl rfl rfl (Nat.le_of_ble_eq_true rfl) rfl dJ5_init_d00df_14 (fun H locs hW => ?_)
    refine lv_aload_n hx hb dJ5_init_d00df_17 rfl (lv_at hl 0 rfl) ?_
    refine lv_iconst (v := nI 0) hx hb dJ5_init_d00df_18 (by decide) ?_
    refine cx_put C hW 0 1 (W1 := [(o0, .inr (1, [.ref q_12, .int (nI 0), .int (nI 0), .int (nI 0)])), (q_12, .inl (aT 4, 16, .inl (fun _ => nI 0)))]) rfl rfl (by decide) inJ4 tyJ4 tyJ4_ok nmJ4 gw_332 rfl rfl rfl (by decide) (by decide) (Nat.le_of_ble_eq_true rfl) rfl dJ5_init_d00df_19 (fun H locs hW => ?_)
    refine lv_goto (tgt := 38) hx hb dJ5_init_d00df_22 (by decide) ?_
    exact cx_vret C hr hlocks hW ⟨Nat.le_of_ble_eq_true rfl, Nat.le_of_ble_eq_true rfl⟩ (⟨_, rfl⟩) dJ5_init_d00df_38
theorem dJ4_init_da8c8_0 : decode cJ4_init_da8c8 0 = .ok (.aload_n 0, 1) := by decide +kernel
theorem dJ4_init_da8c8_1 : decode cJ4_init_da8c8 1 = .ok (.bipush 16, 2) := by decide +kernel
theorem dJ4_init_da8c8_3 : decode cJ4_init_da8c8 3 = .ok (.invokespecial 1, 3) := by decide +kernel
theorem dJ4_init_da8c8_6 : decode cJ4_init_da8c8 6 = .ok (.return_, 1) := by decide +kernel
theorem gI_J5_init_d00df : GoodIn gw (Cond.code yJ5_init_d00df cJ5_init_d00df 2 none :: gw) := gdI gw_320
theorem hI_J5_init_d00df : yJ5_init_d00df.cls ≠ "java/lang/invoke/MethodHandle" ∧ yJ5_init_d00df.cls ≠ "java/lang/invoke/VarHandle" ∧ (parseMethodDescriptor yJ5_init_d00df.desc).map (fun d => d.parameters.length) = some 1 := ⟨by decide +kernel, by decide +kernel, by decide +kernel⟩
set_option maxHeartbeats 2000000 in
set_option maxRecDepth 20000 in
theorem k_J4_init_da8c8 (l : Launch) (hfl : l.stackTraces = false) (D : va_G) (aT : Nat → ClassId) (o0 : Nat) : CxG l yJ4_init_da8c8 cJ4_init_da8c8 1 none 2 1 16 41 D aT [.ref o0] [(o0, .inr (1, [.null, .int (nI 0), .int (nI 0), .int (nI 0)]))] (qV D aT (fun W1 => ∃ q_12_3 : Nat, W1 = [(o0, .inr (1, [.ref q_12_3, .int (nI 0), .int (nI 0), .int (nI 0)])), (q_12_3, .inl (aT 4, 16, .inl (fun _ => nI 0)))])) (fun _ => False) := by
  refine CxG.of RJ4 (by decide +kernel) rfl (Nat.le_of_ble_eq_true rfl) ?_
  intro p e s m below meth c A ls C hml hl hA hr hlocks hex hnm hZ hW
  have hl : lv_has ls 1 [(0, .ref o0)] := hl
  have hx := C.1
  have hb := C.2.1
  refine lv_aload_n hx hb dJ4_init_da8c8_0 rfl (lv_at hl 0 rfl) ?_
  refine lv_bipush (v := nI 16) hx hb dJ4_init_da8c8_1 (by decide) ?_
  refine cx_callv (Wr := []) (cx_runI C hml hl.1 hZ hW hA (As := [.int (nI 16)]) (rest := []) (k_J5_init_d00df l hfl D aT o0) gI_J5_init_d00df gw_77 gw_318 gw_319 rfl hI_J5_init_d00df rfl ⟨Nat.le_of_ble_eq_true rfl, Nat.le_of_ble_eq_true rfl⟩ ⟨Nat.le_of_ble_eq_true rfl, Nat.le_of_ble_eq_true rfl⟩ [0] rfl (by decide) rfl (Nat.le_of_ble_eq_true rfl) dJ4_init_da8c8_3) hW hA [0] [] rfl rfl (by decide) (by decide) (fun _ _ _ _ _ h9 => h9.elim) (fun W_3 H locs hq hW => ?_)
  obtain ⟨q_12_3, rfl⟩ := hq
  have hW : CxB D [(o0, .inr (1, [.ref q_12_3, .int (nI 0), .int (nI 0), .int (nI 0)])), (q_12_3, .inl (aT 4, 16, .inl (fun _ => nI 0)))] A s.heap H _ := hW
  exact cx_vret C hr hlocks hW ⟨Nat.le_of_ble_eq_true rfl, Nat.le_of_ble_eq_true rfl⟩ (⟨_, rfl⟩) dJ4_init_da8c8_6
theorem dJ5_length_8abf5_0 : decode cJ5_length_8abf5 0 = .ok (.aload_n 0, 1) := by decide +kernel
theorem dJ5_length_8abf5_1 : decode cJ5_length_8abf5 1 = .ok (.getfield 79, 3) := by decide +kernel
theorem dJ5_length_8abf5_4 : decode cJ5_length_8abf5 4 = .ok (.ireturn, 1) := by decide +kernel
set_option maxHeartbeats 2000000 in
set_option maxRecDepth 20000 in
theorem k_J5_length_8abf5 (l : Launch) (hfl : l.stackTraces = false) (D : va_G) (aT : Nat → ClassId) (o0 : Nat) (o1 : Nat) : CxG l yJ5_length_8abf5 cJ5_length_8abf5 1 (some (.int)) 0 0 0 0 D aT [.ref o0] [(o0, .inr (1, [.ref o1, .int (nI 0), .int (nI 0), .int (nI 0)]))] (qI D aT (fun r W1 => r = (nI 0) ∧ W1 = [(o0, .inr (1, [.ref o1, .int (nI 0), .int (nI 0), .int (nI 0)]))])) (fun _ => False) := by
  refine CxG.of RJ5 (by decide +kernel) rfl (Nat.le_of_ble_eq_true rfl) ?_
  intro p e s m below meth c A ls C hml hl hA hr hlocks hex hnm hZ hW
  have hl : lv_has ls 1 [(0, .ref o0)] := hl
  have hx := C.1
  have hb := C.2.1
  refine lv_aload_n hx hb dJ5_length_8abf5_0 rfl (lv_at hl 0 rfl) ?_
  refine cx_get C hW 0 3 rfl rfl (by decide) inJ4 gw_335 rfl rfl dJ5_length_8abf5_1 ?_
  exact cx_iret C hr hlocks rfl hW ⟨Nat.le_of_ble_eq_true rfl, Nat.le_of_ble_eq_true rfl⟩ (⟨rfl, rfl⟩) dJ5_length_8abf5_4
theorem dJ4_length_8abf5_0 : decode cJ4_length_8abf5 0 = .ok (.aload_n 0, 1) := by decide +kernel
theorem dJ4_length_8abf5_1 : decode cJ4_length_8abf5 1 = .ok (.invokespecial 343, 3) := by decide +kernel
theorem dJ4_length_8abf5_4 : decode cJ4_length_8abf5 4 = .ok (.ireturn, 1) := by decide +kernel
theorem gSU_J5_length_8abf5 : GoodIn gw (va_wsSU RJ4 343 yJ5_length_8abf5 (Cond.code yJ5_length_8abf5 cJ5_length_8abf5 1 (some .int) :: gw)) := gdSU gw_1490 gw_1486 gw_344 gw_1485 gw_77 gw_1491
theorem hSU_J5_length_8abf5 : yJ5_length_8abf5.name ≠ "<init>" ∧ (parseMethodDescriptor yJ5_length_8abf5.desc).map (fun d => d.parameters.length) = some 0 := ⟨by decide +kernel, by decide +kernel⟩
set_option maxHeartbeats 2000000 in
set_option maxRecDepth 20000 in
theorem k_J4_length_8abf5 (l : Launch) (hfl : l.stackTraces = false) (D : va_G) (aT : Nat → ClassId) (o0 : Nat) (o1 : Nat) : CxG l yJ4_length_8abf5 cJ4_length_8abf5 1 (some (.int)) 1 0 0 20 D aT [.ref o0] [(o0, .inr (1, [.ref o1, .int (nI 0), .int (nI 0), .int (nI 0)]))] (qI D aT (fun r W1 => r = (nI 0) ∧ W1 = [(o0, .inr (1, [.ref o1, .int (nI 0), .int (nI 0), .int (nI 0)]))])) (fun _ => False) := by
  refine CxG.of RJ4 (by decide +kernel) rfl (Nat.le_of_ble_eq_true rfl) ?_
  intro p e s m below meth c A ls C hml hl hA hr hlocks hex hnm hZ hW
  have hl : lv_has ls 1 [(0, .ref o0)] := hl
  have hx := C.1
  have hb := C.2.1
  refine lv_aload_n hx hb dJ4_length_8abf5_0 rfl (lv_at hl 0 rfl) ?_
  refine cx_calli (Wr := []) (cx_runSU C hml hl.1 hZ hW hA (As := []) (rest := []) (k_J5_length_8abf5 l hfl D aT o0 o1) gSU_J5_length_8abf5 hSU_J5_length_8abf5 rfl ⟨Nat.le_of_ble_eq_true rfl, Nat.le_of_ble_eq_true rfl⟩ ⟨Nat.le_of_ble_eq_true rfl, Nat.le_of_ble_eq_true rfl⟩ [0] rfl (by decide) 0 1 rfl rfl rfl (Nat.le_of_ble_eq_true rfl) dJ4_length_8abf5_1) hW hA [0] [] rfl rfl (by decide) (by decide) (fun _ _ _ _ _ h9 => h9.elim) (fun r_1 W_1 H locs hq hW => ?_)
  obtain ⟨rfl, rfl⟩ := hq
  have hW : CxB D [(o0, .inr (1, [.ref o1, .int (nI 0), .int (nI 0), .int (nI 0)]))] A s.heap H _ := hW
  exact cx_iret C hr hlocks rfl hW ⟨Nat.le_of_ble_eq_true rfl, Nat.le_of_ble_eq_true rfl⟩ (⟨rfl, rfl⟩) dJ4_length_8abf5_4
theorem dJx4a65c_clear_da8c8_0 : decode cJx4a65c_clear_da8c8 0 = .ok (.aload_n 0, 1) := by decide +kernel
theorem dJx4a65c_clear_da8c8_1 : decode cJx4a65c_clear_da8c8 1 = .ok (.dup, 1) := by decide +kernel
theorem dJx4a65c_clear_da8c8_2 : decode cJx4a65c_clear_da8c8 2 = .ok (.getfield 63, 3) := by decide +kernel
theorem dJx4a65c_clear_da8c8_5 : decode cJx4a65c_clear_da8c8 5 = .ok (.iconst 1, 1) := by decide +kernel
theorem dJx4a65c_clear_da8c8_6 : decode cJx4a65c_clear_da8c8 6 = .ok (.iadd, 1) := by decide +kernel
theorem dJx4a65c_clear_da8c8_7 : decode cJx4a65c_clear_da8c8 7 = .ok (.putfield 63, 3) := by decide +kernel
theorem dJx4a65c_clear_da8c8_10 : decode cJx4a65c_clear_da8c8 10 = .ok (.aload_n 0, 1) := by decide +kernel
theorem dJx4a65c_clear_da8c8_11 : decode cJx4a65c_clear_da8c8 11 = .ok (.getfield 9, 3) := by decide +kernel
theorem dJx4a65c_clear_da8c8_14 : decode cJx4a65c_clear_da8c8 14 = .ok (.astore_n 1, 1) := by decide +kernel
theorem dJx4a65c_clear_da8c8_15 : decode cJx4a65c_clear_da8c8 15 = .ok (.aload_n 0, 1) := by decide +kernel
theorem dJx4a65c_clear_da8c8_16 : decode cJx4a65c_clear_da8c8 16 = .ok (.getfield 48, 3) := by decide +kernel
theorem dJx4a65c_clear_da8c8_19 : decode cJx4a65c_clear_da8c8 19 = .ok (.istore_n 2, 1) := by decide +kernel
theorem dJx4a65c_clear_da8c8_20 : decode cJx4a65c_clear_da8c8 20 = .ok (.aload_n 0, 1) := by decide +kernel
theorem dJx4a65c_clear_da8c8_21 : decode cJx4a65c_clear_da8c8 21 = .ok (.iconst 0, 1) := by decide +kernel
theorem dJx4a65c_clear_da8c8_22 : decode cJx4a65c_clear_da8c8 22 = .ok (.dup_x1, 1) := by decide +kernel
theorem dJx4a65c_clear_da8c8_23 : decode cJx4a65c_clear_da8c8 23 = .ok (.putfield 48, 3) := by decide +kernel
theorem dJx4a65c_clear_da8c8_26 : decode cJx4a65c_clear_da8c8 26 = .ok (.istore_n 3, 1) := by decide +kernel
theorem dJx4a65c_clear_da8c8_27 : decode cJx4a65c_clear_da8c8 27 = .ok (.iload_n 3, 1) := by decide +kernel
theorem dJx4a65c_clear_da8c8_28 : decode cJx4a65c_clear_da8c8 28 = .ok (.iload_n 2, 1) := by decide +kernel
theorem dJx4a65c_clear_da8c8_29 : decode cJx4a65c_clear_da8c8 29 = .ok (.if_icmp .ge 13, 3) := by decide +kernel
theorem dJx4a65c_clear_da8c8_32 : decode cJx4a65c_clear_da8c8 32 = .ok (.aload_n 1, 1) := by decide +kernel
theorem dJx4a65c_clear_da8c8_33 : decode cJx4a65c_clear_da8c8 33 = .ok (.iload_n 3, 1) := by decide +kernel
theorem dJx4a65c_clear_da8c8_34 : decode cJx4a65c_clear_da8c8 34 = .ok (.aconst_null, 1) := by decide +kernel
theorem dJx4a65c_clear_da8c8_35 : decode cJx4a65c_clear_da8c8 35 = .ok (.aastore, 1) := by decide +kernel
theorem dJx4a65c_clear_da8c8_36 : decode cJx4a65c_clear_da8c8 36 = .ok (.iinc 3 1, 3) := by decide +kernel
theorem dJx4a65c_clear_da8c8_39 : decode cJx4a65c_clear_da8c8 39 = .ok (.goto (-12), 3) := by decide +kernel
theorem dJx4a65c_clear_da8c8_42 : decode cJx4a65c_clear_da8c8 42 = .ok (.return_, 1) := by decide +kernel
set_option maxHeartbeats 2000000 in
set_option maxRecDepth 20000 in
theorem k_Jx4a65c_clear_da8c8 (l : Launch) (hfl : l.stackTraces = false) (D : va_G) (aT : Nat → ClassId) (p3 : Nat) (w : Option Nat) (k0 : Int32) : CxG l yJx4a65c_clear_da8c8 cJx4a65c_clear_da8c8 4 none 0 0 0 0 D aT [.ref p3] [(p3, .inr (4, [.int k0, va_rf w, .int (nI 0)]))] (qV D aT (fun W1 => W1 = [(p3, .inr (4, [.int (k0 + nI 1), va_rf w, .int (nI 0)]))])) (fun _ => False) := by
  refine CxG.of RJx4a65c (by decide +kernel) rfl (Nat.le_of_ble_eq_true rfl) ?_
  intro p e s m below meth c A ls C hml hl hA hr hlocks hex hnm hZ hW
  have hl : lv_has ls 4 [(0, .ref p3)] := hl
  have hx := C.1
  have hb := C.2.1
  cases w with
  | none =>
    have hW : CxB D [(p3, .inr (4, [.int k0, .null, .int (nI 0)]))] A s.heap s.heap [] := hW
    refine lv_aload_n hx hb dJx4a65c_clear_da8c8_0 rfl (lv_at hl 0 rfl) ?_
    refine lv_dup hx hb dJx4a65c_clear_da8c8_1 rfl ?_
    refine cx_getS C hW 0 0 rfl rfl (by decide) inJx4a65c gw_286 gw_sf rfl dJx4a65c_clear_da8c8_2 ?_
    refine lv_iconst (v := nI 1) hx hb dJx4a65c_clear_da8c8_5 (by decide) ?_
    refine lv_iadd hx hb dJx4a65c_clear_da8c8_6 ?_
    refine cx_putS C hW 0 0 (W1 := [(p3, .inr (4, [.int (k0 + (nI 1)), .null, .int (nI 0)]))]) rfl rfl (by decide) inJx4a65c tyJx4a65c tyJx4a65c_ok nmJx4a65c gw_286 gw_sf rfl rfl rfl rfl (Nat.le_of_ble_eq_true rfl) rfl dJx4a65c_clear_da8c8_7 (fun H locs hW => ?_)
    refine lv_aload_n hx hb dJx4a65c_clear_da8c8_10 rfl (lv_at hl 0 rfl) ?_
    refine cx_get C hW 0 1 rfl rfl (by decide) inJx4a65c gw_283 rfl rfl dJx4a65c_clear_da8c8_11 ?_
    refine lv_astore_nN (lv' := [(1, .null), (0, .ref p3)]) hx hb dJx4a65c_clear_da8c8_14 rfl hl (by decide) rfl (fun ls hl => ?_)
    refine lv_aload_n hx hb dJx4a65c_clear_da8c8_15 rfl (lv_at hl 1 rfl) ?_
    refine cx_get C hW 0 2 rfl rfl (by decide) inJx4a65c gw_284 rfl rfl dJx4a65c_clear_da8c8_16 ?_
    refine lv_istore_n (lv' := [(2, .int (nI 0)), (1, .null), (0, .ref p3)]) hx hb dJx4a65c_clear_da8c8_19 rfl hl (by decide) rfl (fun ls hl => ?_)
    refine lv_aload_n hx hb dJx4a65c_clear_da8c8_20 rfl (lv_at hl 2 rfl) ?_
    refine lv_iconst (v := nI 0) hx hb dJx4a65c_clear_da8c8_21 (by decide) ?_
    refine lv_dup_x1 hx hb dJx4a65c_clear_da8c8_22 rfl rfl ?_
    refine cx_put C hW 0 2 (W1 := [(p3, .inr (4, [.int (k0 + (nI 1)), .null, .int (nI 0)]))]) rfl rfl (by decide) inJx4a65c tyJx4a65c tyJx4a65c_ok nmJx4a65c gw_284 rfl rfl rfl rfl rfl (Nat.le_of_ble_eq_true rfl) rfl dJx4a65c_clear_da8c8_23 (fun H locs hW => ?_)
    refine lv_istore_n (lv' := [(3, .int (nI 0)), (2, .int (nI 0)), (1, .null), (0, .ref p3)]) hx hb dJx4a65c_clear_da8c8_26 rfl hl (by decide) rfl (fun ls hl => ?_)
    refine lv_iload_n hx hb dJx4a65c_clear_da8c8_27 rfl (lv_at hl 0 rfl) ?_
    refine lv_iload_n hx hb dJx4a65c_clear_da8c8_28 rfl (lv_at hl 1 rfl) ?_
    refine lv_icmp_ge hx hb (x := (nI 0)) (y := (nI 0)) (tgt := 42) dJx4a65c_clear_da8c8_29 (by decide) (fun c_29 => ?_) (fun c_29 => ?_)
    · exact cx_vret C hr hlocks hW ⟨Nat.le_of_ble_eq_true rfl, Nat.le_of_ble_eq_true rfl⟩ (rfl) dJx4a65c_clear_da8c8_42
    · exact absurd (by decide) c_29
  | some t9 =>
    have hW : CxB D [(p3, .inr (4, [.int k0, .ref t9, .int (nI 0)]))] A s.heap s.heap [] := hW
    refine lv_aload_n hx hb dJx4a65c_clear_da8c8_0 rfl (lv_at hl 0 rfl) ?_
    refine lv_dup hx hb dJx4a65c_clear_da8c8_1 rfl ?_
    refine cx_getS C hW 0 0 rfl rfl (by decide) inJx4a65c gw_286 gw_sf rfl dJx4a65c_clear_da8c8_2 ?_
    refine lv_iconst (v := nI 1) hx hb dJx4a65c_clear_da8c8_5 (by decide) ?_
    refine lv_iadd hx hb dJx4a65c_clear_da8c8_6 ?_
    refine cx_putS C hW 0 0 (W1 := [(p3, .inr (4, [.int (k0 + (nI 1)), .ref t9, .int (nI 0)]))]) rfl rfl (by decide) inJx4a65c tyJx4a65c tyJx4a65c_ok nmJx4a65c gw_286 gw_sf rfl rfl rfl rfl (Nat.le_of_ble_eq_true rfl) rfl dJx4a65c_clear_da8c8_7 (fun H locs hW => ?_)
    refine lv_aload_n hx hb dJx4a65c_clear_da8c8_10 rfl (lv_at hl 0 rfl) ?_
    refine cx_get C hW 0 1 rfl rfl (by decide) inJx4a65c gw_283 rfl rfl dJx4a65c_clear_da8c8_11 ?_
    refine lv_astore_n (lv' := [(1, .ref t9), (0, .ref p3)]) hx hb dJx4a65c_clear_da8c8_14 rfl hl (by decide) rfl (fun ls hl => ?_)
    refine lv_aload_n hx hb dJx4a65c_clear_da8c8_15 rfl (lv_at hl 1 rfl) ?_
    refine cx_get C hW 0 2 rfl rfl (by decide) inJx4a65c gw_284 rfl rfl dJx4a65c_clear_da8c8_16 ?_
    refine lv_istore_n (lv' := [(2, .int (nI 0)), (1, .ref t9), (0, .ref p3)]) hx hb dJx4a65c_clear_da8c8_19 rfl hl (by decide) rfl (fun ls hl => ?_)
    refine lv_aload_n hx hb dJx4a65c_clear_da8c8_20 rfl (lv_at hl 2 rfl) ?_
    refine lv_iconst (v := nI 0) hx hb dJx4a65c_clear_da8c8_21 (by decide) ?_
    refine lv_dup_x1 hx hb dJx4a65c_clear_da8c8_22 rfl rfl ?_
    refine cx_put C hW 0 2 (W1 := [(p3, .inr (4, [.int (k0 + (nI 1)), .ref t9, .int (nI 0)]))]) rfl rfl (by decide) inJx4a65c tyJx4a65c tyJx4a65c_ok nmJx4a65c gw_284 rfl rfl rfl rfl rfl (Nat.le_of_ble_eq_true rfl) rfl dJx4a65c_clear_da8c8_23 (fun H locs hW => ?_)
    refine lv_istore_n (lv' := [(3, .int (nI 0)), (2, .int (nI 0)), (1, .ref t9), (0, .ref p3)]) hx hb dJx4a65c_clear_da8c8_26 rfl hl (by decide) rfl (fun ls hl => ?_)
    refine lv_iload_n hx hb dJx4a65c_clear_da8c8_27 rfl (lv_at hl 0 rfl) ?_
    refine lv_iload_n hx hb dJx4a65c_clear_da8c8_28 rfl (lv_at hl 1 rfl) ?_
    refine lv_icmp_ge hx hb (x := (nI 0)) (y := (nI 0)) (tgt := 42) dJx4a65c_clear_da8c8_29 (by decide) (fun c_29 => ?_) (fun c_29 => ?_)
    · exact cx_vret C hr hlocks hW ⟨Nat.le_of_ble_eq_true rfl, Nat.le_of_ble_eq_true rfl⟩ (rfl) dJx4a65c_clear_da8c8_42
    · exact absurd (by decide) c_29
theorem dX6_init_0 : decode cX6_init 0 = .ok (.aload_n 0, 1) := by decide +kernel
theorem dX6_init_1 : decode cX6_init 1 = .ok (.invokespecial 3, 3) := by decide +kernel
theorem dX6_init_4 : decode cX6_init 4 = .ok (.aload_n 0, 1) := by decide +kernel
theorem dX6_init_5 : decode cX6_init 5 = .ok (.bipush 60, 2) := by decide +kernel
theorem dX6_init_7 : decode cX6_init 7 = .ok (.newarray .char, 2) := by decide +kernel
theorem dX6_init_9 : decode cX6_init 9 = .ok (.putfield 9, 3) := by decide +kernel
theorem dX6_init_12 : decode cX6_init 12 = .ok (.aload_n 0, 1) := by decide +kernel
theorem dX6_init_13 : decode cX6_init 13 = .ok (.iconst 3, 1) := by decide +kernel
theorem dX6_init_14 : decode cX6_init 14 = .ok (.newarray .int, 2) := by decide +kernel
theorem dX6_init_16 : decode cX6_init 16 = .ok (.putfield 15, 3) := by decide +kernel
theorem dX6_init_19 : decode cX6_init 19 = .ok (.aload_n 0, 1) := by decide +kernel
theorem dX6_init_20 : decode cX6_init 20 = .ok (.new 19, 3) := by decide +kernel
theorem dX6_init_23 : decode cX6_init 23 = .ok (.dup, 1) := by decide +kernel
theorem dX6_init_24 : decode cX6_init 24 = .ok (.invokespecial 21, 3) := by decide +kernel
theorem dX6_init_27 : decode cX6_init 27 = .ok (.putfield 22, 3) := by decide +kernel
theorem dX6_init_30 : decode cX6_init 30 = .ok (.aload_n 0, 1) := by decide +kernel
theorem dX6_init_31 : decode cX6_init 31 = .ok (.iconst 0, 1) := by decide +kernel
theorem dX6_init_32 : decode cX6_init 32 = .ok (.putfield 26, 3) := by decide +kernel
theorem dX6_init_35 : decode cX6_init 35 = .ok (.aload_n 0, 1) := by decide +kernel
theorem dX6_init_36 : decode cX6_init 36 = .ok (.iconst 0, 1) := by decide +kernel
theorem dX6_init_37 : decode cX6_init 37 = .ok (.putfield 30, 3) := by decide +kernel
theorem dX6_init_40 : decode cX6_init 40 = .ok (.return_, 1) := by decide +kernel
theorem gI_Jx4a65c_init_da8c8 : GoodIn gw (Cond.code yJx4a65c_init_da8c8 cJx4a65c_init_da8c8 1 none :: gw) := gdI gw_273
theorem hI_Jx4a65c_init_da8c8 : yJx4a65c_init_da8c8.cls ≠ "java/lang/invoke/MethodHandle" ∧ yJx4a65c_init_da8c8.cls ≠ "java/lang/invoke/VarHandle" ∧ (parseMethodDescriptor yJx4a65c_init_da8c8.desc).map (fun d => d.parameters.length) = some 0 := ⟨by decide +kernel, by decide +kernel, by decide +kernel⟩
set_option maxHeartbeats 2000000 in
set_option maxRecDepth 20000 in
theorem k_X6_init (l : Launch) (hfl : l.stackTraces = false) (D : va_G) (aT : Nat → ClassId) (p0 : Nat) : CxG l yX6_init cX6_init 1 none 4 3 66 80 D aT [.ref p0] [(p0, .inr (9, [.null, .null, .null, .int (nI 0), .int (nI 0)]))] (qV D aT (fun W1 => ∃ q_7 q_14 q_20 : Nat, ∃ w : Option Nat, W1 = [(p0, .inr (9, [.ref q_7, .ref q_14, .ref q_20, .int (nI 0), .int (nI 0)])), (q_7, .inl (aT 1, 60, .inl (fun _ => nI 0))), (q_14, .inl (aT 0, 3, .inl (fun _ => nI 0))), (q_20, .inr (4, [.int (nI 0), va_rf w, .int (nI 0)]))])) (fun _ => False) := by
  refine CxG.of RX6 (by decide +kernel) rfl (Nat.le_of_ble_eq_true rfl) ?_
  intro p e s m below meth c A ls C hml hl hA hr hlocks hex hnm hZ hW
  have hl : lv_has ls 1 [(0, .ref p0)] := hl
  have hx := C.1
  have hb := C.2.1
  refine lv_aload_n hx hb dX6_init_0 rfl (lv_at hl 0 rfl) ?_
  refine cx_init C hml hl.1 gw_268 gw_110 gw_111 dX6_init_1 (Nat.le_of_ble_eq_true rfl) (Nat.le_of_ble_eq_true rfl) ?_
  refine lv_aload_n hx hb dX6_init_4 rfl (lv_at hl 0 rfl) ?_
  refine lv_bipush (v := nI 60) hx hb dX6_init_5 (by decide) ?_
  refine cx_newa C hA hW 1 (atype := .char) (a0 := (60, .inl (fun _ => nI 0))) gw_295 rfl rfl (fun _ _ h9 => h9) (fun _ => rfl) (by decide) (Nat.le_of_ble_eq_true rfl) (Nat.le_of_ble_eq_true rfl) (Nat.le_of_ble_eq_true rfl) dX6_init_7 (fun q_7 H hW => ?_)
  have hW : CxB D [(p0, .inr (9, [.null, .null, .null, .int (nI 0), .int (nI 0)])), (q_7, .inl (aT 1, 60, .inl (fun _ => nI 0)))] A s.heap H _ := hW
  refine cx_putF C hnm hW 0 0 (W1 := [(p0, .inr (9, [.ref q_7, .null, .null, .int (nI 0), .int (nI 0)])), (q_7, .inl (aT 1, 60, .inl (fun _ => nI 0)))]) rfl rfl (by decide) inX6 tyX6 tyX6_ok nmX6 gw_296 rfl rfl rfl rfl rfl rfl (Nat.le_of_ble_eq_true rfl) rfl dX6_init_9 (fun H locs hW => ?_)
  refine lv_aload_n hx hb dX6_init_12 rfl (lv_at hl 0 rfl) ?_
  refine lv_iconst (v := nI 3) hx hb dX6_init_13 (by decide) ?_
  refine cx_newa C hA hW 0 (atype := .int) (a0 := (3, .inl (fun _ => nI 0))) gw_141 rfl rfl (fun _ _ h9 => h9) (fun _ => rfl) (by decide) (Nat.le_of_ble_eq_true rfl) (Nat.le_of_ble_eq_true rfl) (Nat.le_of_ble_eq_true rfl) dX6_init_14 (fun q_14 H hW => ?_)
  have hW : CxB D [(p0, .inr (9, [.ref q_7, .null, .null, .int (nI 0), .int (nI 0)])), (q_7, .inl (aT 1, 60, .inl (fun _ => nI 0))), (q_14, .inl (aT 0, 3, .inl (fun _ => nI 0)))] A s.heap H _ := hW
  refine cx_putF C hnm hW 0 1 (W1 := [(p0, .inr (9, [.ref q_7, .ref q_14, .null, .int (nI 0), .int (nI 0)])), (q_7, .inl (aT 1, 60, .inl (fun _ => nI 0))), (q_14, .inl (aT 0, 3, .inl (fun _ => nI 0)))]) rfl rfl (by decide) inX6 tyX6 tyX6_ok nmX6 gw_297 rfl rfl rfl rfl rfl rfl (Nat.le_of_ble_eq_true rfl) rfl dX6_init_16 (fun H locs hW => ?_)
  refine lv_aload_n hx hb dX6_init_19 rfl (lv_at hl 0 rfl) ?_
  refine cx_new C hA hW (ci := 4) (fs := [.int (nI 0), .null, .int (nI 0)]) rfl inJx4a65c tyJx4a65c tyJx4a65c_ok gw_269 gw_270 gw_76 (fun j hj => by rcases (show j = 0 ∨ j = 1 ∨ j = 2 by omega) with rfl | rfl | rfl <;> rfl) (Nat.le_of_ble_eq_true rfl) (Nat.le_of_ble_eq_true rfl) dX6_init_20 (fun q_20 H hW => ?_)
  have hW : CxB D [(p0, .inr (9, [.ref q_7, .ref q_14, .null, .int (nI 0), .int (nI 0)])), (q_7, .inl (aT 1, 60, .inl (fun _ => nI 0))), (q_14, .inl (aT 0, 3, .inl (fun _ => nI 0))), (q_20, .inr (4, [.int (nI 0), .null, .int (nI 0)]))] A s.heap H _ := hW
  refine lv_dup hx hb dX6_init_23 rfl ?_
  refine cx_callv (Wr := [(p0, .inr (9, [.ref q_7, .ref q_14, .null, .int (nI 0), .int (nI 0)])), (q_7, .inl (aT 1, 60, .inl (fun _ => nI 0))), (q_14, .inl (aT 0, 3, .inl (fun _ => nI 0)))]) (cx_runI C hml hl.1 hZ hW hA (As := []) (rest := [.ref q_20, .ref p0]) (k_Jx4a65c_init_da8c8 l hfl D aT q_20) gI_Jx4a65c_init_da8c8 gw_76 gw_271 gw_272 rfl hI_Jx4a65c_init_da8c8 rfl ⟨Nat.le_of_ble_eq_true rfl, Nat.le_of_ble_eq_true rfl⟩ ⟨Nat.le_of_ble_eq_true rfl, Nat.le_of_ble_eq_true rfl⟩ [3] rfl (by decide) rfl (Nat.le_of_ble_eq_true rfl) dX6_init_24) hW hA [3] [0, 1, 2] rfl rfl (by decide) (by decide) (fun _ _ _ _ _ h9 => h9.elim) (fun W_24 H locs hq hW => ?_)
  obtain ⟨w_24, rfl⟩ := hq
  have hW : CxB D [(p0, .inr (9, [.ref q_7, .ref q_14, .null, .int (nI 0), .int (nI 0)])), (q_7, .inl (aT 1, 60, .inl (fun _ => nI 0))), (q_14, .inl (aT 0, 3, .inl (fun _ => nI 0))), (q_20, .inr (4, [.int (nI 0), va_rf w_24, .int (nI 0)]))] A s.heap H _ := hW
  refine cx_putF C hnm hW 0 2 (W1 := [(p0, .inr (9, [.ref q_7, .ref q_14, .ref q_20, .int (nI 0), .int (nI 0)])), (q_7, .inl (aT 1, 60, .inl (fun _ => nI 0))), (q_14, .inl (aT 0, 3, .inl (fun _ => nI 0))), (q_20, .inr (4, [.int (nI 0), va_rf w_24, .int (nI 0)]))]) rfl rfl (by decide) inX6 tyX6 tyX6_ok nmX6 gw_298 rfl rfl rfl rfl rfl rfl (Nat.le_of_ble_eq_true rfl) rfl dX6_init_27 (fun H locs hW => ?_)
  refine lv_aload_n hx hb dX6_init_30 rfl (lv_at hl 0 rfl) ?_
  refine lv_iconst (v := nI 0) hx hb dX6_init_31 (by decide) ?_
  refine cx_put C hW 0 3 (W1 := [(p0, .inr (9, [.ref q_7, .ref q_14, .ref q_20, .int (nI 0), .int (nI 0)])), (q_7, .inl (aT 1, 60, .inl (fun _ => nI 0))), (q_14, .inl (aT 0, 3, .inl (fun _ => nI 0))), (q_20, .inr (4, [.int (nI 0), va_rf w_24, .int (nI 0)]))]) rfl rfl (by decide) inX6 tyX6 tyX6_ok nmX6 gw_300 rfl rfl rfl rfl rfl (Nat.le_of_ble_eq_true rfl) rfl dX6_init_32 (fun H locs hW => ?_)
  refine lv_aload_n hx hb dX6_init_35 rfl (lv_at hl 0 rfl) ?_
  refine lv_iconst (v := nI 0) hx hb dX6_init_36 (by decide) ?_
  refine cx_put C hW 0 4 (W1 := [(p0, .inr (9, [.ref q_7, .ref q_14, .ref q_20, .int (nI 0), .int (nI 0)])), (q_7, .inl (aT 1, 60, .inl (fun _ => nI 0))), (q_14, .inl (aT 0, 3, .inl (fun _ => nI 0))), (q_20, .inr (4, [.int (nI 0), va_rf w_24, .int (nI 0)]))]) rfl rfl (by decide) inX6 tyX6 tyX6_ok nmX6 gw_301 rfl rfl rfl rfl rfl (Nat.le_of_ble_eq_true rfl) rfl dX6_init_37 (fun H locs hW => ?_)
  exact cx_vret C hr hlocks hW ⟨Nat.le_of_ble_eq_true rfl, Nat.le_of_ble_eq_true rfl⟩ (⟨_, _, _, _, rfl⟩) dX6_init_40
theorem dX6_isFull_0 : decode cX6_isFull 0 = .ok (.aload_n 0, 1) := by decide +kernel
theorem dX6_isFull_1 : decode cX6_isFull 1 = .ok (.getfield 26, 3) := by decide +kernel
theorem dX6_isFull_4 : decode cX6_isFull 4 = .ok (.bipush 60, 2) := by decide +kernel
theorem dX6_isFull_6 : decode cX6_isFull 6 = .ok (.if_icmp .lt 7, 3) := by decide +kernel
theorem dX6_isFull_9 : decode cX6_isFull 9 = .ok (.iconst 1, 1) := by decide +kernel
theorem dX6_isFull_10 : decode cX6_isFull 10 = .ok (.goto 4, 3) := by decide +kernel
theorem dX6_isFull_13 : decode cX6_isFull 13 = .ok (.iconst 0, 1) := by decide +kernel
theorem dX6_isFull_14 : decode cX6_isFull 14 = .ok (.ireturn, 1) := by decide +kernel
set_option maxHeartbeats 2000000 in
set_option maxRecDepth 20000 in
theorem k_X6_isFull (l : Launch) (hfl : l.stackTraces = false) (D : va_G) (aT : Nat → ClassId) (p0 : Nat) (p1 : Nat) (p2 : Nat) (p3 : Nat) (w : Option Nat) (k0 : Int32) : CxG l yX6_isFull cX6_isFull 1 (some (.boolean)) 0 0 0 0 D aT [.ref p0] [(p0, .inr (9, [.ref p1, .ref p2, .ref p3, .int (nI 0), .int (nI 0)])), (p1, .inl (aT 1, 60, .inl (fun _ => nI 0))), (p2, .inl (aT 0, 3, .inl (fun _ => nI 0))), (p3, .inr (4, [.int k0, va_rf w, .int (nI 0)]))] (qI D aT (fun r W1 => r = (nI 0) ∧ W1 = [(p0, .inr (9, [.ref p1, .ref p2, .ref p3, .int (nI 0), .int (nI 0)])), (p1, .inl (aT 1, 60, .inl (fun _ => nI 0))), (p2, .inl (aT 0, 3, .inl (fun _ => nI 0))), (p3, .inr (4, [.int k0, va_rf w, .int (nI 0)]))])) (fun _ => False) := by
  refine CxG.of RX6 (by decide +kernel) rfl (Nat.le_of_ble_eq_true rfl) ?_
  intro p e s m below meth c A ls C hml hl hA hr hlocks hex hnm hZ hW
  have hl : lv_has ls 1 [(0, .ref p0)] := hl
  have hx := C.1
  have hb := C.2.1
  refine lv_aload_n hx hb dX6_isFull_0 rfl (lv_at hl 0 rfl) ?_
  refine cx_get C hW 0 3 rfl rfl (by decide) inX6 gw_300 rfl rfl dX6_isFull_1 ?_
  refine lv_bipush (v := nI 60) hx hb dX6_isFull_4 (by decide) ?_
  refine lv_icmp_lt hx hb (x := (nI 0)) (y := (nI 60)) (tgt := 13) dX6_isFull_6 (by decide) (fun c_6 => ?_) (fun c_6 => ?_)
  · refine lv_iconst (v := nI 0) hx hb dX6_isFull_13 (by decide) ?_
    exact cx_iret C hr hlocks (by decide) hW ⟨Nat.le_of_ble_eq_true rfl, Nat.le_of_ble_eq_true rfl⟩ (⟨rfl, rfl⟩) dX6_isFull_14
  · exact absurd (by decide) c_6
theorem dX6_put_0 : decode cX6_put 0 = .ok (.aload_n 0, 1) := by decide +kernel
theorem dX6_put_1 : decode cX6_put 1 = .ok (.getfield 9, 3) := by decide +kernel
theorem dX6_put_4 : decode cX6_put 4 = .ok (.aload_n 0, 1) := by decide +kernel
theorem dX6_put_5 : decode cX6_put 5 = .ok (.getfield 26, 3) := by decide +kernel
theorem dX6_put_8 : decode cX6_put 8 = .ok (.iload_n 1, 1) := by decide +kernel
theorem dX6_put_9 : decode cX6_put 9 = .ok (.castore, 1) := by decide +kernel
theorem dX6_put_10 : decode cX6_put 10 = .ok (.aload_n 0, 1) := by decide +kernel
theorem dX6_put_11 : decode cX6_put 11 = .ok (.dup, 1) := by decide +kernel
theorem dX6_put_12 : decode cX6_put 12 = .ok (.getfield 26, 3) := by decide +kernel
theorem dX6_put_15 : decode cX6_put 15 = .ok (.iconst 1, 1) := by decide +kernel
theorem dX6_put_16 : decode cX6_put 16 = .ok (.iadd, 1) := by decide +kernel
theorem dX6_put_17 : decode cX6_put 17 = .ok (.putfield 26, 3) := by decide +kernel
theorem dX6_put_20 : decode cX6_put 20 = .ok (.aload_n 0, 1) := by decide +kernel
theorem dX6_put_21 : decode cX6_put 21 = .ok (.getfield 26, 3) := by decide +kernel
theorem dX6_put_24 : decode cX6_put 24 = .ok (.ireturn, 1) := by decide +kernel
set_option maxHeartbeats 2000000 in
set_option maxRecDepth 20000 in
theorem k_X6_put (l : Launch) (hfl : l.stackTraces = false) (D : va_G) (aT : Nat → ClassId) (p0 : Nat) (p1 : Nat) (p2 : Nat) (p3 : Nat) (w : Option Nat) (k0 : Int32) (x : Int32) : CxG l yX6_put cX6_put 2 (some (.int)) 0 0 0 0 D aT [.ref p0, .int x] [(p0, .inr (9, [.ref p1, .ref p2, .ref p3, .int (nI 0), .int (nI 0)])), (p1, .inl (aT 1, 60, .inl (fun _ => nI 0))), (p2, .inl (aT 0, 3, .inl (fun _ => nI 0))), (p3, .inr (4, [.int k0, va_rf w, .int (nI 0)]))] (qI D aT (fun r W1 => r = (nI 1) ∧ W1 = [(p0, .inr (9, [.ref p1, .ref p2, .ref p3, .int (nI 1), .int (nI 0)])), (p1, .inl (aT 1, 60, .inl (upd (fun _ => nI 0) 0 (vp_nar .char (x))))), (p2, .inl (aT 0, 3, .inl (fun _ => nI 0))), (p3, .inr (4, [.int k0, va_rf w, .int (nI 0)]))])) (fun _ => False) := by
  refine CxG.of RX6 (by decide +kernel) rfl (Nat.le_of_ble_eq_true rfl) ?_
  intro p e s m below meth c A ls C hml hl hA hr hlocks hex hnm hZ hW
  have hl : lv_has ls 2 [(0, .ref p0), (1, .int x)] := hl
  have hx := C.1
  have hb := C.2.1
  refine lv_aload_n hx hb dX6_put_0 rfl (lv_at hl 0 rfl) ?_
  refine cx_get C hW 0 0 rfl rfl (by decide) inX6 gw_296 rfl rfl dX6_put_1 ?_
  refine lv_aload_n hx hb dX6_put_4 rfl (lv_at hl 0 rfl) ?_
  refine cx_get C hW 0 3 rfl rfl (by decide) inX6 gw_300 rfl rfl dX6_put_5 ?_
  refine lv_iload_n hx hb dX6_put_8 rfl (lv_at hl 1 rfl) ?_
  refine cx_cast C hW 1 1 (j := 0) (W1 := [(p0, .inr (9, [.ref p1, .ref p2, .ref p3, .int (nI 0), .int (nI 0)])), (p1, .inl (aT 1, 60, .inl (upd (fun _ => nI 0) 0 (vp_nar .char (x))))), (p2, .inl (aT 0, 3, .inl (fun _ => nI 0))), (p3, .inr (4, [.int k0, va_rf w, .int (nI 0)]))]) rfl rfl rfl (by omega) (by decide) rfl dX6_put_9 (fun H locs hW => ?_)
  refine lv_aload_n hx hb dX6_put_10 rfl (lv_at hl 0 rfl) ?_
  refine lv_dup hx hb dX6_put_11 rfl ?_
  refine cx_get C hW 0 3 rfl rfl (by decide) inX6 gw_300 rfl rfl dX6_put_12 ?_
  refine lv_iconst (v := nI 1) hx hb dX6_put_15 (by decide) ?_
  refine r_iaddN hx hb (a := 0) (b := 1) dX6_put_16 ?_
  refine cx_put C hW 0 3 (W1 := [(p0, .inr (9, [.ref p1, .ref p2, .ref p3, .int (nI 1), .int (nI 0)])), (p1, .inl (aT 1, 60, .inl (upd (fun _ => nI 0) 0 (vp_nar .char (x))))), (p2, .inl (aT 0, 3, .inl (fun _ => nI 0))), (p3, .inr (4, [.int k0, va_rf w, .int (nI 0)]))]) rfl rfl (by decide) inX6 tyX6 tyX6_ok nmX6 gw_300 rfl rfl rfl rfl rfl (Nat.le_of_ble_eq_true rfl) rfl dX6_put_17 (fun H locs hW => ?_)
  refine lv_aload_n hx hb dX6_put_20 rfl (lv_at hl 0 rfl) ?_
  refine cx_get C hW 0 3 rfl rfl (by decide) inX6 gw_300 rfl rfl dX6_put_21 ?_
  exact cx_iret C hr hlocks rfl hW ⟨Nat.le_of_ble_eq_true rfl, Nat.le_of_ble_eq_true rfl⟩ (⟨rfl, rfl⟩) dX6_put_24
theorem dX6_empty_0 : decode cX6_empty 0 = .ok (.aload_n 0, 1) := by decide +kernel
theorem dX6_empty_1 : decode cX6_empty 1 = .ok (.iconst 0, 1) := by decide +kernel
theorem dX6_empty_2 : decode cX6_empty 2 = .ok (.putfield 26, 3) := by decide +kernel
theorem dX6_empty_5 : decode cX6_empty 5 = .ok (.return_, 1) := by decide +kernel
set_option maxHeartbeats 2000000 in
set_option maxRecDepth 20000 in
theorem k_X6_empty (l : Launch) (hfl : l.stackTraces = false) (D : va_G) (aT : Nat → ClassId) (p0 : Nat) (p1 : Nat) (p2 : Nat) (p3 : Nat) (w : Option Nat) (k0 : Int32) : CxG l yX6_empty cX6_empty 1 none 0 0 0 0 D aT [.ref p0] [(p0, .inr (9, [.ref p1, .ref p2, .ref p3, .int (nI 0), .int (nI 0)])), (p1, .inl (aT 1, 60, .inl (fun _ => nI 0))), (p2, .inl (aT 0, 3, .inl (fun _ => nI 0))), (p3, .inr (4, [.int k0, va_rf w, .int (nI 0)]))] (qV D aT (fun W1 => W1 = [(p0, .inr (9, [.ref p1, .ref p2, .ref p3, .int (nI 0), .int (nI 0)])), (p1, .inl (aT 1, 60, .inl (fun _ => nI 0))), (p2, .inl (aT 0, 3, .inl (fun _ => nI 0))), (p3, .inr (4, [.int k0, va_rf w, .int (nI 0)]))])) (fun _ => False) := by
  refine CxG.of RX6 (by decide +kernel) rfl (Nat.le_of_ble_eq_true rfl) ?_
  intro p e s m below meth c A ls C hml hl hA hr hlocks hex hnm hZ hW
  have hl : lv_has ls 1 [(0, .ref p0)] := hl
  have hx := C.1
  have hb := C.2.1
  refine lv_aload_n hx hb dX6_empty_0 rfl (lv_at hl 0 rfl) ?_
  refine lv_iconst (v := nI 0) hx hb dX6_empty_1 (by decide) ?_
  refine cx_put C hW 0 3 (W1 := [(p0, .inr (9, [.ref p1, .ref p2, .ref p3, .int (nI 0), .int (nI 0)])), (p1, .inl (aT 1, 60, .inl (fun _ => nI 0))), (p2, .inl (aT 0, 3, .inl (fun _ => nI 0))), (p3, .inr (4, [.int k0, va_rf w, .int (nI 0)]))]) rfl rfl (by decide) inX6 tyX6 tyX6_ok nmX6 gw_300 rfl rfl rfl rfl rfl (Nat.le_of_ble_eq_true rfl) rfl dX6_empty_2 (fun H locs hW => ?_)
  exact cx_vret C hr hlocks hW ⟨Nat.le_of_ble_eq_true rfl, Nat.le_of_ble_eq_true rfl⟩ (rfl) dX6_empty_5
theorem dX6_kindAhead_0 : decode cX6_kindAhead 0 = .ok (.aload_n 0, 1) := by decide +kernel
theorem dX6_kindAhead_1 : decode cX6_kindAhead 1 = .ok (.getfield 30, 3) := by decide +kernel
theorem dX6_kindAhead_4 : decode cX6_kindAhead 4 = .ok (.aload_n 0, 1) := by decide +kernel
theorem dX6_kindAhead_5 : decode cX6_kindAhead 5 = .ok (.getfield 26, 3) := by decide +kernel
theorem dX6_kindAhead_8 : decode cX6_kindAhead 8 = .ok (.if_icmp .ge 52, 3) := by decide +kernel
theorem dX6_kindAhead_11 : decode cX6_kindAhead 11 = .ok (.getstatic 85, 3) := by decide +kernel
theorem dX6_kindAhead_14 : decode cX6_kindAhead 14 = .ok (.astore_n 1, 1) := by decide +kernel
theorem dX6_kindAhead_15 : decode cX6_kindAhead 15 = .ok (.aload_n 1, 1) := by decide +kernel
theorem dX6_kindAhead_16 : decode cX6_kindAhead 16 = .ok (.arraylength, 1) := by decide +kernel
theorem dX6_kindAhead_17 : decode cX6_kindAhead 17 = .ok (.istore_n 2, 1) := by decide +kernel
theorem dX6_kindAhead_18 : decode cX6_kindAhead 18 = .ok (.iconst 0, 1) := by decide +kernel
theorem dX6_kindAhead_19 : decode cX6_kindAhead 19 = .ok (.istore_n 3, 1) := by decide +kernel
theorem dX6_kindAhead_20 : decode cX6_kindAhead 20 = .ok (.iload_n 3, 1) := by decide +kernel
theorem dX6_kindAhead_21 : decode cX6_kindAhead 21 = .ok (.iload_n 2, 1) := by decide +kernel
theorem dX6_kindAhead_22 : decode cX6_kindAhead 22 = .ok (.if_icmp .ge 38, 3) := by decide +kernel
theorem dX6_kindAhead_25 : decode cX6_kindAhead 25 = .ok (.aload_n 1, 1) := by decide +kernel
theorem dX6_kindAhead_26 : decode cX6_kindAhead 26 = .ok (.iload_n 3, 1) := by decide +kernel
theorem dX6_kindAhead_27 : decode cX6_kindAhead 27 = .ok (.aaload, 1) := by decide +kernel
theorem dX6_kindAhead_28 : decode cX6_kindAhead 28 = .ok (.astore 4, 2) := by decide +kernel
theorem dX6_kindAhead_30 : decode cX6_kindAhead 30 = .ok (.aload 4, 2) := by decide +kernel
theorem dX6_kindAhead_32 : decode cX6_kindAhead 32 = .ok (.getfield 54, 3) := by decide +kernel
theorem dX6_kindAhead_35 : decode cX6_kindAhead 35 = .ok (.iconst 0, 1) := by decide +kernel
theorem dX6_kindAhead_36 : decode cX6_kindAhead 36 = .ok (.invokevirtual 65, 3) := by decide +kernel
theorem dX6_kindAhead_39 : decode cX6_kindAhead 39 = .ok (.aload_n 0, 1) := by decide +kernel
theorem dX6_kindAhead_40 : decode cX6_kindAhead 40 = .ok (.getfield 9, 3) := by decide +kernel
theorem dX6_kindAhead_43 : decode cX6_kindAhead 43 = .ok (.aload_n 0, 1) := by decide +kernel
theorem dX6_kindAhead_44 : decode cX6_kindAhead 44 = .ok (.getfield 30, 3) := by decide +kernel
theorem dX6_kindAhead_47 : decode cX6_kindAhead 47 = .ok (.caload, 1) := by decide +kernel
theorem dX6_kindAhead_48 : decode cX6_kindAhead 48 = .ok (.if_icmp .ne 6, 3) := by decide +kernel
theorem dX6_kindAhead_51 : decode cX6_kindAhead 51 = .ok (.aload 4, 2) := by decide +kernel
theorem dX6_kindAhead_53 : decode cX6_kindAhead 53 = .ok (.areturn, 1) := by decide +kernel
theorem dX6_kindAhead_54 : decode cX6_kindAhead 54 = .ok (.iinc 3 1, 3) := by decide +kernel
theorem dX6_kindAhead_57 : decode cX6_kindAhead 57 = .ok (.goto (-37), 3) := by decide +kernel
theorem dX6_kindAhead_60 : decode cX6_kindAhead 60 = .ok (.aconst_null, 1) := by decide +kernel
theorem dX6_kindAhead_61 : decode cX6_kindAhead 61 = .ok (.areturn, 1) := by decide +kernel
set_option maxHeartbeats 2000000 in
set_option maxRecDepth 20000 in
theorem k_X6_kindAhead (l : Launch) (hfl : l.stackTraces = false) (D : va_G) (aT : Nat → ClassId) (p0 : Nat) (p1 : Nat) (p2 : Nat) (p3 : Nat) (w : Option Nat) (k0 : Int32) : CxG l yX6_kindAhead cX6_kindAhead 5 (some ((.object "HedgeCommittee$Kind"))) 0 0 0 0 D aT [.ref p0] [(p0, .inr (9, [.ref p1, .ref p2, .ref p3, .int (nI 0), .int (nI 0)])), (p1, .inl (aT 1, 60, .inl (fun _ => nI 0))), (p2, .inl (aT 0, 3, .inl (fun _ => nI 0))), (p3, .inr (4, [.int k0, va_rf w, .int (nI 0)]))] (qR D aT (fun r W1 => r = none ∧ W1 = [(p0, .inr (9, [.ref p1, .ref p2, .ref p3, .int (nI 0), .int (nI 0)])), (p1, .inl (aT 1, 60, .inl (fun _ => nI 0))), (p2, .inl (aT 0, 3, .inl (fun _ => nI 0))), (p3, .inr (4, [.int k0, va_rf w, .int (nI 0)]))])) (fun _ => False) := by
  refine CxG.of RX6 (by decide +kernel) rfl (Nat.le_of_ble_eq_true rfl) ?_
  intro p e s m below meth c A ls C hml hl hA hr hlocks hex hnm hZ hW
  have hl : lv_has ls 5 [(0, .ref p0)] := hl
  have hx := C.1
  have hb := C.2.1
  refine lv_aload_n hx hb dX6_kindAhead_0 rfl (lv_at hl 0 rfl) ?_
  refine cx_get C hW 0 4 rfl rfl (by decide) inX6 gw_301 rfl rfl dX6_kindAhead_1 ?_
  refine lv_aload_n hx hb dX6_kindAhead_4 rfl (lv_at hl 0 rfl) ?_
  refine cx_get C hW 0 3 rfl rfl (by decide) inX6 gw_300 rfl rfl dX6_kindAhead_5 ?_
  refine lv_icmp_ge hx hb (x := (nI 0)) (y := (nI 0)) (tgt := 60) dX6_kindAhead_8 (by decide) (fun c_8 => ?_) (fun c_8 => ?_)
  · refine lv_null hx hb dX6_kindAhead_60 ?_
    exact cx_aret C hr (Or.inl ⟨_, rfl⟩) hlocks none hW ⟨Nat.le_of_ble_eq_true rfl, Nat.le_of_ble_eq_true rfl⟩ (⟨rfl, rfl⟩) dX6_kindAhead_61
  · exact absurd (by decide) c_8
theorem dX6_readCommand_0 : decode cX6_readCommand 0 = .ok (.aload_n 0, 1) := by decide +kernel
theorem dX6_readCommand_1 : decode cX6_readCommand 1 = .ok (.invokevirtual 44, 3) := by decide +kernel
theorem dX6_readCommand_4 : decode cX6_readCommand 4 = .ok (.astore_n 1, 1) := by decide +kernel
theorem dX6_readCommand_5 : decode cX6_readCommand 5 = .ok (.aload_n 1, 1) := by decide +kernel
theorem dX6_readCommand_6 : decode cX6_readCommand 6 = .ok (.ifnonnull 5, 3) := by decide +kernel
theorem dX6_readCommand_9 : decode cX6_readCommand 9 = .ok (.iconst 0, 1) := by decide +kernel
theorem dX6_readCommand_10 : decode cX6_readCommand 10 = .ok (.ireturn, 1) := by decide +kernel
theorem dX6_readCommand_11 : decode cX6_readCommand 11 = .ok (.aload_n 0, 1) := by decide +kernel
theorem dX6_readCommand_12 : decode cX6_readCommand 12 = .ok (.getfield 15, 3) := by decide +kernel
theorem dX6_readCommand_15 : decode cX6_readCommand 15 = .ok (.iconst 0, 1) := by decide +kernel
theorem dX6_readCommand_16 : decode cX6_readCommand 16 = .ok (.invokestatic 48, 3) := by decide +kernel
theorem dX6_readCommand_19 : decode cX6_readCommand 19 = .ok (.iconst 0, 1) := by decide +kernel
theorem dX6_readCommand_20 : decode cX6_readCommand 20 = .ok (.istore_n 2, 1) := by decide +kernel
theorem dX6_readCommand_21 : decode cX6_readCommand 21 = .ok (.iconst 0, 1) := by decide +kernel
theorem dX6_readCommand_22 : decode cX6_readCommand 22 = .ok (.istore_n 3, 1) := by decide +kernel
theorem dX6_readCommand_23 : decode cX6_readCommand 23 = .ok (.iload_n 3, 1) := by decide +kernel
theorem dX6_readCommand_24 : decode cX6_readCommand 24 = .ok (.aload_n 1, 1) := by decide +kernel
theorem dX6_readCommand_25 : decode cX6_readCommand 25 = .ok (.getfield 54, 3) := by decide +kernel
theorem dX6_readCommand_28 : decode cX6_readCommand 28 = .ok (.invokevirtual 60, 3) := by decide +kernel
theorem dX6_readCommand_31 : decode cX6_readCommand 31 = .ok (.if_icmp .ge 86, 3) := by decide +kernel
theorem dX6_readCommand_34 : decode cX6_readCommand 34 = .ok (.aload_n 1, 1) := by decide +kernel
theorem dX6_readCommand_35 : decode cX6_readCommand 35 = .ok (.getfield 54, 3) := by decide +kernel
theorem dX6_readCommand_38 : decode cX6_readCommand 38 = .ok (.iload_n 3, 1) := by decide +kernel
theorem dX6_readCommand_39 : decode cX6_readCommand 39 = .ok (.invokevirtual 65, 3) := by decide +kernel
theorem dX6_readCommand_42 : decode cX6_readCommand 42 = .ok (.istore 4, 2) := by decide +kernel
theorem dX6_readCommand_44 : decode cX6_readCommand 44 = .ok (.iload 4, 2) := by decide +kernel
theorem dX6_readCommand_46 : decode cX6_readCommand 46 = .ok (.bipush 35, 2) := by decide +kernel
theorem dX6_readCommand_48 : decode cX6_readCommand 48 = .ok (.if_icmp .eq 10, 3) := by decide +kernel
theorem dX6_readCommand_51 : decode cX6_readCommand 51 = .ok (.iload 4, 2) := by decide +kernel
theorem dX6_readCommand_53 : decode cX6_readCommand 53 = .ok (.bipush 63, 2) := by decide +kernel
theorem dX6_readCommand_55 : decode cX6_readCommand 55 = .ok (.if_icmp .ne 45, 3) := by decide +kernel
theorem dX6_readCommand_58 : decode cX6_readCommand 58 = .ok (.iload_n 2, 1) := by decide +kernel
theorem dX6_readCommand_59 : decode cX6_readCommand 59 = .ok (.iconst 3, 1) := by decide +kernel
theorem dX6_readCommand_60 : decode cX6_readCommand 60 = .ok (.if_icmp .ge 10, 3) := by decide +kernel
theorem dX6_readCommand_63 : decode cX6_readCommand 63 = .ok (.aload_n 0, 1) := by decide +kernel
theorem dX6_readCommand_64 : decode cX6_readCommand 64 = .ok (.invokevirtual 69, 3) := by decide +kernel
theorem dX6_readCommand_67 : decode cX6_readCommand 67 = .ok (.ifCond .ne 5, 3) := by decide +kernel
theorem dX6_readCommand_70 : decode cX6_readCommand 70 = .ok (.iconst 0, 1) := by decide +kernel
theorem dX6_readCommand_71 : decode cX6_readCommand 71 = .ok (.ireturn, 1) := by decide +kernel
theorem dX6_readCommand_72 : decode cX6_readCommand 72 = .ok (.aload_n 0, 1) := by decide +kernel
theorem dX6_readCommand_73 : decode cX6_readCommand 73 = .ok (.getfield 15, 3) := by decide +kernel
theorem dX6_readCommand_76 : decode cX6_readCommand 76 = .ok (.iload_n 2, 1) := by decide +kernel
theorem dX6_readCommand_77 : decode cX6_readCommand 77 = .ok (.aload_n 0, 1) := by decide +kernel
theorem dX6_readCommand_78 : decode cX6_readCommand 78 = .ok (.iload 4, 2) := by decide +kernel
theorem dX6_readCommand_80 : decode cX6_readCommand 80 = .ok (.bipush 35, 2) := by decide +kernel
theorem dX6_readCommand_82 : decode cX6_readCommand 82 = .ok (.if_icmp .ne 7, 3) := by decide +kernel
theorem dX6_readCommand_85 : decode cX6_readCommand 85 = .ok (.iconst 1, 1) := by decide +kernel
theorem dX6_readCommand_86 : decode cX6_readCommand 86 = .ok (.goto 4, 3) := by decide +kernel
theorem dX6_readCommand_89 : decode cX6_readCommand 89 = .ok (.iconst 0, 1) := by decide +kernel
theorem dX6_readCommand_90 : decode cX6_readCommand 90 = .ok (.invokevirtual 72, 3) := by decide +kernel
theorem dX6_readCommand_93 : decode cX6_readCommand 93 = .ok (.iastore, 1) := by decide +kernel
theorem dX6_readCommand_94 : decode cX6_readCommand 94 = .ok (.iinc 2 1, 3) := by decide +kernel
theorem dX6_readCommand_97 : decode cX6_readCommand 97 = .ok (.goto 14, 3) := by decide +kernel
theorem dX6_readCommand_100 : decode cX6_readCommand 100 = .ok (.aload_n 0, 1) := by decide +kernel
theorem dX6_readCommand_101 : decode cX6_readCommand 101 = .ok (.iload 4, 2) := by decide +kernel
theorem dX6_readCommand_103 : decode cX6_readCommand 103 = .ok (.invokevirtual 40, 3) := by decide +kernel
theorem dX6_readCommand_106 : decode cX6_readCommand 106 = .ok (.ifCond .ne 5, 3) := by decide +kernel
theorem dX6_readCommand_109 : decode cX6_readCommand 109 = .ok (.iconst 0, 1) := by decide +kernel
theorem dX6_readCommand_110 : decode cX6_readCommand 110 = .ok (.ireturn, 1) := by decide +kernel
theorem dX6_readCommand_111 : decode cX6_readCommand 111 = .ok (.iinc 3 1, 3) := by decide +kernel
theorem dX6_readCommand_114 : decode cX6_readCommand 114 = .ok (.goto (-91), 3) := by decide +kernel
theorem dX6_readCommand_117 : decode cX6_readCommand 117 = .ok (.aload_n 0, 1) := by decide +kernel
theorem dX6_readCommand_118 : decode cX6_readCommand 118 = .ok (.getfield 22, 3) := by decide +kernel
theorem dX6_readCommand_121 : decode cX6_readCommand 121 = .ok (.new 76, 3) := by decide +kernel
theorem dX6_readCommand_124 : decode cX6_readCommand 124 = .ok (.dup, 1) := by decide +kernel
theorem dX6_readCommand_125 : decode cX6_readCommand 125 = .ok (.aload_n 1, 1) := by decide +kernel
theorem dX6_readCommand_126 : decode cX6_readCommand 126 = .ok (.aload_n 0, 1) := by decide +kernel
theorem dX6_readCommand_127 : decode cX6_readCommand 127 = .ok (.getfield 15, 3) := by decide +kernel
theorem dX6_readCommand_130 : decode cX6_readCommand 130 = .ok (.iconst 0, 1) := by decide +kernel
theorem dX6_readCommand_131 : decode cX6_readCommand 131 = .ok (.iaload, 1) := by decide +kernel
theorem dX6_readCommand_132 : decode cX6_readCommand 132 = .ok (.aload_n 0, 1) := by decide +kernel
theorem dX6_readCommand_133 : decode cX6_readCommand 133 = .ok (.getfield 15, 3) := by decide +kernel
theorem dX6_readCommand_136 : decode cX6_readCommand 136 = .ok (.iconst 1, 1) := by decide +kernel
theorem dX6_readCommand_137 : decode cX6_readCommand 137 = .ok (.iaload, 1) := by decide +kernel
theorem dX6_readCommand_138 : decode cX6_readCommand 138 = .ok (.aload_n 0, 1) := by decide +kernel
theorem dX6_readCommand_139 : decode cX6_readCommand 139 = .ok (.getfield 15, 3) := by decide +kernel
theorem dX6_readCommand_142 : decode cX6_readCommand 142 = .ok (.iconst 2, 1) := by decide +kernel
theorem dX6_readCommand_143 : decode cX6_readCommand 143 = .ok (.iaload, 1) := by decide +kernel
theorem dX6_readCommand_144 : decode cX6_readCommand 144 = .ok (.invokespecial 78, 3) := by decide +kernel
theorem dX6_readCommand_147 : decode cX6_readCommand 147 = .ok (.invokevirtual 81, 3) := by decide +kernel
theorem dX6_readCommand_150 : decode cX6_readCommand 150 = .ok (.pop, 1) := by decide +kernel
theorem dX6_readCommand_151 : decode cX6_readCommand 151 = .ok (.iconst 1, 1) := by decide +kernel
theorem dX6_readCommand_152 : decode cX6_readCommand 152 = .ok (.ireturn, 1) := by decide +kernel
theorem gV_X6_X6_kindAhead_44 : GoodIn gw (wsV RX6 44 RX6 yX6_kindAhead (Cond.code yX6_kindAhead cX6_kindAhead 5 (some (.object "HedgeCommittee$Kind")) :: gw)) := gdV gw_1124 gw_1126 gw_12 gw_73 gw_1127
theorem hV_X6_kindAhead : yX6_kindAhead.cls = RX6 ∧ yX6_kindAhead.cls ≠ "java/lang/invoke/MethodHandle" ∧ yX6_kindAhead.cls ≠ "java/lang/invoke/VarHandle" ∧ (parseMethodDescriptor yX6_kindAhead.desc).map (fun d => d.parameters.length) = some 0 := ⟨rfl, by decide +kernel, by decide +kernel, by decide +kernel⟩
set_option maxHeartbeats 2000000 in
set_option maxRecDepth 20000 in
theorem k_X6_readCommand (l : Launch) (hfl : l.stackTraces = false) (D : va_G) (aT : Nat → ClassId) (p0 : Nat) (p1 : Nat) (p2 : Nat) (p3 : Nat) (w : Option Nat) (k0 : Int32) : CxG l yX6_readCommand cX6_readCommand 5 (some (.boolean)) 1 0 0 24 D aT [.ref p0] [(p0, .inr (9, [.ref p1, .ref p2, .ref p3, .int (nI 0), .int (nI 0)])), (p1, .inl (aT 1, 60, .inl (fun _ => nI 0))), (p2, .inl (aT 0, 3, .inl (fun _ => nI 0))), (p3, .inr (4, [.int k0, va_rf w, .int (nI 0)]))] (qI D aT (fun r W1 => r = (nI 0) ∧ W1 = [(p0, .inr (9, [.ref p1, .ref p2, .ref p3, .int (nI 0), .int (nI 0)])), (p1, .inl (aT 1, 60, .inl (fun _ => nI 0))), (p2, .inl (aT 0, 3, .inl (fun _ => nI 0))), (p3, .inr (4, [.int k0, va_rf w, .int (nI 0)]))])) (fun _ => False) := by
  refine CxG.of RX6 (by decide +kernel) rfl (Nat.le_of_ble_eq_true rfl) ?_
  intro p e s m below meth c A ls C hml hl hA hr hlocks hex hnm hZ hW
  have hl : lv_has ls 5 [(0, .ref p0)] := hl
  have hx := C.1
  have hb := C.2.1
  refine lv_aload_n hx hb dX6_readCommand_0 rfl (lv_at hl 0 rfl) ?_
  refine cx_callr (Wr := []) (cx_runV C hml hl.1 hZ hW hA (As := []) (rest := []) (k_X6_kindAhead l hfl D aT p0 p1 p2 p3 w k0) gV_X6_X6_kindAhead_44 hV_X6_kindAhead rfl ⟨Nat.le_of_ble_eq_true rfl, Nat.le_of_ble_eq_true rfl⟩ ⟨Nat.le_of_ble_eq_true rfl, Nat.le_of_ble_eq_true rfl⟩ [0, 1, 2, 3] rfl (by decide) 0 9 rfl rfl rfl rfl (Nat.le_of_ble_eq_true rfl) dX6_readCommand_1) hW hA [0, 1, 2, 3] [] rfl rfl (by decide) (by decide) (fun _ _ _ _ _ h9 => h9.elim) (fun r_1 W_1 H locs hq hW => ?_)
  obtain ⟨rfl, rfl⟩ := hq
  have hW : CxB D [(p0, .inr (9, [.ref p1, .ref p2, .ref p3, .int (nI 0), .int (nI 0)])), (p1, .inl (aT 1, 60, .inl (fun _ => nI 0))), (p2, .inl (aT 0, 3, .inl (fun _ => nI 0))), (p3, .inr (4, [.int k0, va_rf w, .int (nI 0)]))] A s.heap H _ := hW
  refine lv_astore_nN (lv' := [(1, .null), (0, .ref p0)]) hx hb dX6_readCommand_4 rfl hl (by decide) rfl (fun ls hl => ?_)
  refine lv_aload_nN hx hb dX6_readCommand_5 rfl (lv_at hl 0 rfl) ?_
  refine lv_ifnonnullN hx hb dX6_readCommand_6 ?_
  refine lv_iconst (v := nI 0) hx hb dX6_readCommand_9 (by decide) ?_
  exact cx_iret C hr hlocks (by decide) hW ⟨Nat.le_of_ble_eq_true rfl, Nat.le_of_ble_eq_true rfl⟩ (⟨rfl, rfl⟩) dX6_readCommand_10
theorem dX6_parse_0 : decode cX6_parse 0 = .ok (.aload_n 0, 1) := by decide +kernel
theorem dX6_parse_1 : decode cX6_parse 1 = .ok (.getfield 22, 3) := by decide +kernel
theorem dX6_parse_4 : decode cX6_parse 4 = .ok (.invokevirtual 33, 3) := by decide +kernel
theorem dX6_parse_7 : decode cX6_parse 7 = .ok (.aload_n 0, 1) := by decide +kernel
theorem dX6_parse_8 : decode cX6_parse 8 = .ok (.iconst 0, 1) := by decide +kernel
theorem dX6_parse_9 : decode cX6_parse 9 = .ok (.putfield 30, 3) := by decide +kernel
theorem dX6_parse_12 : decode cX6_parse 12 = .ok (.iconst 0, 1) := by decide +kernel
theorem dX6_parse_13 : decode cX6_parse 13 = .ok (.istore_n 1, 1) := by decide +kernel
theorem dX6_parse_14 : decode cX6_parse 14 = .ok (.iload_n 1, 1) := by decide +kernel
theorem dX6_parse_15 : decode cX6_parse 15 = .ok (.bipush 60, 2) := by decide +kernel
theorem dX6_parse_17 : decode cX6_parse 17 = .ok (.if_icmp .ge 48, 3) := by decide +kernel
theorem dX6_parse_20 : decode cX6_parse 20 = .ok (.aload_n 0, 1) := by decide +kernel
theorem dX6_parse_21 : decode cX6_parse 21 = .ok (.invokevirtual 36, 3) := by decide +kernel
theorem dX6_parse_24 : decode cX6_parse 24 = .ok (.ifCond .ne 8, 3) := by decide +kernel
theorem dX6_parse_27 : decode cX6_parse 27 = .ok (.aload_n 0, 1) := by decide +kernel
theorem dX6_parse_28 : decode cX6_parse 28 = .ok (.getfield 30, 3) := by decide +kernel
theorem dX6_parse_31 : decode cX6_parse 31 = .ok (.ireturn, 1) := by decide +kernel
theorem dX6_parse_32 : decode cX6_parse 32 = .ok (.aload_n 0, 1) := by decide +kernel
theorem dX6_parse_33 : decode cX6_parse 33 = .ok (.getfield 30, 3) := by decide +kernel
theorem dX6_parse_36 : decode cX6_parse 36 = .ok (.aload_n 0, 1) := by decide +kernel
theorem dX6_parse_37 : decode cX6_parse 37 = .ok (.getfield 26, 3) := by decide +kernel
theorem dX6_parse_40 : decode cX6_parse 40 = .ok (.if_icmp .lt 5, 3) := by decide +kernel
theorem dX6_parse_43 : decode cX6_parse 43 = .ok (.iconst (-1), 1) := by decide +kernel
theorem dX6_parse_44 : decode cX6_parse 44 = .ok (.ireturn, 1) := by decide +kernel
theorem dX6_parse_45 : decode cX6_parse 45 = .ok (.aload_n 0, 1) := by decide +kernel
theorem dX6_parse_46 : decode cX6_parse 46 = .ok (.bipush 59, 2) := by decide +kernel
theorem dX6_parse_48 : decode cX6_parse 48 = .ok (.invokevirtual 40, 3) := by decide +kernel
theorem dX6_parse_51 : decode cX6_parse 51 = .ok (.ifCond .ne 8, 3) := by decide +kernel
theorem dX6_parse_54 : decode cX6_parse 54 = .ok (.aload_n 0, 1) := by decide +kernel
theorem dX6_parse_55 : decode cX6_parse 55 = .ok (.getfield 30, 3) := by decide +kernel
theorem dX6_parse_58 : decode cX6_parse 58 = .ok (.ireturn, 1) := by decide +kernel
theorem dX6_parse_59 : decode cX6_parse 59 = .ok (.iinc 1 1, 3) := by decide +kernel
theorem dX6_parse_62 : decode cX6_parse 62 = .ok (.goto (-48), 3) := by decide +kernel
theorem dX6_parse_65 : decode cX6_parse 65 = .ok (.aload_n 0, 1) := by decide +kernel
theorem dX6_parse_66 : decode cX6_parse 66 = .ok (.getfield 30, 3) := by decide +kernel
theorem dX6_parse_69 : decode cX6_parse 69 = .ok (.ireturn, 1) := by decide +kernel
theorem gV_X6_Jx4a65c_clear_da8c8_33 : GoodIn gw (wsV RX6 33 RJx4a65c yJx4a65c_clear_da8c8 (Cond.code yJx4a65c_clear_da8c8 cJx4a65c_clear_da8c8 4 (none) :: gw)) := gdV gw_1116 gw_1117 gw_1118 gw_76 gw_1119
theorem hV_Jx4a65c_clear_da8c8 : yJx4a65c_clear_da8c8.cls = RJx4a65c ∧ yJx4a65c_clear_da8c8.cls ≠ "java/lang/invoke/MethodHandle" ∧ yJx4a65c_clear_da8c8.cls ≠ "java/lang/invoke/VarHandle" ∧ (parseMethodDescriptor yJx4a65c_clear_da8c8.desc).map (fun d => d.parameters.length) = some 0 := ⟨rfl, by decide +kernel, by decide +kernel, by decide +kernel⟩
theorem gV_X6_X6_readCommand_36 : GoodIn gw (wsV RX6 36 RX6 yX6_readCommand (Cond.code yX6_readCommand cX6_readCommand 5 (some .boolean) :: gw)) := gdV gw_1120 gw_1122 gw_11 gw_73 gw_1123
theorem hV_X6_readCommand : yX6_readCommand.cls = RX6 ∧ yX6_readCommand.cls ≠ "java/lang/invoke/MethodHandle" ∧ yX6_readCommand.cls ≠ "java/lang/invoke/VarHandle" ∧ (parseMethodDescriptor yX6_readCommand.desc).map (fun d => d.parameters.length) = some 0 := ⟨rfl, by decide +kernel, by decide +kernel, by decide +kernel⟩
set_option maxHeartbeats 2000000 in
set_option maxRecDepth 20000 in
theorem k_X6_parse (l : Launch) (hfl : l.stackTraces = false) (D : va_G) (aT : Nat → ClassId) (p0 : Nat) (p1 : Nat) (p2 : Nat) (p3 : Nat) (w : Option Nat) (k0 : Int32) : CxG l yX6_parse cX6_parse 2 (some (.int)) 2 0 0 48 D aT [.ref p0] [(p0, .inr (9, [.ref p1, .ref p2, .ref p3, .int (nI 0), .int (nI 0)])), (p1, .inl (aT 1, 60, .inl (fun _ => nI 0))), (p2, .inl (aT 0, 3, .inl (fun _ => nI 0))), (p3, .inr (4, [.int k0, va_rf w, .int (nI 0)]))] (qI D aT (fun r W1 => r = (nI 0) ∧ W1 = [(p0, .inr (9, [.ref p1, .ref p2, .ref p3, .int (nI 0), .int (nI 0)])), (p1, .inl (aT 1, 60, .inl (fun _ => nI 0))), (p2, .inl (aT 0, 3, .inl (fun _ => nI 0))), (p3, .inr (4, [.int (k0 + nI 1), va_rf w, .int (nI 0)]))])) (fun _ => False) := by
  refine CxG.of RX6 (by decide +kernel) rfl (Nat.le_of_ble_eq_true rfl) ?_
  intro p e s m below meth c A ls C hml hl hA hr hlocks hex hnm hZ hW
  have hl : lv_has ls 2 [(0, .ref p0)] := hl
  have hx := C.1
  have hb := C.2.1
  refine lv_aload_n hx hb dX6_parse_0 rfl (lv_at hl 0 rfl) ?_
  refine cx_get C hW 0 2 rfl rfl (by decide) inX6 gw_298 rfl rfl dX6_parse_1 ?_
  refine cx_callv (Wr := [(p0, .inr (9, [.ref p1, .ref p2, .ref p3, .int (nI 0), .int (nI 0)])), (p1, .inl (aT 1, 60, .inl (fun _ => nI 0))), (p2, .inl (aT 0, 3, .inl (fun _ => nI 0)))]) (cx_runV C hml hl.1 hZ hW hA (As := []) (rest := []) (k_Jx4a65c_clear_da8c8 l hfl D aT p3 w k0) gV_X6_Jx4a65c_clear_da8c8_33 hV_Jx4a65c_clear_da8c8 rfl ⟨Nat.le_of_ble_eq_true rfl, Nat.le_of_ble_eq_true rfl⟩ ⟨Nat.le_of_ble_eq_true rfl, Nat.le_of_ble_eq_true rfl⟩ [3] rfl (by decide) 3 4 rfl rfl rfl rfl (Nat.le_of_ble_eq_true rfl) dX6_parse_4) hW hA [3] [0, 1, 2] rfl rfl (by decide) (by decide) (fun _ _ _ _ _ h9 => h9.elim) (fun W_4 H locs hq hW => ?_)
  subst hq
  have hW : CxB D [(p0, .inr (9, [.ref p1, .ref p2, .ref p3, .int (nI 0), .int (nI 0)])), (p1, .inl (aT 1, 60, .inl (fun _ => nI 0))), (p2, .inl (aT 0, 3, .inl (fun _ => nI 0))), (p3, .inr (4, [.int (k0 + nI 1), va_rf w, .int (nI 0)]))] A s.heap H _ := hW
  refine lv_aload_n hx hb dX6_parse_7 rfl (lv_at hl 0 rfl) ?_
  refine lv_iconst (v := nI 0) hx hb dX6_parse_8 (by decide) ?_
  refine cx_put C hW 0 4 (W1 := [(p0, .inr (9, [.ref p1, .ref p2, .ref p3, .int (nI 0), .int (nI 0)])), (p1, .inl (aT 1, 60, .inl (fun _ => nI 0))), (p2, .inl (aT 0, 3, .inl (fun _ => nI 0))), (p3, .inr (4, [.int (k0 + nI 1), va_rf w, .int (nI 0)]))]) rfl rfl (by decide) inX6 tyX6 tyX6_ok nmX6 gw_301 rfl rfl rfl rfl rfl (Nat.le_of_ble_eq_true rfl) rfl dX6_parse_9 (fun H locs hW => ?_)
  refine lv_iconst (v := nI 0) hx hb dX6_parse_12 (by decide) ?_
  refine lv_istore_n (lv' := [(1, .int (nI 0)), (0, .ref p0)]) hx hb dX6_parse_13 rfl hl (by decide) rfl (fun ls hl => ?_)
  refine lv_iload_n hx hb dX6_parse_14 rfl (lv_at hl 0 rfl) ?_
  refine lv_bipush (v := nI 60) hx hb dX6_parse_15 (by decide) ?_
  refine lv_icmp_ge hx hb (x := (nI 0)) (y := (nI 60)) (tgt := 65) dX6_parse_17 (by decide) (fun c_17 => ?_) (fun c_17 => ?_)
  · exact absurd c_17 (by decide)
  · refine lv_aload_n hx hb dX6_parse_20 rfl (lv_at hl 1 rfl) ?_
    refine cx_calli (Wr := []) (cx_runV C hml hl.1 hZ hW hA (As := []) (rest := []) (k_X6_readCommand l hfl D aT p0 p1 p2 p3 w (k0 + nI 1)) gV_X6_X6_readCommand_36 hV_X6_readCommand rfl ⟨Nat.le_of_ble_eq_true rfl, Nat.le_of_ble_eq_true rfl⟩ ⟨Nat.le_of_ble_eq_true rfl, Nat.le_of_ble_eq_true rfl⟩ [0, 1, 2, 3] rfl (by decide) 0 9 rfl rfl rfl rfl (Nat.le_of_ble_eq_true rfl) dX6_parse_21) hW hA [0, 1, 2, 3] [] rfl rfl (by decide) (by decide) (fun _ _ _ _ _ h9 => h9.elim) (fun r_21 W_21 H locs hq hW => ?_)
    obtain ⟨rfl, rfl⟩ := hq
    have hW : CxB D [(p0, .inr (9, [.ref p1, .ref p2, .ref p3, .int (nI 0), .int (nI 0)])), (p1, .inl (aT 1, 60, .inl (fun _ => nI 0))), (p2, .inl (aT 0, 3, .inl (fun _ => nI 0))), (p3, .inr (4, [.int (k0 + nI 1), va_rf w, .int (nI 0)]))] A s.heap H _ := hW
    refine lv_if_ne hx hb (x := (nI 0)) (tgt := 32) dX6_parse_24 (by decide) (fun c_24 => ?_) (fun c_24 => ?_)
    · exact absurd c_24 (by decide)
    · refine lv_aload_n hx hb dX6_parse_27 rfl (lv_at hl 1 rfl) ?_
      refine cx_get C hW 0 4 rfl rfl (by decide) inX6 gw_301 rfl rfl dX6_parse_28 ?_
      exact cx_iret C hr hlocks rfl hW ⟨Nat.le_of_ble_eq_true rfl, Nat.le_of_ble_eq_true rfl⟩ (⟨rfl, rfl⟩) dX6_parse_31
theorem dX3_note_0 : decode cX3_note 0 = .ok (.aload_n 0, 1) := by decide +kernel
theorem dX3_note_1 : decode cX3_note 1 = .ok (.getfield 11, 3) := by decide +kernel
theorem dX3_note_4 : decode cX3_note 4 = .ok (.aload_n 0, 1) := by decide +kernel
theorem dX3_note_5 : decode cX3_note 5 = .ok (.getfield 18, 3) := by decide +kernel
theorem dX3_note_8 : decode cX3_note 8 = .ok (.aaload, 1) := by decide +kernel
theorem dX3_note_9 : decode cX3_note 9 = .ok (.aload_n 1, 1) := by decide +kernel
theorem dX3_note_10 : decode cX3_note 10 = .ok (.invokevirtual 22, 3) := by decide +kernel
theorem dX3_note_13 : decode cX3_note 13 = .ok (.return_, 1) := by decide +kernel
theorem gV_X3_X7_copyFrom_22 : GoodIn gw (wsV RX3 22 RX7 yX7_copyFrom (Cond.code yX7_copyFrom cX7_copyFrom 2 (none) :: gw)) := gdV gw_382 gw_383 gw_384 gw_68 gw_385
theorem hV_X7_copyFrom : yX7_copyFrom.cls = RX7 ∧ yX7_copyFrom.cls ≠ "java/lang/invoke/MethodHandle" ∧ yX7_copyFrom.cls ≠ "java/lang/invoke/VarHandle" ∧ (parseMethodDescriptor yX7_copyFrom.desc).map (fun d => d.parameters.length) = some 1 := ⟨rfl, by decide +kernel, by decide +kernel, by decide +kernel⟩
set_option maxHeartbeats 2000000 in
set_option maxRecDepth 20000 in
theorem k_X3_note (l : Launch) (hfl : l.stackTraces = false) (D : va_G) (aT : Nat → ClassId) (h0 : Nat) (h1 : Nat) (f : Nat → Option Nat) (a0 : Nat) (a1 : Nat) (a2 : Nat) (a3 : Nat) (a4 : Nat) (a5 : Nat) (a6 : Nat) (a7 : Nat) (a8 : Nat) (a9 : Nat) (a10 : Nat) (f2 : Nat → Int32) (f3 : Nat → Int32) (f4 : Nat → Int32) (f6 : Nat → Int32) (f7 : Nat → Int32) (f8 : Nat → Int32) (f9 : Nat → Int32) (f10 : Nat → Int32) (x0 : Int32) (x1 : Int32) (x2 : Int32) (x3 : Int32) (x4 : Int32) (x5 : Int32) (x6 : Int32) (x7 : Int32) (x8 : Int32) (x9 : Int32) (x10 : Int32) (b0 : Nat) (b1 : Nat) (b2 : Nat) (b3 : Nat) (b4 : Nat) (b5 : Nat) (b6 : Nat) (b7 : Nat) (b8 : Nat) (b9 : Nat) (b10 : Nat) (g2 : Nat → Int32) (g3 : Nat → Int32) (g4 : Nat → Int32) (g6 : Nat → Int32) (g7 : Nat → Int32) (g8 : Nat → Int32) (g9 : Nat → Int32) (g10 : Nat → Int32) (y0 : Int32) (y1 : Int32) (y2 : Int32) (y3 : Int32) (y4 : Int32) (y5 : Int32) (y6 : Int32) (y7 : Int32) (y8 : Int32) (y9 : Int32) (y10 : Int32) (hf : f 0 = some b0) : CxG l yX3_note cX3_note 2 none 3 0 0 102 D aT [.ref h0, .ref a0] [(h0, .inr (7, [.ref h1, .int (nI 0)])), (h1, .inl (aT 5, 9, .inr (.inr (.inr (.inr f))))), (b0, .inr (10, [.ref b1, .ref b5, .ref b10, .int y0, .int y1, .int y2, .int y3, .int y4, .int y5, .int y6, .int y7])), (b1, .inr (6, [.ref b2, .ref b3, .ref b4, .int y8])), (b2, .inl (aT 0, 6, .inl g2)), (b3, .inl (aT 0, 6, .inl g3)), (b4, .inl (aT 0, 6, .inl g4)), (b5, .inr (8, [.ref b6, .ref b7, .ref b8, .ref b9, .int y9, .int y10])), (b6, .inl (aT 0, 12, .inl g6)), (b7, .inl (aT 0, 12, .inl g7)), (b8, .inl (aT 0, 12, .inl g8)), (b9, .inl (aT 0, 12, .inl g9)), (b10, .inl (aT 0, 4, .inl g10)), (a0, .inr (10, [.ref a1, .ref a5, .ref a10, .int x0, .int x1, .int x2, .int x3, .int x4, .int x5, .int x6, .int x7])), (a1, .inr (6, [.ref a2, .ref a3, .ref a4, .int x8])), (a2, .inl (aT 0, 6, .inl f2)), (a3, .inl (aT 0, 6, .inl f3)), (a4, .inl (aT 0, 6, .inl f4)), (a5, .inr (8, [.ref a6, .ref a7, .ref a8, .ref a9, .int x9, .int x10])), (a6, .inl (aT 0, 12, .inl f6)), (a7, .inl (aT 0, 12, .inl f7)), (a8, .inl (aT 0, 12, .inl f8)), (a9, .inl (aT 0, 12, .inl f9)), (a10, .inl (aT 0, 4, .inl f10))] (qV D aT (fun W1 => W1 = [(h0, .inr (7, [.ref h1, .int (nI 0)])), (h1, .inl (aT 5, 9, .inr (.inr (.inr (.inr f))))), (a0, .inr (10, [.ref a1, .ref a5, .ref a10, .int x0, .int x1, .int x2, .int x3, .int x4, .int x5, .int x6, .int x7])), (a10, .inl (aT 0, 4, .inl f10)), (b0, .inr (10, [.ref b1, .ref b5, .ref b10, .int x0, .int x1, .int x2, .int x3, .int x4, .int x5, .int x6, .int x7])), (b10, .inl (aT 0, 4, .inl (va_cpy f10 g10 0 0 4))), (a1, .inr (6, [.ref a2, .ref a3, .ref a4, .int x8])), (a2, .inl (aT 0, 6, .inl f2)), (a3, .inl (aT 0, 6, .inl f3)), (a4, .inl (aT 0, 6, .inl f4)), (b1, .inr (6, [.ref b2, .ref b3, .ref b4, .int x8])), (b2, .inl (aT 0, 6, .inl (va_cpy f2 g2 0 0 6))), (b3, .inl (aT 0, 6, .inl (va_cpy f3 g3 0 0 6))), (b4, .inl (aT 0, 6, .inl (va_cpy f4 g4 0 0 6))), (a5, .inr (8, [.ref a6, .ref a7, .ref a8, .ref a9, .int x9, .int x10])), (a6, .inl (aT 0, 12, .inl f6)), (a7, .inl (aT 0, 12, .inl f7)), (a8, .inl (aT 0, 12, .inl f8)), (a9, .inl (aT 0, 12, .inl f9)), (b5, .inr (8, [.ref b6, .ref b7, .ref b8, .ref b9, .int x9, .int x10])), (b6, .inl (aT 0, 12, .inl (va_cpy f6 g6 0 0 12))), (b7, .inl (aT 0, 12, .inl (va_cpy f7 g7 0 0 12))), (b8, .inl (aT 0, 12, .inl (va_cpy f8 g8 0 0 12))), (b9, .inl (aT 0, 12, .inl (va_cpy f9 g9 0 0 12)))])) (fun _ => False) := by
  refine CxG.of RX3 (by decide +kernel) rfl (Nat.le_of_ble_eq_true rfl) ?_
  intro p e s m below meth c A ls C hml hl hA hr hlocks hex hnm hZ hW
  have hl : lv_has ls 2 [(0, .ref h0), (1, .ref a0)] := hl
  have hx := C.1
  have hb := C.2.1
  refine lv_aload_n hx hb dX3_note_0 rfl (lv_at hl 0 rfl) ?_
  refine cx_get C hW 0 0 rfl rfl (by decide) inX3 gw_229 rfl rfl dX3_note_1 ?_
  refine lv_aload_n hx hb dX3_note_4 rfl (lv_at hl 0 rfl) ?_
  refine cx_get C hW 0 1 rfl rfl (by decide) inX3 gw_230 rfl rfl dX3_note_5 ?_
  refine va_aldq hx hb C.2.2.2.2 hW.1 1 5 rfl rfl (vp_in_nI (show 0 < 9 by decide) (by decide)) dX3_note_8 ?_
  rw [nI_clamp (by decide)]
  rw [hf]
  refine lv_aload_n hx hb dX3_note_9 rfl (lv_at hl 1 rfl) ?_
  refine cx_callv (Wr := [(h0, .inr (7, [.ref h1, .int (nI 0)])), (h1, .inl (aT 5, 9, .inr (.inr (.inr (.inr f)))))]) (cx_runV C hml hl.1 hZ hW hA (As := [.ref a0]) (rest := []) (k_X7_copyFrom l hfl D aT a0 a1 a2 a3 a4 a5 a6 a7 a8 a9 a10 f2 f3 f4 f6 f7 f8 f9 f10 x0 x1 x2 x3 x4 x5 x6 x7 x8 x9 x10 b0 b1 b2 b3 b4 b5 b6 b7 b8 b9 b10 g2 g3 g4 g6 g7 g8 g9 g10 y0 y1 y2 y3 y4 y5 y6 y7 y8 y9 y10) gV_X3_X7_copyFrom_22 hV_X7_copyFrom rfl ⟨Nat.le_of_ble_eq_true rfl, Nat.le_of_ble_eq_true rfl⟩ ⟨Nat.le_of_ble_eq_true rfl, Nat.le_of_ble_eq_true rfl⟩ [13, 14, 15, 16, 17, 18, 19, 20, 21, 22, 23, 2, 3, 4, 5, 6, 7, 8, 9, 10, 11, 12] rfl (by decide) 2 10 rfl rfl rfl rfl (Nat.le_of_ble_eq_true rfl) dX3_note_10) hW hA [13, 14, 15, 16, 17, 18, 19, 20, 21, 22, 23, 2, 3, 4, 5, 6, 7, 8, 9, 10, 11, 12] [0, 1] rfl rfl (by decide) (by decide) (fun _ _ _ _ _ h9 => h9.elim) (fun W_10 H locs hq hW => ?_)
  subst hq
  have hW : CxB D [(h0, .inr (7, [.ref h1, .int (nI 0)])), (h1, .inl (aT 5, 9, .inr (.inr (.inr (.inr f))))), (a0, .inr (10, [.ref a1, .ref a5, .ref a10, .int x0, .int x1, .int x2, .int x3, .int x4, .int x5, .int x6, .int x7])), (a10, .inl (aT 0, 4, .inl f10)), (b0, .inr (10, [.ref b1, .ref b5, .ref b10, .int x0, .int x1, .int x2, .int x3, .int x4, .int x5, .int x6, .int x7])), (b10, .inl (aT 0, 4, .inl (va_cpy f10 g10 0 0 4))), (a1, .inr (6, [.ref a2, .ref a3, .ref a4, .int x8])), (a2, .inl (aT 0, 6, .inl f2)), (a3, .inl (aT 0, 6, .inl f3)), (a4, .inl (aT 0, 6, .inl f4)), (b1, .inr (6, [.ref b2, .ref b3, .ref b4, .int x8])), (b2, .inl (aT 0, 6, .inl (va_cpy f2 g2 0 0 6))), (b3, .inl (aT 0, 6, .inl (va_cpy f3 g3 0 0 6))), (b4, .inl (aT 0, 6, .inl (va_cpy f4 g4 0 0 6))), (a5, .inr (8, [.ref a6, .ref a7, .ref a8, .ref a9, .int x9, .int x10])), (a6, .inl (aT 0, 12, .inl f6)), (a7, .inl (aT 0, 12, .inl f7)), (a8, .inl (aT 0, 12, .inl f8)), (a9, .inl (aT 0, 12, .inl f9)), (b5, .inr (8, [.ref b6, .ref b7, .ref b8, .ref b9, .int x9, .int x10])), (b6, .inl (aT 0, 12, .inl (va_cpy f6 g6 0 0 12))), (b7, .inl (aT 0, 12, .inl (va_cpy f7 g7 0 0 12))), (b8, .inl (aT 0, 12, .inl (va_cpy f8 g8 0 0 12))), (b9, .inl (aT 0, 12, .inl (va_cpy f9 g9 0 0 12)))] A s.heap H _ := hW
  exact cx_vret C hr hlocks hW ⟨Nat.le_of_ble_eq_true rfl, Nat.le_of_ble_eq_true rfl⟩ (rfl) dX3_note_13
theorem dX3_keepNoted_0 : decode cX3_keepNoted 0 = .ok (.aload_n 0, 1) := by decide +kernel
theorem dX3_keepNoted_1 : decode cX3_keepNoted 1 = .ok (.getfield 18, 3) := by decide +kernel
theorem dX3_keepNoted_4 : decode cX3_keepNoted 4 = .ok (.bipush 8, 2) := by decide +kernel
theorem dX3_keepNoted_6 : decode cX3_keepNoted 6 = .ok (.if_icmp .ge 16, 3) := by decide +kernel
theorem dX3_keepNoted_9 : decode cX3_keepNoted 9 = .ok (.aload_n 0, 1) := by decide +kernel
theorem dX3_keepNoted_10 : decode cX3_keepNoted 10 = .ok (.dup, 1) := by decide +kernel
theorem dX3_keepNoted_11 : decode cX3_keepNoted 11 = .ok (.getfield 18, 3) := by decide +kernel
theorem dX3_keepNoted_14 : decode cX3_keepNoted 14 = .ok (.iconst 1, 1) := by decide +kernel
theorem dX3_keepNoted_15 : decode cX3_keepNoted 15 = .ok (.iadd, 1) := by decide +kernel
theorem dX3_keepNoted_16 : decode cX3_keepNoted 16 = .ok (.putfield 18, 3) := by decide +kernel
theorem dX3_keepNoted_19 : decode cX3_keepNoted 19 = .ok (.goto 7, 3) := by decide +kernel
theorem dX3_keepNoted_22 : decode cX3_keepNoted 22 = .ok (.aload_n 0, 1) := by decide +kernel
theorem dX3_keepNoted_23 : decode cX3_keepNoted 23 = .ok (.invokevirtual 26, 3) := by decide +kernel
theorem dX3_keepNoted_26 : decode cX3_keepNoted 26 = .ok (.return_, 1) := by decide +kernel
set_option maxHeartbeats 2000000 in
set_option maxRecDepth 20000 in
theorem k_X3_keepNoted (l : Launch) (hfl : l.stackTraces = false) (D : va_G) (aT : Nat → ClassId) (h0 : Nat) (h1 : Nat) (f : Nat → Option Nat) : CxG l yX3_keepNoted cX3_keepNoted 1 none 0 0 0 0 D aT [.ref h0] [(h0, .inr (7, [.ref h1, .int (nI 0)])), (h1, .inl (aT 5, 9, .inr (.inr (.inr (.inr f)))))] (qV D aT (fun W1 => W1 = [(h0, .inr (7, [.ref h1, .int (nI 1)])), (h1, .inl (aT 5, 9, .inr (.inr (.inr (.inr f)))))])) (fun _ => False) := by
  refine CxG.of RX3 (by decide +kernel) rfl (Nat.le_of_ble_eq_true rfl) ?_
  intro p e s m below meth c A ls C hml hl hA hr hlocks hex hnm hZ hW
  have hl : lv_has ls 1 [(0, .ref h0)] := hl
  have hx := C.1
  have hb := C.2.1
  refine lv_aload_n hx hb dX3_keepNoted_0 rfl (lv_at hl 0 rfl) ?_
  refine cx_get C hW 0 1 rfl rfl (by decide) inX3 gw_230 rfl rfl dX3_keepNoted_1 ?_
  refine lv_bipush (v := nI 8) hx hb dX3_keepNoted_4 (by decide) ?_
  refine lv_icmp_ge hx hb (x := (nI 0)) (y := (nI 8)) (tgt := 22) dX3_keepNoted_6 (by decide) (fun c_6 => ?_) (fun c_6 => ?_)
  · exact absurd c_6 (by decide)
  · refine lv_aload_n hx hb dX3_keepNoted_9 rfl (lv_at hl 0 rfl) ?_
    refine lv_dup hx hb dX3_keepNoted_10 rfl ?_
    refine cx_get C hW 0 1 rfl rfl (by decide) inX3 gw_230 rfl rfl dX3_keepNoted_11 ?_
    refine lv_iconst (v := nI 1) hx hb dX3_keepNoted_14 (by decide) ?_
    refine r_iaddN hx hb (a := 0) (b := 1) dX3_keepNoted_15 ?_
    refine cx_put C hW 0 1 (W1 := [(h0, .inr (7, [.ref h1, .int (nI 1)])), (h1, .inl (aT 5, 9, .inr (.inr (.inr (.inr f)))))]) rfl rfl (by decide) inX3 tyX3 tyX3_ok nmX3 gw_230 rfl rfl rfl rfl rfl (Nat.le_of_ble_eq_true rfl) rfl dX3_keepNoted_16 (fun H locs hW => ?_)
    refine lv_goto (tgt := 26) hx hb dX3_keepNoted_19 (by decide) ?_
    exact cx_vret C hr hlocks hW ⟨Nat.le_of_ble_eq_true rfl, Nat.le_of_ble_eq_true rfl⟩ (rfl) dX3_keepNoted_26
theorem dX9_addHedge_0 : decode cX9_addHedge 0 = .ok (.aload_n 0, 1) := by decide +kernel
theorem dX9_addHedge_1 : decode cX9_addHedge 1 = .ok (.getfield 22, 3) := by decide +kernel
theorem dX9_addHedge_4 : decode cX9_addHedge 4 = .ok (.aload_n 0, 1) := by decide +kernel
theorem dX9_addHedge_5 : decode cX9_addHedge 5 = .ok (.getfield 10, 3) := by decide +kernel
theorem dX9_addHedge_8 : decode cX9_addHedge 8 = .ok (.invokevirtual 58, 3) := by decide +kernel
theorem dX9_addHedge_11 : decode cX9_addHedge 11 = .ok (.aload_n 0, 1) := by decide +kernel
theorem dX9_addHedge_12 : decode cX9_addHedge 12 = .ok (.getfield 10, 3) := by decide +kernel
theorem dX9_addHedge_15 : decode cX9_addHedge 15 = .ok (.iload_n 1, 1) := by decide +kernel
theorem dX9_addHedge_16 : decode cX9_addHedge 16 = .ok (.iload_n 2, 1) := by decide +kernel
theorem dX9_addHedge_17 : decode cX9_addHedge 17 = .ok (.iload_n 3, 1) := by decide +kernel
theorem dX9_addHedge_18 : decode cX9_addHedge 18 = .ok (.invokevirtual 62, 3) := by decide +kernel
theorem dX9_addHedge_21 : decode cX9_addHedge 21 = .ok (.istore 4, 2) := by decide +kernel
theorem dX9_addHedge_23 : decode cX9_addHedge 23 = .ok (.aload_n 0, 1) := by decide +kernel
theorem dX9_addHedge_24 : decode cX9_addHedge 24 = .ok (.getfield 22, 3) := by decide +kernel
theorem dX9_addHedge_27 : decode cX9_addHedge 27 = .ok (.invokevirtual 66, 3) := by decide +kernel
theorem dX9_addHedge_30 : decode cX9_addHedge 30 = .ok (.iload 4, 2) := by decide +kernel
theorem dX9_addHedge_32 : decode cX9_addHedge 32 = .ok (.ireturn, 1) := by decide +kernel
theorem gV_X9_X3_note_58 : GoodIn gw (wsV RX9 58 RX3 yX3_note (Cond.code yX3_note cX3_note 2 (none) :: gw)) := gdV gw_378 gw_379 gw_380 gw_71 gw_381
theorem hV_X3_note : yX3_note.cls = RX3 ∧ yX3_note.cls ≠ "java/lang/invoke/MethodHandle" ∧ yX3_note.cls ≠ "java/lang/invoke/VarHandle" ∧ (parseMethodDescriptor yX3_note.desc).map (fun d => d.parameters.length) = some 1 := ⟨rfl, by decide +kernel, by decide +kernel, by decide +kernel⟩
theorem gV_X9_X7_newHedge_62 : GoodIn gw (wsV RX9 62 RX7 yX7_newHedge (Cond.code yX7_newHedge cX7_newHedge 4 (some .int) :: gw)) := gdV gw_552 gw_553 gw_554 gw_68 gw_555
theorem hV_X7_newHedge : yX7_newHedge.cls = RX7 ∧ yX7_newHedge.cls ≠ "java/lang/invoke/MethodHandle" ∧ yX7_newHedge.cls ≠ "java/lang/invoke/VarHandle" ∧ (parseMethodDescriptor yX7_newHedge.desc).map (fun d => d.parameters.length) = some 3 := ⟨rfl, by decide +kernel, by decide +kernel, by decide +kernel⟩
theorem gV_X9_X3_keepNoted_66 : GoodIn gw (wsV RX9 66 RX3 yX3_keepNoted (Cond.code yX3_keepNoted cX3_keepNoted 1 (none) :: gw)) := gdV gw_415 gw_416 gw_417 gw_71 gw_418
theorem hV_X3_keepNoted : yX3_keepNoted.cls = RX3 ∧ yX3_keepNoted.cls ≠ "java/lang/invoke/MethodHandle" ∧ yX3_keepNoted.cls ≠ "java/lang/invoke/VarHandle" ∧ (parseMethodDescriptor yX3_keepNoted.desc).map (fun d => d.parameters.length) = some 0 := ⟨rfl, by decide +kernel, by decide +kernel, by decide +kernel⟩
set_option maxHeartbeats 2000000 in
set_option maxRecDepth 20000 in
theorem k_X9_addHedge (l : Launch) (hfl : l.stackTraces = false) (D : va_G) (aT : Nat → ClassId) (x0 : Nat) (v0 : Nat) (h0 : Nat) (t0 : Nat) (p0 : Nat) (o0 : Nat) (a0 : Nat) (a1 : Nat) (a5 : Nat) (a10 : Nat) (a2 : Nat) (a3 : Nat) (a4 : Nat) (a6 : Nat) (a7 : Nat) (a8 : Nat) (a9 : Nat) (h1 : Nat) (f : Nat → Option Nat) (b0 : Nat) (b1 : Nat) (b5 : Nat) (b10 : Nat) (b2 : Nat) (b3 : Nat) (b4 : Nat) (b6 : Nat) (b7 : Nat) (b8 : Nat) (b9 : Nat) (x : Int32) (y : Int32) (z : Int32) (hf : f 0 = some b0) : CxG l yX9_addHedge cX9_addHedge 5 (some (.int)) 7 1 6 123 D aT [.ref x0, .int x, .int y, .int z] [(x0, .inr (12, [.ref a0, .ref v0, .ref h0, .ref t0, .ref p0, .ref o0, .int (nI 0), .int (-1), .int (-1)])), (a0, .inr (10, [.ref a1, .ref a5, .ref a10, .int (nI 0), .int (nI 0), .int (nI 0), .int (nI 0), .int (nI 0), .int (nI 0), .int (nI 0), .int (nI 0)])), (a1, .inr (6, [.ref a2, .ref a3, .ref a4, .int (nI 0)])), (a2, .inl (aT 0, 6, .inl (fun _ => nI 0))), (a3, .inl (aT 0, 6, .inl (fun _ => nI 0))), (a4, .inl (aT 0, 6, .inl (fun _ => nI 0))), (a5, .inr (8, [.ref a6, .ref a7, .ref a8, .ref a9, .int (nI 0), .int (nI 0)])), (a6, .inl (aT 0, 12, .inl (fun _ => nI 0))), (a7, .inl (aT 0, 12, .inl (fun _ => nI 0))), (a8, .inl (aT 0, 12, .inl (fun _ => nI 0))), (a9, .inl (aT 0, 12, .inl (fun _ => nI 0))), (a10, .inl (aT 0, 4, .inl (fun _ => nI 0))), (h0, .inr (7, [.ref h1, .int (nI 0)])), (h1, .inl (aT 5, 9, .inr (.inr (.inr (.inr f))))), (b0, .inr (10, [.ref b1, .ref b5, .ref b10, .int (nI 0), .int (nI 0), .int (nI 0), .int (nI 0), .int (nI 0), .int (nI 0), .int (nI 0), .int (nI 0)])), (b1, .inr (6, [.ref b2, .ref b3, .ref b4, .int (nI 0)])), (b2, .inl (aT 0, 6, .inl (fun _ => nI 0))), (b3, .inl (aT 0, 6, .inl (fun _ => nI 0))), (b4, .inl (aT 0, 6, .inl (fun _ => nI 0))), (b5, .inr (8, [.ref b6, .ref b7, .ref b8, .ref b9, .int (nI 0), .int (nI 0)])), (b6, .inl (aT 0, 12, .inl (fun _ => nI 0))), (b7, .inl (aT 0, 12, .inl (fun _ => nI 0))), (b8, .inl (aT 0, 12, .inl (fun _ => nI 0))), (b9, .inl (aT 0, 12, .inl (fun _ => nI 0))), (b10, .inl (aT 0, 4, .inl (fun _ => nI 0)))] (qI D aT (fun r W1 => (rgB 1 99 x && rgB 0 9 y && rgB 0 9 z) = true ∧ r = nI 0)) (fun E => (rgB 1 99 x && rgB 0 9 y && rgB 0 9 z) = false ∧ E = "java/lang/IllegalArgumentException") := by
  refine CxG.of RX9 (by decide +kernel) rfl (Nat.le_of_ble_eq_true rfl) ?_
  intro p e s m below meth c A ls C hml hl hA hr hlocks hex hnm hZ hW
  have hl : lv_has ls 5 [(0, .ref x0), (1, .int x), (2, .int y), (3, .int z)] := hl
  have hx := C.1
  have hb := C.2.1
  refine lv_aload_n hx hb dX9_addHedge_0 rfl (lv_at hl 0 rfl) ?_
  refine cx_get C hW 0 2 rfl rfl (by decide) inX9 gw_348 rfl rfl dX9_addHedge_1 ?_
  refine lv_aload_n hx hb dX9_addHedge_4 rfl (lv_at hl 0 rfl) ?_
  refine cx_get C hW 0 0 rfl rfl (by decide) inX9 gw_346 rfl rfl dX9_addHedge_5 ?_
  refine cx_callv (Wr := [(x0, .inr (12, [.ref a0, .ref v0, .ref h0, .ref t0, .ref p0, .ref o0, .int (nI 0), .int (-1), .int (-1)]))]) (cx_runV C hml hl.1 hZ hW hA (As := [.ref a0]) (rest := []) (k_X3_note l hfl D aT h0 h1 f a0 a1 a2 a3 a4 a5 a6 a7 a8 a9 a10 (fun _ => nI 0) (fun _ => nI 0) (fun _ => nI 0) (fun _ => nI 0) (fun _ => nI 0) (fun _ => nI 0) (fun _ => nI 0) (fun _ => nI 0) (nI 0) (nI 0) (nI 0) (nI 0) (nI 0) (nI 0) (nI 0) (nI 0) (nI 0) (nI 0) (nI 0) b0 b1 b2 b3 b4 b5 b6 b7 b8 b9 b10 (fun _ => nI 0) (fun _ => nI 0) (fun _ => nI 0) (fun _ => nI 0) (fun _ => nI 0) (fun _ => nI 0) (fun _ => nI 0) (fun _ => nI 0) (nI 0) (nI 0) (nI 0) (nI 0) (nI 0) (nI 0) (nI 0) (nI 0) (nI 0) (nI 0) (nI 0) hf) gV_X9_X3_note_58 hV_X3_note rfl ⟨Nat.le_of_ble_eq_true rfl, Nat.le_of_ble_eq_true rfl⟩ ⟨Nat.le_of_ble_eq_true rfl, Nat.le_of_ble_eq_true rfl⟩ [12, 13, 14, 15, 16, 17, 18, 19, 20, 21, 22, 23, 24, 1, 2, 3, 4, 5, 6, 7, 8, 9, 10, 11] rfl (by decide) 12 7 rfl rfl rfl rfl (Nat.le_of_ble_eq_true rfl) dX9_addHedge_8) hW hA [12, 13, 14, 15, 16, 17, 18, 19, 20, 21, 22, 23, 24, 1, 2, 3, 4, 5, 6, 7, 8, 9, 10, 11] [0] rfl rfl (by decide) (by decide) (fun _ _ _ _ _ h9 => h9.elim) (fun W_8 H locs hq hW => ?_)
  subst hq
  have hW : CxB D [(x0, .inr (12, [.ref a0, .ref v0, .ref h0, .ref t0, .ref p0, .ref o0, .int (nI 0), .int (-1), .int (-1)])), (h0, .inr (7, [.ref h1, .int (nI 0)])), (h1, .inl (aT 5, 9, .inr (.inr (.inr (.inr f))))), (a0, .inr (10, [.ref a1, .ref a5, .ref a10, .int (nI 0), .int (nI 0), .int (nI 0), .int (nI 0), .int (nI 0), .int (nI 0), .int (nI 0), .int (nI 0)])), (a10, .inl (aT 0, 4, .inl (fun _ => nI 0))), (b0, .inr (10, [.ref b1, .ref b5, .ref b10, .int (nI 0), .int (nI 0), .int (nI 0), .int (nI 0), .int (nI 0), .int (nI 0), .int (nI 0), .int (nI 0)])), (b10, .inl (aT 0, 4, .inl (va_cpy (fun _ => nI 0) (fun _ => nI 0) 0 0 4))), (a1, .inr (6, [.ref a2, .ref a3, .ref a4, .int (nI 0)])), (a2, .inl (aT 0, 6, .inl (fun _ => nI 0))), (a3, .inl (aT 0, 6, .inl (fun _ => nI 0))), (a4, .inl (aT 0, 6, .inl (fun _ => nI 0))), (b1, .inr (6, [.ref b2, .ref b3, .ref b4, .int (nI 0)])), (b2, .inl (aT 0, 6, .inl (va_cpy (fun _ => nI 0) (fun _ => nI 0) 0 0 6))), (b3, .inl (aT 0, 6, .inl (va_cpy (fun _ => nI 0) (fun _ => nI 0) 0 0 6))), (b4, .inl (aT 0, 6, .inl (va_cpy (fun _ => nI 0) (fun _ => nI 0) 0 0 6))), (a5, .inr (8, [.ref a6, .ref a7, .ref a8, .ref a9, .int (nI 0), .int (nI 0)])), (a6, .inl (aT 0, 12, .inl (fun _ => nI 0))), (a7, .inl (aT 0, 12, .inl (fun _ => nI 0))), (a8, .inl (aT 0, 12, .inl (fun _ => nI 0))), (a9, .inl (aT 0, 12, .inl (fun _ => nI 0))), (b5, .inr (8, [.ref b6, .ref b7, .ref b8, .ref b9, .int (nI 0), .int (nI 0)])), (b6, .inl (aT 0, 12, .inl (va_cpy (fun _ => nI 0) (fun _ => nI 0) 0 0 12))), (b7, .inl (aT 0, 12, .inl (va_cpy (fun _ => nI 0) (fun _ => nI 0) 0 0 12))), (b8, .inl (aT 0, 12, .inl (va_cpy (fun _ => nI 0) (fun _ => nI 0) 0 0 12))), (b9, .inl (aT 0, 12, .inl (va_cpy (fun _ => nI 0) (fun _ => nI 0) 0 0 12)))] A s.heap H _ := hW
  refine lv_aload_n hx hb dX9_addHedge_11 rfl (lv_at hl 0 rfl) ?_
  refine cx_get C hW 0 0 rfl rfl (by decide) inX9 gw_346 rfl rfl dX9_addHedge_12 ?_
  refine lv_iload_n hx hb dX9_addHedge_15 rfl (lv_at hl 1 rfl) ?_
  refine lv_iload_n hx hb dX9_addHedge_16 rfl (lv_at hl 2 rfl) ?_
  refine lv_iload_n hx hb dX9_addHedge_17 rfl (lv_at hl 3 rfl) ?_
  refine cx_calli (Wr := [(x0, .inr (12, [.ref a0, .ref v0, .ref h0, .ref t0, .ref p0, .ref o0, .int (nI 0), .int (-1), .int (-1)])), (h0, .inr (7, [.ref h1, .int (nI 0)])), (h1, .inl (aT 5, 9, .inr (.inr (.inr (.inr f))))), (b0, .inr (10, [.ref b1, .ref b5, .ref b10, .int (nI 0), .int (nI 0), .int (nI 0), .int (nI 0), .int (nI 0), .int (nI 0), .int (nI 0), .int (nI 0)])), (b10, .inl (aT 0, 4, .inl (va_cpy (fun _ => nI 0) (fun _ => nI 0) 0 0 4))), (b1, .inr (6, [.ref b2, .ref b3, .ref b4, .int (nI 0)])), (b2, .inl (aT 0, 6, .inl (va_cpy (fun _ => nI 0) (fun _ => nI 0) 0 0 6))), (b3, .inl (aT 0, 6, .inl (va_cpy (fun _ => nI 0) (fun _ => nI 0) 0 0 6))), (b4, .inl (aT 0, 6, .inl (va_cpy (fun _ => nI 0) (fun _ => nI 0) 0 0 6))), (b5, .inr (8, [.ref b6, .ref b7, .ref b8, .ref b9, .int (nI 0), .int (nI 0)])), (b6, .inl (aT 0, 12, .inl (va_cpy (fun _ => nI 0) (fun _ => nI 0) 0 0 12))), (b7, .inl (aT 0, 12, .inl (va_cpy (fun _ => nI 0) (fun _ => nI 0) 0 0 12))), (b8, .inl (aT 0, 12, .inl (va_cpy (fun _ => nI 0) (fun _ => nI 0) 0 0 12))), (b9, .inl (aT 0, 12, .inl (va_cpy (fun _ => nI 0) (fun _ => nI 0) 0 0 12)))]) (cx_runV C hml hl.1 hZ hW hA (As := [.int x, .int y, .int z]) (rest := []) (k_X7_newHedge l hfl D aT a0 a1 a2 a3 a4 a5 a6 a7 a8 a9 a10 x y z) gV_X9_X7_newHedge_62 hV_X7_newHedge rfl ⟨Nat.le_of_ble_eq_true rfl, Nat.le_of_ble_eq_true rfl⟩ ⟨Nat.le_of_ble_eq_true rfl, Nat.le_of_ble_eq_true rfl⟩ [3, 7, 8, 9, 10, 15, 16, 17, 18, 19, 4] rfl (by decide) 3 10 rfl rfl rfl rfl (Nat.le_of_ble_eq_true rfl) dX9_addHedge_18) hW hA [3, 7, 8, 9, 10, 15, 16, 17, 18, 19, 4] [0, 1, 2, 5, 6, 11, 12, 13, 14, 20, 21, 22, 23, 24] rfl rfl (by decide) (by decide) (fun E ce q9 H9 locs9 hE hS9 h7 h8 h9 => cx_out hex hlocks hS9 h7 h8 h9 ⟨Nat.le_of_ble_eq_true rfl, Nat.le_of_ble_eq_true rfl⟩ (hE)) (fun r_18 W_18 H locs hq hW => ?_)
  obtain ⟨hok, rfl⟩ := hq
  have hW := cx_left hW
  have hW : CxB D [(x0, .inr (12, [.ref a0, .ref v0, .ref h0, .ref t0, .ref p0, .ref o0, .int (nI 0), .int (-1), .int (-1)])), (h0, .inr (7, [.ref h1, .int (nI 0)])), (h1, .inl (aT 5, 9, .inr (.inr (.inr (.inr f))))), (b0, .inr (10, [.ref b1, .ref b5, .ref b10, .int (nI 0), .int (nI 0), .int (nI 0), .int (nI 0), .int (nI 0), .int (nI 0), .int (nI 0), .int (nI 0)])), (b10, .inl (aT 0, 4, .inl (va_cpy (fun _ => nI 0) (fun _ => nI 0) 0 0 4))), (b1, .inr (6, [.ref b2, .ref b3, .ref b4, .int (nI 0)])), (b2, .inl (aT 0, 6, .inl (va_cpy (fun _ => nI 0) (fun _ => nI 0) 0 0 6))), (b3, .inl (aT 0, 6, .inl (va_cpy (fun _ => nI 0) (fun _ => nI 0) 0 0 6))), (b4, .inl (aT 0, 6, .inl (va_cpy (fun _ => nI 0) (fun _ => nI 0) 0 0 6))), (b5, .inr (8, [.ref b6, .ref b7, .ref b8, .ref b9, .int (nI 0), .int (nI 0)])), (b6, .inl (aT 0, 12, .inl (va_cpy (fun _ => nI 0) (fun _ => nI 0) 0 0 12))), (b7, .inl (aT 0, 12, .inl (va_cpy (fun _ => nI 0) (fun _ => nI 0) 0 0 12))), (b8, .inl (aT 0, 12, .inl (va_cpy (fun _ => nI 0) (fun _ => nI 0) 0 0 12))), (b9, .inl (aT 0, 12, .inl (va_cpy (fun _ => nI 0) (fun _ => nI 0) 0 0 12)))] A s.heap H _ := hW
  refine lv_istore (lv' := [(4, .int (nI 0)), (0, .ref x0), (1, .int x), (2, .int y), (3, .int z)]) hx hb dX9_addHedge_21 hl (by decide) rfl (fun ls hl => ?_)
  refine lv_aload_n hx hb dX9_addHedge_23 rfl (lv_at hl 1 rfl) ?_
  refine cx_get C hW 0 2 rfl rfl (by decide) inX9 gw_348 rfl rfl dX9_addHedge_24 ?_
  refine cx_callv (Wr := [(x0, .inr (12, [.ref a0, .ref v0, .ref h0, .ref t0, .ref p0, .ref o0, .int (nI 0), .int (-1), .int (-1)])), (b0, .inr (10, [.ref b1, .ref b5, .ref b10, .int (nI 0), .int (nI 0), .int (nI 0), .int (nI 0), .int (nI 0), .int (nI 0), .int (nI 0), .int (nI 0)])), (b10, .inl (aT 0, 4, .inl (va_cpy (fun _ => nI 0) (fun _ => nI 0) 0 0 4))), (b1, .inr (6, [.ref b2, .ref b3, .ref b4, .int (nI 0)])), (b2, .inl (aT 0, 6, .inl (va_cpy (fun _ => nI 0) (fun _ => nI 0) 0 0 6))), (b3, .inl (aT 0, 6, .inl (va_cpy (fun _ => nI 0) (fun _ => nI 0) 0 0 6))), (b4, .inl (aT 0, 6, .inl (va_cpy (fun _ => nI 0) (fun _ => nI 0) 0 0 6))), (b5, .inr (8, [.ref b6, .ref b7, .ref b8, .ref b9, .int (nI 0), .int (nI 0)])), (b6, .inl (aT 0, 12, .inl (va_cpy (fun _ => nI 0) (fun _ => nI 0) 0 0 12))), (b7, .inl (aT 0, 12, .inl (va_cpy (fun _ => nI 0) (fun _ => nI 0) 0 0 12))), (b8, .inl (aT 0, 12, .inl (va_cpy (fun _ => nI 0) (fun _ => nI 0) 0 0 12))), (b9, .inl (aT 0, 12, .inl (va_cpy (fun _ => nI 0) (fun _ => nI 0) 0 0 12)))]) (cx_runV C hml hl.1 hZ hW hA (As := []) (rest := []) (k_X3_keepNoted l hfl D aT h0 h1 f) gV_X9_X3_keepNoted_66 hV_X3_keepNoted rfl ⟨Nat.le_of_ble_eq_true rfl, Nat.le_of_ble_eq_true rfl⟩ ⟨Nat.le_of_ble_eq_true rfl, Nat.le_of_ble_eq_true rfl⟩ [1, 2] rfl (by decide) 1 7 rfl rfl rfl rfl (Nat.le_of_ble_eq_true rfl) dX9_addHedge_27) hW hA [1, 2] [0, 3, 4, 5, 6, 7, 8, 9, 10, 11, 12, 13] rfl rfl (by decide) (by decide) (fun _ _ _ _ _ h9 => h9.elim) (fun W_27 H locs hq hW => ?_)
  subst hq
  have hW : CxB D [(x0, .inr (12, [.ref a0, .ref v0, .ref h0, .ref t0, .ref p0, .ref o0, .int (nI 0), .int (-1), .int (-1)])), (b0, .inr (10, [.ref b1, .ref b5, .ref b10, .int (nI 0), .int (nI 0), .int (nI 0), .int (nI 0), .int (nI 0), .int (nI 0), .int (nI 0), .int (nI 0)])), (b10, .inl (aT 0, 4, .inl (va_cpy (fun _ => nI 0) (fun _ => nI 0) 0 0 4))), (b1, .inr (6, [.ref b2, .ref b3, .ref b4, .int (nI 0)])), (b2, .inl (aT 0, 6, .inl (va_cpy (fun _ => nI 0) (fun _ => nI 0) 0 0 6))), (b3, .inl (aT 0, 6, .inl (va_cpy (fun _ => nI 0) (fun _ => nI 0) 0 0 6))), (b4, .inl (aT 0, 6, .inl (va_cpy (fun _ => nI 0) (fun _ => nI 0) 0 0 6))), (b5, .inr (8, [.ref b6, .ref b7, .ref b8, .ref b9, .int (nI 0), .int (nI 0)])), (b6, .inl (aT 0, 12, .inl (va_cpy (fun _ => nI 0) (fun _ => nI 0) 0 0 12))), (b7, .inl (aT 0, 12, .inl (va_cpy (fun _ => nI 0) (fun _ => nI 0) 0 0 12))), (b8, .inl (aT 0, 12, .inl (va_cpy (fun _ => nI 0) (fun _ => nI 0) 0 0 12))), (b9, .inl (aT 0, 12, .inl (va_cpy (fun _ => nI 0) (fun _ => nI 0) 0 0 12))), (h0, .inr (7, [.ref h1, .int (nI 1)])), (h1, .inl (aT 5, 9, .inr (.inr (.inr (.inr f)))))] A s.heap H _ := hW
  refine lv_iload hx hb dX9_addHedge_30 (lv_at hl 0 rfl) ?_
  exact cx_iret C hr hlocks rfl hW ⟨Nat.le_of_ble_eq_true rfl, Nat.le_of_ble_eq_true rfl⟩ (⟨hok, rfl⟩) dX9_addHedge_32
theorem dX9_propose_0 : decode cX9_propose 0 = .ok (.aload_n 0, 1) := by decide +kernel
theorem dX9_propose_1 : decode cX9_propose 1 = .ok (.getfield 22, 3) := by decide +kernel
theorem dX9_propose_4 : decode cX9_propose 4 = .ok (.aload_n 0, 1) := by decide +kernel
theorem dX9_propose_5 : decode cX9_propose 5 = .ok (.getfield 10, 3) := by decide +kernel
theorem dX9_propose_8 : decode cX9_propose 8 = .ok (.invokevirtual 58, 3) := by decide +kernel
theorem dX9_propose_11 : decode cX9_propose 11 = .ok (.aload_n 0, 1) := by decide +kernel
theorem dX9_propose_12 : decode cX9_propose 12 = .ok (.getfield 10, 3) := by decide +kernel
theorem dX9_propose_15 : decode cX9_propose 15 = .ok (.iload_n 1, 1) := by decide +kernel
theorem dX9_propose_16 : decode cX9_propose 16 = .ok (.iload_n 2, 1) := by decide +kernel
theorem dX9_propose_17 : decode cX9_propose 17 = .ok (.invokevirtual 69, 3) := by decide +kernel
theorem dX9_propose_20 : decode cX9_propose 20 = .ok (.istore_n 3, 1) := by decide +kernel
theorem dX9_propose_21 : decode cX9_propose 21 = .ok (.aload_n 0, 1) := by decide +kernel
theorem dX9_propose_22 : decode cX9_propose 22 = .ok (.getfield 22, 3) := by decide +kernel
theorem dX9_propose_25 : decode cX9_propose 25 = .ok (.invokevirtual 66, 3) := by decide +kernel
theorem dX9_propose_28 : decode cX9_propose 28 = .ok (.iload_n 3, 1) := by decide +kernel
theorem dX9_propose_29 : decode cX9_propose 29 = .ok (.ireturn, 1) := by decide +kernel
theorem gV_X9_X7_newMain_69 : GoodIn gw (wsV RX9 69 RX7 yX7_newMain (Cond.code yX7_newMain cX7_newMain 3 (some .int) :: gw)) := gdV gw_662 gw_663 gw_664 gw_68 gw_665
theorem hV_X7_newMain : yX7_newMain.cls = RX7 ∧ yX7_newMain.cls ≠ "java/lang/invoke/MethodHandle" ∧ yX7_newMain.cls ≠ "java/lang/invoke/VarHandle" ∧ (parseMethodDescriptor yX7_newMain.desc).map (fun d => d.parameters.length) = some 2 := ⟨rfl, by decide +kernel, by decide +kernel, by decide +kernel⟩
set_option maxHeartbeats 2000000 in
set_option maxRecDepth 20000 in
theorem k_X9_propose (l : Launch) (hfl : l.stackTraces = false) (D : va_G) (aT : Nat → ClassId) (x0 : Nat) (v0 : Nat) (h0 : Nat) (t0 : Nat) (p0 : Nat) (o0 : Nat) (a0 : Nat) (a1 : Nat) (a5 : Nat) (a10 : Nat) (a2 : Nat) (a3 : Nat) (a4 : Nat) (a6 : Nat) (a7 : Nat) (a8 : Nat) (a9 : Nat) (h1 : Nat) (f : Nat → Option Nat) (b0 : Nat) (b1 : Nat) (b5 : Nat) (b10 : Nat) (b2 : Nat) (b3 : Nat) (b4 : Nat) (b6 : Nat) (b7 : Nat) (b8 : Nat) (b9 : Nat) (x : Int32) (y : Int32) (hf : f 0 = some b0) : CxG l yX9_propose cX9_propose 4 (some (.int)) 8 1 6 133 D aT [.ref x0, .int x, .int y] [(x0, .inr (12, [.ref a0, .ref v0, .ref h0, .ref t0, .ref p0, .ref o0, .int (nI 0), .int (-1), .int (-1)])), (a0, .inr (10, [.ref a1, .ref a5, .ref a10, .int (nI 0), .int (nI 0), .int (nI 0), .int (nI 0), .int (nI 0), .int (nI 0), .int (nI 0), .int (nI 0)])), (a1, .inr (6, [.ref a2, .ref a3, .ref a4, .int (nI 0)])), (a2, .inl (aT 0, 6, .inl (fun _ => nI 0))), (a3, .inl (aT 0, 6, .inl (fun _ => nI 0))), (a4, .inl (aT 0, 6, .inl (fun _ => nI 0))), (a5, .inr (8, [.ref a6, .ref a7, .ref a8, .ref a9, .int (nI 0), .int (nI 0)])), (a6, .inl (aT 0, 12, .inl (fun _ => nI 0))), (a7, .inl (aT 0, 12, .inl (fun _ => nI 0))), (a8, .inl (aT 0, 12, .inl (fun _ => nI 0))), (a9, .inl (aT 0, 12, .inl (fun _ => nI 0))), (a10, .inl (aT 0, 4, .inl (fun _ => nI 0))), (h0, .inr (7, [.ref h1, .int (nI 0)])), (h1, .inl (aT 5, 9, .inr (.inr (.inr (.inr f))))), (b0, .inr (10, [.ref b1, .ref b5, .ref b10, .int (nI 0), .int (nI 0), .int (nI 0), .int (nI 0), .int (nI 0), .int (nI 0), .int (nI 0), .int (nI 0)])), (b1, .inr (6, [.ref b2, .ref b3, .ref b4, .int (nI 0)])), (b2, .inl (aT 0, 6, .inl (fun _ => nI 0))), (b3, .inl (aT 0, 6, .inl (fun _ => nI 0))), (b4, .inl (aT 0, 6, .inl (fun _ => nI 0))), (b5, .inr (8, [.ref b6, .ref b7, .ref b8, .ref b9, .int (nI 0), .int (nI 0)])), (b6, .inl (aT 0, 12, .inl (fun _ => nI 0))), (b7, .inl (aT 0, 12, .inl (fun _ => nI 0))), (b8, .inl (aT 0, 12, .inl (fun _ => nI 0))), (b9, .inl (aT 0, 12, .inl (fun _ => nI 0))), (b10, .inl (aT 0, 4, .inl (fun _ => nI 0)))] (qI D aT (fun r W1 => (rgB 0 9 x && rgB 1 20 y) = true ∧ r = nI 0)) (fun E => (rgB 0 9 x && rgB 1 20 y) = false ∧ E = "java/lang/IllegalArgumentException") := by
  refine CxG.of RX9 (by decide +kernel) rfl (Nat.le_of_ble_eq_true rfl) ?_
  intro p e s m below meth c A ls C hml hl hA hr hlocks hex hnm hZ hW
  have hl : lv_has ls 4 [(0, .ref x0), (1, .int x), (2, .int y)] := hl
  have hx := C.1
  have hb := C.2.1
  refine lv_aload_n hx hb dX9_propose_0 rfl (lv_at hl 0 rfl) ?_
  refine cx_get C hW 0 2 rfl rfl (by decide) inX9 gw_348 rfl rfl dX9_propose_1 ?_
  refine lv_aload_n hx hb dX9_propose_4 rfl (lv_at hl 0 rfl) ?_
  refine cx_get C hW 0 0 rfl rfl (by decide) inX9 gw_346 rfl rfl dX9_propose_5 ?_
  refine cx_callv (Wr := [(x0, .inr (12, [.ref a0, .ref v0, .ref h0, .ref t0, .ref p0, .ref o0, .int (nI 0), .int (-1), .int (-1)]))]) (cx_runV C hml hl.1 hZ hW hA (As := [.ref a0]) (rest := []) (k_X3_note l hfl D aT h0 h1 f a0 a1 a2 a3 a4 a5 a6 a7 a8 a9 a10 (fun _ => nI 0) (fun _ => nI 0) (fun _ => nI 0) (fun _ => nI 0) (fun _ => nI 0) (fun _ => nI 0) (fun _ => nI 0) (fun _ => nI 0) (nI 0) (nI 0) (nI 0) (nI 0) (nI 0) (nI 0) (nI 0) (nI 0) (nI 0) (nI 0) (nI 0) b0 b1 b2 b3 b4 b5 b6 b7 b8 b9 b10 (fun _ => nI 0) (fun _ => nI 0) (fun _ => nI 0) (fun _ => nI 0) (fun _ => nI 0) (fun _ => nI 0) (fun _ => nI 0) (fun _ => nI 0) (nI 0) (nI 0) (nI 0) (nI 0) (nI 0) (nI 0) (nI 0) (nI 0) (nI 0) (nI 0) (nI 0) hf) gV_X9_X3_note_58 hV_X3_note rfl ⟨Nat.le_of_ble_eq_true rfl, Nat.le_of_ble_eq_true rfl⟩ ⟨Nat.le_of_ble_eq_true rfl, Nat.le_of_ble_eq_true rfl⟩ [12, 13, 14, 15, 16, 17, 18, 19, 20, 21, 22, 23, 24, 1, 2, 3, 4, 5, 6, 7, 8, 9, 10, 11] rfl (by decide) 12 7 rfl rfl rfl rfl (Nat.le_of_ble_eq_true rfl) dX9_propose_8) hW hA [12, 13, 14, 15, 16, 17, 18, 19, 20, 21, 22, 23, 24, 1, 2, 3, 4, 5, 6, 7, 8, 9, 10, 11] [0] rfl rfl (by decide) (by decide) (fun _ _ _ _ _ h9 => h9.elim) (fun W_8 H locs hq hW => ?_)
  subst hq
  have hW : CxB D [(x0, .inr (12, [.ref a0, .ref v0, .ref h0, .ref t0, .ref p0, .ref o0, .int (nI 0), .int (-1), .int (-1)])), (h0, .inr (7, [.ref h1, .int (nI 0)])), (h1, .inl (aT 5, 9, .inr (.inr (.inr (.inr f))))), (a0, .inr (10, [.ref a1, .ref a5, .ref a10, .int (nI 0), .int (nI 0), .int (nI 0), .int (nI 0), .int (nI 0), .int (nI 0), .int (nI 0), .int (nI 0)])), (a10, .inl (aT 0, 4, .inl (fun _ => nI 0))), (b0, .inr (10, [.ref b1, .ref b5, .ref b10, .int (nI 0), .int (nI 0), .int (nI 0), .int (nI 0), .int (nI 0), .int (nI 0), .int (nI 0), .int (nI 0)])), (b10, .inl (aT 0, 4, .inl (va_cpy (fun _ => nI 0) (fun _ => nI 0) 0 0 4))), (a1, .inr (6, [.ref a2, .ref a3, .ref a4, .int (nI 0)])), (a2, .inl (aT 0, 6, .inl (fun _ => nI 0))), (a3, .inl (aT 0, 6, .inl (fun _ => nI 0))), (a4, .inl (aT 0, 6, .inl (fun _ => nI 0))), (b1, .inr (6, [.ref b2, .ref b3, .ref b4, .int (nI 0)])), (b2, .inl (aT 0, 6, .inl (va_cpy (fun _ => nI 0) (fun _ => nI 0) 0 0 6))), (b3, .inl (aT 0, 6, .inl (va_cpy (fun _ => nI 0) (fun _ => nI 0) 0 0 6))), (b4, .inl (aT 0, 6, .inl (va_cpy (fun _ => nI 0) (fun _ => nI 0) 0 0 6))), (a5, .inr (8, [.ref a6, .ref a7, .ref a8, .ref a9, .int (nI 0), .int (nI 0)])), (a6, .inl (aT 0, 12, .inl (fun _ => nI 0))), (a7, .inl (aT 0, 12, .inl (fun _ => nI 0))), (a8, .inl (aT 0, 12, .inl (fun _ => nI 0))), (a9, .inl (aT 0, 12, .inl (fun _ => nI 0))), (b5, .inr (8, [.ref b6, .ref b7, .ref b8, .ref b9, .int (nI 0), .int (nI 0)])), (b6, .inl (aT 0, 12, .inl (va_cpy (fun _ => nI 0) (fun _ => nI 0) 0 0 12))), (b7, .inl (aT 0, 12, .inl (va_cpy (fun _ => nI 0) (fun _ => nI 0) 0 0 12))), (b8, .inl (aT 0, 12, .inl (va_cpy (fun _ => nI 0) (fun _ => nI 0) 0 0 12))), (b9, .inl (aT 0, 12, .inl (va_cpy (fun _ => nI 0) (fun _ => nI 0) 0 0 12)))] A s.heap H _ := hW
  refine lv_aload_n hx hb dX9_propose_11 rfl (lv_at hl 0 rfl) ?_
  refine cx_get C hW 0 0 rfl rfl (by decide) inX9 gw_346 rfl rfl dX9_propose_12 ?_
  refine lv_iload_n hx hb dX9_propose_15 rfl (lv_at hl 1 rfl) ?_
  refine lv_iload_n hx hb dX9_propose_16 rfl (lv_at hl 2 rfl) ?_
  refine cx_calli (Wr := [(x0, .inr (12, [.ref a0, .ref v0, .ref h0, .ref t0, .ref p0, .ref o0, .int (nI 0), .int (-1), .int (-1)])), (h0, .inr (7, [.ref h1, .int (nI 0)])), (h1, .inl (aT 5, 9, .inr (.inr (.inr (.inr f))))), (b0, .inr (10, [.ref b1, .ref b5, .ref b10, .int (nI 0), .int (nI 0), .int (nI 0), .int (nI 0), .int (nI 0), .int (nI 0), .int (nI 0), .int (nI 0)])), (b10, .inl (aT 0, 4, .inl (va_cpy (fun _ => nI 0) (fun _ => nI 0) 0 0 4))), (b1, .inr (6, [.ref b2, .ref b3, .ref b4, .int (nI 0)])), (b2, .inl (aT 0, 6, .inl (va_cpy (fun _ => nI 0) (fun _ => nI 0) 0 0 6))), (b3, .inl (aT 0, 6, .inl (va_cpy (fun _ => nI 0) (fun _ => nI 0) 0 0 6))), (b4, .inl (aT 0, 6, .inl (va_cpy (fun _ => nI 0) (fun _ => nI 0) 0 0 6))), (b5, .inr (8, [.ref b6, .ref b7, .ref b8, .ref b9, .int (nI 0), .int (nI 0)])), (b6, .inl (aT 0, 12, .inl (va_cpy (fun _ => nI 0) (fun _ => nI 0) 0 0 12))), (b7, .inl (aT 0, 12, .inl (va_cpy (fun _ => nI 0) (fun _ => nI 0) 0 0 12))), (b8, .inl (aT 0, 12, .inl (va_cpy (fun _ => nI 0) (fun _ => nI 0) 0 0 12))), (b9, .inl (aT 0, 12, .inl (va_cpy (fun _ => nI 0) (fun _ => nI 0) 0 0 12)))]) (cx_runV C hml hl.1 hZ hW hA (As := [.int x, .int y]) (rest := []) (k_X7_newMain l hfl D aT a0 a1 a2 a3 a4 a5 a6 a7 a8 a9 a10 x y) gV_X9_X7_newMain_69 hV_X7_newMain rfl ⟨Nat.le_of_ble_eq_true rfl, Nat.le_of_ble_eq_true rfl⟩ ⟨Nat.le_of_ble_eq_true rfl, Nat.le_of_ble_eq_true rfl⟩ [3, 7, 8, 9, 10, 15, 16, 17, 18, 19, 4] rfl (by decide) 3 10 rfl rfl rfl rfl (Nat.le_of_ble_eq_true rfl) dX9_propose_17) hW hA [3, 7, 8, 9, 10, 15, 16, 17, 18, 19, 4] [0, 1, 2, 5, 6, 11, 12, 13, 14, 20, 21, 22, 23, 24] rfl rfl (by decide) (by decide) (fun E ce q9 H9 locs9 hE hS9 h7 h8 h9 => cx_out hex hlocks hS9 h7 h8 h9 ⟨Nat.le_of_ble_eq_true rfl, Nat.le_of_ble_eq_true rfl⟩ (hE)) (fun r_17 W_17 H locs hq hW => ?_)
  obtain ⟨hok, rfl⟩ := hq
  have hW := cx_left hW
  have hW : CxB D [(x0, .inr (12, [.ref a0, .ref v0, .ref h0, .ref t0, .ref p0, .ref o0, .int (nI 0), .int (-1), .int (-1)])), (h0, .inr (7, [.ref h1, .int (nI 0)])), (h1, .inl (aT 5, 9, .inr (.inr (.inr (.inr f))))), (b0, .inr (10, [.ref b1, .ref b5, .ref b10, .int (nI 0), .int (nI 0), .int (nI 0), .int (nI 0), .int (nI 0), .int (nI 0), .int (nI 0), .int (nI 0)])), (b10, .inl (aT 0, 4, .inl (va_cpy (fun _ => nI 0) (fun _ => nI 0) 0 0 4))), (b1, .inr (6, [.ref b2, .ref b3, .ref b4, .int (nI 0)])), (b2, .inl (aT 0, 6, .inl (va_cpy (fun _ => nI 0) (fun _ => nI 0) 0 0 6))), (b3, .inl (aT 0, 6, .inl (va_cpy (fun _ => nI 0) (fun _ => nI 0) 0 0 6))), (b4, .inl (aT 0, 6, .inl (va_cpy (fun _ => nI 0) (fun _ => nI 0) 0 0 6))), (b5, .inr (8, [.ref b6, .ref b7, .ref b8, .ref b9, .int (nI 0), .int (nI 0)])), (b6, .inl (aT 0, 12, .inl (va_cpy (fun _ => nI 0) (fun _ => nI 0) 0 0 12))), (b7, .inl (aT 0, 12, .inl (va_cpy (fun _ => nI 0) (fun _ => nI 0) 0 0 12))), (b8, .inl (aT 0, 12, .inl (va_cpy (fun _ => nI 0) (fun _ => nI 0) 0 0 12))), (b9, .inl (aT 0, 12, .inl (va_cpy (fun _ => nI 0) (fun _ => nI 0) 0 0 12)))] A s.heap H _ := hW
  refine lv_istore_n (lv' := [(3, .int (nI 0)), (0, .ref x0), (1, .int x), (2, .int y)]) hx hb dX9_propose_20 rfl hl (by decide) rfl (fun ls hl => ?_)
  refine lv_aload_n hx hb dX9_propose_21 rfl (lv_at hl 1 rfl) ?_
  refine cx_get C hW 0 2 rfl rfl (by decide) inX9 gw_348 rfl rfl dX9_propose_22 ?_
  refine cx_callv (Wr := [(x0, .inr (12, [.ref a0, .ref v0, .ref h0, .ref t0, .ref p0, .ref o0, .int (nI 0), .int (-1), .int (-1)])), (b0, .inr (10, [.ref b1, .ref b5, .ref b10, .int (nI 0), .int (nI 0), .int (nI 0), .int (nI 0), .int (nI 0), .int (nI 0), .int (nI 0), .int (nI 0)])), (b10, .inl (aT 0, 4, .inl (va_cpy (fun _ => nI 0) (fun _ => nI 0) 0 0 4))), (b1, .inr (6, [.ref b2, .ref b3, .ref b4, .int (nI 0)])), (b2, .inl (aT 0, 6, .inl (va_cpy (fun _ => nI 0) (fun _ => nI 0) 0 0 6))), (b3, .inl (aT 0, 6, .inl (va_cpy (fun _ => nI 0) (fun _ => nI 0) 0 0 6))), (b4, .inl (aT 0, 6, .inl (va_cpy (fun _ => nI 0) (fun _ => nI 0) 0 0 6))), (b5, .inr (8, [.ref b6, .ref b7, .ref b8, .ref b9, .int (nI 0), .int (nI 0)])), (b6, .inl (aT 0, 12, .inl (va_cpy (fun _ => nI 0) (fun _ => nI 0) 0 0 12))), (b7, .inl (aT 0, 12, .inl (va_cpy (fun _ => nI 0) (fun _ => nI 0) 0 0 12))), (b8, .inl (aT 0, 12, .inl (va_cpy (fun _ => nI 0) (fun _ => nI 0) 0 0 12))), (b9, .inl (aT 0, 12, .inl (va_cpy (fun _ => nI 0) (fun _ => nI 0) 0 0 12)))]) (cx_runV C hml hl.1 hZ hW hA (As := []) (rest := []) (k_X3_keepNoted l hfl D aT h0 h1 f) gV_X9_X3_keepNoted_66 hV_X3_keepNoted rfl ⟨Nat.le_of_ble_eq_true rfl, Nat.le_of_ble_eq_true rfl⟩ ⟨Nat.le_of_ble_eq_true rfl, Nat.le_of_ble_eq_true rfl⟩ [1, 2] rfl (by decide) 1 7 rfl rfl rfl rfl (Nat.le_of_ble_eq_true rfl) dX9_propose_25) hW hA [1, 2] [0, 3, 4, 5, 6, 7, 8, 9, 10, 11, 12, 13] rfl rfl (by decide) (by decide) (fun _ _ _ _ _ h9 => h9.elim) (fun W_25 H locs hq hW => ?_)
  subst hq
  have hW : CxB D [(x0, .inr (12, [.ref a0, .ref v0, .ref h0, .ref t0, .ref p0, .ref o0, .int (nI 0), .int (-1), .int (-1)])), (b0, .inr (10, [.ref b1, .ref b5, .ref b10, .int (nI 0), .int (nI 0), .int (nI 0), .int (nI 0), .int (nI 0), .int (nI 0), .int (nI 0), .int (nI 0)])), (b10, .inl (aT 0, 4, .inl (va_cpy (fun _ => nI 0) (fun _ => nI 0) 0 0 4))), (b1, .inr (6, [.ref b2, .ref b3, .ref b4, .int (nI 0)])), (b2, .inl (aT 0, 6, .inl (va_cpy (fun _ => nI 0) (fun _ => nI 0) 0 0 6))), (b3, .inl (aT 0, 6, .inl (va_cpy (fun _ => nI 0) (fun _ => nI 0) 0 0 6))), (b4, .inl (aT 0, 6, .inl (va_cpy (fun _ => nI 0) (fun _ => nI 0) 0 0 6))), (b5, .inr (8, [.ref b6, .ref b7, .ref b8, .ref b9, .int (nI 0), .int (nI 0)])), (b6, .inl (aT 0, 12, .inl (va_cpy (fun _ => nI 0) (fun _ => nI 0) 0 0 12))), (b7, .inl (aT 0, 12, .inl (va_cpy (fun _ => nI 0) (fun _ => nI 0) 0 0 12))), (b8, .inl (aT 0, 12, .inl (va_cpy (fun _ => nI 0) (fun _ => nI 0) 0 0 12))), (b9, .inl (aT 0, 12, .inl (va_cpy (fun _ => nI 0) (fun _ => nI 0) 0 0 12))), (h0, .inr (7, [.ref h1, .int (nI 1)])), (h1, .inl (aT 5, 9, .inr (.inr (.inr (.inr f)))))] A s.heap H _ := hW
  refine lv_iload_n hx hb dX9_propose_28 rfl (lv_at hl 0 rfl) ?_
  exact cx_iret C hr hlocks rfl hW ⟨Nat.le_of_ble_eq_true rfl, Nat.le_of_ble_eq_true rfl⟩ (⟨hok, rfl⟩) dX9_propose_29
theorem dX9_amend_0 : decode cX9_amend 0 = .ok (.aload_n 0, 1) := by decide +kernel
theorem dX9_amend_1 : decode cX9_amend 1 = .ok (.getfield 22, 3) := by decide +kernel
theorem dX9_amend_4 : decode cX9_amend 4 = .ok (.aload_n 0, 1) := by decide +kernel
theorem dX9_amend_5 : decode cX9_amend 5 = .ok (.getfield 10, 3) := by decide +kernel
theorem dX9_amend_8 : decode cX9_amend 8 = .ok (.invokevirtual 58, 3) := by decide +kernel
theorem dX9_amend_11 : decode cX9_amend 11 = .ok (.aload_n 0, 1) := by decide +kernel
theorem dX9_amend_12 : decode cX9_amend 12 = .ok (.getfield 10, 3) := by decide +kernel
theorem dX9_amend_15 : decode cX9_amend 15 = .ok (.iload_n 1, 1) := by decide +kernel
theorem dX9_amend_16 : decode cX9_amend 16 = .ok (.iload_n 2, 1) := by decide +kernel
theorem dX9_amend_17 : decode cX9_amend 17 = .ok (.iload_n 3, 1) := by decide +kernel
theorem dX9_amend_18 : decode cX9_amend 18 = .ok (.invokevirtual 73, 3) := by decide +kernel
theorem dX9_amend_21 : decode cX9_amend 21 = .ok (.istore 4, 2) := by decide +kernel
theorem dX9_amend_23 : decode cX9_amend 23 = .ok (.aload_n 0, 1) := by decide +kernel
theorem dX9_amend_24 : decode cX9_amend 24 = .ok (.getfield 22, 3) := by decide +kernel
theorem dX9_amend_27 : decode cX9_amend 27 = .ok (.invokevirtual 66, 3) := by decide +kernel
theorem dX9_amend_30 : decode cX9_amend 30 = .ok (.iload 4, 2) := by decide +kernel
theorem dX9_amend_32 : decode cX9_amend 32 = .ok (.ireturn, 1) := by decide +kernel
theorem gV_X9_X7_newAmendment_73 : GoodIn gw (wsV RX9 73 RX7 yX7_newAmendment (Cond.code yX7_newAmendment cX7_newAmendment 5 (some .int) :: gw)) := gdV gw_695 gw_696 gw_697 gw_68 gw_698
theorem hV_X7_newAmendment : yX7_newAmendment.cls = RX7 ∧ yX7_newAmendment.cls ≠ "java/lang/invoke/MethodHandle" ∧ yX7_newAmendment.cls ≠ "java/lang/invoke/VarHandle" ∧ (parseMethodDescriptor yX7_newAmendment.desc).map (fun d => d.parameters.length) = some 3 := ⟨rfl, by decide +kernel, by decide +kernel, by decide +kernel⟩
set_option maxHeartbeats 2000000 in
set_option maxRecDepth 20000 in
theorem k_X9_amend (l : Launch) (hfl : l.stackTraces = false) (D : va_G) (aT : Nat → ClassId) (x0 : Nat) (v0 : Nat) (h0 : Nat) (t0 : Nat) (p0 : Nat) (o0 : Nat) (a0 : Nat) (a1 : Nat) (a5 : Nat) (a10 : Nat) (a2 : Nat) (a3 : Nat) (a4 : Nat) (a6 : Nat) (a7 : Nat) (a8 : Nat) (a9 : Nat) (h1 : Nat) (f : Nat → Option Nat) (b0 : Nat) (b1 : Nat) (b5 : Nat) (b10 : Nat) (b2 : Nat) (b3 : Nat) (b4 : Nat) (b6 : Nat) (b7 : Nat) (b8 : Nat) (b9 : Nat) (x : Int32) (y : Int32) (z : Int32) (hf : f 0 = some b0) : CxG l yX9_amend cX9_amend 5 (some (.int)) 8 1 6 136 D aT [.ref x0, .int x, .int y, .int z] [(x0, .inr (12, [.ref a0, .ref v0, .ref h0, .ref t0, .ref p0, .ref o0, .int (nI 0), .int (-1), .int (-1)])), (a0, .inr (10, [.ref a1, .ref a5, .ref a10, .int (nI 0), .int (nI 0), .int (nI 0), .int (nI 0), .int (nI 0), .int (nI 0), .int (nI 0), .int (nI 0)])), (a1, .inr (6, [.ref a2, .ref a3, .ref a4, .int (nI 0)])), (a2, .inl (aT 0, 6, .inl (fun _ => nI 0))), (a3, .inl (aT 0, 6, .inl (fun _ => nI 0))), (a4, .inl (aT 0, 6, .inl (fun _ => nI 0))), (a5, .inr (8, [.ref a6, .ref a7, .ref a8, .ref a9, .int (nI 0), .int (nI 0)])), (a6, .inl (aT 0, 12, .inl (fun _ => nI 0))), (a7, .inl (aT 0, 12, .inl (fun _ => nI 0))), (a8, .inl (aT 0, 12, .inl (fun _ => nI 0))), (a9, .inl (aT 0, 12, .inl (fun _ => nI 0))), (a10, .inl (aT 0, 4, .inl (fun _ => nI 0))), (h0, .inr (7, [.ref h1, .int (nI 0)])), (h1, .inl (aT 5, 9, .inr (.inr (.inr (.inr f))))), (b0, .inr (10, [.ref b1, .ref b5, .ref b10, .int (nI 0), .int (nI 0), .int (nI 0), .int (nI 0), .int (nI 0), .int (nI 0), .int (nI 0), .int (nI 0)])), (b1, .inr (6, [.ref b2, .ref b3, .ref b4, .int (nI 0)])), (b2, .inl (aT 0, 6, .inl (fun _ => nI 0))), (b3, .inl (aT 0, 6, .inl (fun _ => nI 0))), (b4, .inl (aT 0, 6, .inl (fun _ => nI 0))), (b5, .inr (8, [.ref b6, .ref b7, .ref b8, .ref b9, .int (nI 0), .int (nI 0)])), (b6, .inl (aT 0, 12, .inl (fun _ => nI 0))), (b7, .inl (aT 0, 12, .inl (fun _ => nI 0))), (b8, .inl (aT 0, 12, .inl (fun _ => nI 0))), (b9, .inl (aT 0, 12, .inl (fun _ => nI 0))), (b10, .inl (aT 0, 4, .inl (fun _ => nI 0)))] (qI D aT (fun _ _ => False)) (fun E => E = "java/util/NoSuchElementException") := by
  refine CxG.of RX9 (by decide +kernel) rfl (Nat.le_of_ble_eq_true rfl) ?_
  intro p e s m below meth c A ls C hml hl hA hr hlocks hex hnm hZ hW
  have hl : lv_has ls 5 [(0, .ref x0), (1, .int x), (2, .int y), (3, .int z)] := hl
  have hx := C.1
  have hb := C.2.1
  refine lv_aload_n hx hb dX9_amend_0 rfl (lv_at hl 0 rfl) ?_
  refine cx_get C hW 0 2 rfl rfl (by decide) inX9 gw_348 rfl rfl dX9_amend_1 ?_
  refine lv_aload_n hx hb dX9_amend_4 rfl (lv_at hl 0 rfl) ?_
  refine cx_get C hW 0 0 rfl rfl (by decide) inX9 gw_346 rfl rfl dX9_amend_5 ?_
  refine cx_callv (Wr := [(x0, .inr (12, [.ref a0, .ref v0, .ref h0, .ref t0, .ref p0, .ref o0, .int (nI 0), .int (-1), .int (-1)]))]) (cx_runV C hml hl.1 hZ hW hA (As := [.ref a0]) (rest := []) (k_X3_note l hfl D aT h0 h1 f a0 a1 a2 a3 a4 a5 a6 a7 a8 a9 a10 (fun _ => nI 0) (fun _ => nI 0) (fun _ => nI 0) (fun _ => nI 0) (fun _ => nI 0) (fun _ => nI 0) (fun _ => nI 0) (fun _ => nI 0) (nI 0) (nI 0) (nI 0) (nI 0) (nI 0) (nI 0) (nI 0) (nI 0) (nI 0) (nI 0) (nI 0) b0 b1 b2 b3 b4 b5 b6 b7 b8 b9 b10 (fun _ => nI 0) (fun _ => nI 0) (fun _ => nI 0) (fun _ => nI 0) (fun _ => nI 0) (fun _ => nI 0) (fun _ => nI 0) (fun _ => nI 0) (nI 0) (nI 0) (nI 0) (nI 0) (nI 0) (nI 0) (nI 0) (nI 0) (nI 0) (nI 0) (nI 0) hf) gV_X9_X3_note_58 hV_X3_note rfl ⟨Nat.le_of_ble_eq_true rfl, Nat.le_of_ble_eq_true rfl⟩ ⟨Nat.le_of_ble_eq_true rfl, Nat.le_of_ble_eq_true rfl⟩ [12, 13, 14, 15, 16, 17, 18, 19, 20, 21, 22, 23, 24, 1, 2, 3, 4, 5, 6, 7, 8, 9, 10, 11] rfl (by decide) 12 7 rfl rfl rfl rfl (Nat.le_of_ble_eq_true rfl) dX9_amend_8) hW hA [12, 13, 14, 15, 16, 17, 18, 19, 20, 21, 22, 23, 24, 1, 2, 3, 4, 5, 6, 7, 8, 9, 10, 11] [0] rfl rfl (by decide) (by decide) (fun _ _ _ _ _ h9 => h9.elim) (fun W_8 H locs hq hW => ?_)
  subst hq
  have hW : CxB D [(x0, .inr (12, [.ref a0, .ref v0, .ref h0, .ref t0, .ref p0, .ref o0, .int (nI 0), .int (-1), .int (-1)])), (h0, .inr (7, [.ref h1, .int (nI 0)])), (h1, .inl (aT 5, 9, .inr (.inr (.inr (.inr f))))), (a0, .inr (10, [.ref a1, .ref a5, .ref a10, .int (nI 0), .int (nI 0), .int (nI 0), .int (nI 0), .int (nI 0), .int (nI 0), .int (nI 0), .int (nI 0)])), (a10, .inl (aT 0, 4, .inl (fun _ => nI 0))), (b0, .inr (10, [.ref b1, .ref b5, .ref b10, .int (nI 0), .int (nI 0), .int (nI 0), .int (nI 0), .int (nI 0), .int (nI 0), .int (nI 0), .int (nI 0)])), (b10, .inl (aT 0, 4, .inl (va_cpy (fun _ => nI 0) (fun _ => nI 0) 0 0 4))), (a1, .inr (6, [.ref a2, .ref a3, .ref a4, .int (nI 0)])), (a2, .inl (aT 0, 6, .inl (fun _ => nI 0))), (a3, .inl (aT 0, 6, .inl (fun _ => nI 0))), (a4, .inl (aT 0, 6, .inl (fun _ => nI 0))), (b1, .inr (6, [.ref b2, .ref b3, .ref b4, .int (nI 0)])), (b2, .inl (aT 0, 6, .inl (va_cpy (fun _ => nI 0) (fun _ => nI 0) 0 0 6))), (b3, .inl (aT 0, 6, .inl (va_cpy (fun _ => nI 0) (fun _ => nI 0) 0 0 6))), (b4, .inl (aT 0, 6, .inl (va_cpy (fun _ => nI 0) (fun _ => nI 0) 0 0 6))), (a5, .inr (8, [.ref a6, .ref a7, .ref a8, .ref a9, .int (nI 0), .int (nI 0)])), (a6, .inl (aT 0, 12, .inl (fun _ => nI 0))), (a7, .inl (aT 0, 12, .inl (fun _ => nI 0))), (a8, .inl (aT 0, 12, .inl (fun _ => nI 0))), (a9, .inl (aT 0, 12, .inl (fun _ => nI 0))), (b5, .inr (8, [.ref b6, .ref b7, .ref b8, .ref b9, .int (nI 0), .int (nI 0)])), (b6, .inl (aT 0, 12, .inl (va_cpy (fun _ => nI 0) (fun _ => nI 0) 0 0 12))), (b7, .inl (aT 0, 12, .inl (va_cpy (fun _ => nI 0) (fun _ => nI 0) 0 0 12))), (b8, .inl (aT 0, 12, .inl (va_cpy (fun _ => nI 0) (fun _ => nI 0) 0 0 12))), (b9, .inl (aT 0, 12, .inl (va_cpy (fun _ => nI 0) (fun _ => nI 0) 0 0 12)))] A s.heap H _ := hW
  refine lv_aload_n hx hb dX9_amend_11 rfl (lv_at hl 0 rfl) ?_
  refine cx_get C hW 0 0 rfl rfl (by decide) inX9 gw_346 rfl rfl dX9_amend_12 ?_
  refine lv_iload_n hx hb dX9_amend_15 rfl (lv_at hl 1 rfl) ?_
  refine lv_iload_n hx hb dX9_amend_16 rfl (lv_at hl 2 rfl) ?_
  refine lv_iload_n hx hb dX9_amend_17 rfl (lv_at hl 3 rfl) ?_
  refine cx_calli (Wr := [(x0, .inr (12, [.ref a0, .ref v0, .ref h0, .ref t0, .ref p0, .ref o0, .int (nI 0), .int (-1), .int (-1)])), (h0, .inr (7, [.ref h1, .int (nI 0)])), (h1, .inl (aT 5, 9, .inr (.inr (.inr (.inr f))))), (b0, .inr (10, [.ref b1, .ref b5, .ref b10, .int (nI 0), .int (nI 0), .int (nI 0), .int (nI 0), .int (nI 0), .int (nI 0), .int (nI 0), .int (nI 0)])), (b10, .inl (aT 0, 4, .inl (va_cpy (fun _ => nI 0) (fun _ => nI 0) 0 0 4))), (b1, .inr (6, [.ref b2, .ref b3, .ref b4, .int (nI 0)])), (b2, .inl (aT 0, 6, .inl (va_cpy (fun _ => nI 0) (fun _ => nI 0) 0 0 6))), (b3, .inl (aT 0, 6, .inl (va_cpy (fun _ => nI 0) (fun _ => nI 0) 0 0 6))), (b4, .inl (aT 0, 6, .inl (va_cpy (fun _ => nI 0) (fun _ => nI 0) 0 0 6))), (b5, .inr (8, [.ref b6, .ref b7, .ref b8, .ref b9, .int (nI 0), .int (nI 0)])), (b6, .inl (aT 0, 12, .inl (va_cpy (fun _ => nI 0) (fun _ => nI 0) 0 0 12))), (b7, .inl (aT 0, 12, .inl (va_cpy (fun _ => nI 0) (fun _ => nI 0) 0 0 12))), (b8, .inl (aT 0, 12, .inl (va_cpy (fun _ => nI 0) (fun _ => nI 0) 0 0 12))), (b9, .inl (aT 0, 12, .inl (va_cpy (fun _ => nI 0) (fun _ => nI 0) 0 0 12)))]) (cx_runV C hml hl.1 hZ hW hA (As := [.int x, .int y, .int z]) (rest := []) (k_X7_newAmendment l hfl D aT a0 a1 a2 a3 a4 a5 a6 a7 a8 a9 a10 x y z) gV_X9_X7_newAmendment_73 hV_X7_newAmendment rfl ⟨Nat.le_of_ble_eq_true rfl, Nat.le_of_ble_eq_true rfl⟩ ⟨Nat.le_of_ble_eq_true rfl, Nat.le_of_ble_eq_true rfl⟩ [3, 7, 8, 9, 10, 15, 16, 17, 18, 19, 4] rfl (by decide) 3 10 rfl rfl rfl rfl (Nat.le_of_ble_eq_true rfl) dX9_amend_18) hW hA [3, 7, 8, 9, 10, 15, 16, 17, 18, 19, 4] [0, 1, 2, 5, 6, 11, 12, 13, 14, 20, 21, 22, 23, 24] rfl rfl (by decide) (by decide) (fun E ce q9 H9 locs9 hE hS9 h7 h8 h9 => cx_out hex hlocks hS9 h7 h8 h9 ⟨Nat.le_of_ble_eq_true rfl, Nat.le_of_ble_eq_true rfl⟩ (hE)) (fun r_18 W_18 H locs hq hW => ?_)
  exact hq.elim
theorem dX9_prune_0 : decode cX9_prune 0 = .ok (.aload_n 0, 1) := by decide +kernel
theorem dX9_prune_1 : decode cX9_prune 1 = .ok (.getfield 22, 3) := by decide +kernel
theorem dX9_prune_4 : decode cX9_prune 4 = .ok (.aload_n 0, 1) := by decide +kernel
theorem dX9_prune_5 : decode cX9_prune 5 = .ok (.getfield 10, 3) := by decide +kernel
theorem dX9_prune_8 : decode cX9_prune 8 = .ok (.invokevirtual 58, 3) := by decide +kernel
theorem dX9_prune_11 : decode cX9_prune 11 = .ok (.aload_n 0, 1) := by decide +kernel
theorem dX9_prune_12 : decode cX9_prune 12 = .ok (.getfield 10, 3) := by decide +kernel
theorem dX9_prune_15 : decode cX9_prune 15 = .ok (.iload_n 1, 1) := by decide +kernel
theorem dX9_prune_16 : decode cX9_prune 16 = .ok (.iload_n 2, 1) := by decide +kernel
theorem dX9_prune_17 : decode cX9_prune 17 = .ok (.invokevirtual 76, 3) := by decide +kernel
theorem dX9_prune_20 : decode cX9_prune 20 = .ok (.istore_n 3, 1) := by decide +kernel
theorem dX9_prune_21 : decode cX9_prune 21 = .ok (.aload_n 0, 1) := by decide +kernel
theorem dX9_prune_22 : decode cX9_prune 22 = .ok (.getfield 22, 3) := by decide +kernel
theorem dX9_prune_25 : decode cX9_prune 25 = .ok (.invokevirtual 66, 3) := by decide +kernel
theorem dX9_prune_28 : decode cX9_prune 28 = .ok (.iload_n 3, 1) := by decide +kernel
theorem dX9_prune_29 : decode cX9_prune 29 = .ok (.ireturn, 1) := by decide +kernel
theorem gV_X9_X7_cutBack_76 : GoodIn gw (wsV RX9 76 RX7 yX7_cutBack (Cond.code yX7_cutBack cX7_cutBack 7 (some .int) :: gw)) := gdV gw_726 gw_727 gw_728 gw_68 gw_729
theorem hV_X7_cutBack : yX7_cutBack.cls = RX7 ∧ yX7_cutBack.cls ≠ "java/lang/invoke/MethodHandle" ∧ yX7_cutBack.cls ≠ "java/lang/invoke/VarHandle" ∧ (parseMethodDescriptor yX7_cutBack.desc).map (fun d => d.parameters.length) = some 2 := ⟨rfl, by decide +kernel, by decide +kernel, by decide +kernel⟩
set_option maxHeartbeats 2000000 in
set_option maxRecDepth 20000 in
theorem k_X9_prune (l : Launch) (hfl : l.stackTraces = false) (D : va_G) (aT : Nat → ClassId) (x0 : Nat) (v0 : Nat) (h0 : Nat) (t0 : Nat) (p0 : Nat) (o0 : Nat) (a0 : Nat) (a1 : Nat) (a5 : Nat) (a10 : Nat) (a2 : Nat) (a3 : Nat) (a4 : Nat) (a6 : Nat) (a7 : Nat) (a8 : Nat) (a9 : Nat) (h1 : Nat) (f : Nat → Option Nat) (b0 : Nat) (b1 : Nat) (b5 : Nat) (b10 : Nat) (b2 : Nat) (b3 : Nat) (b4 : Nat) (b6 : Nat) (b7 : Nat) (b8 : Nat) (b9 : Nat) (x : Int32) (y : Int32) (hf : f 0 = some b0) : CxG l yX9_prune cX9_prune 4 (some (.int)) 8 1 6 138 D aT [.ref x0, .int x, .int y] [(x0, .inr (12, [.ref a0, .ref v0, .ref h0, .ref t0, .ref p0, .ref o0, .int (nI 0), .int (-1), .int (-1)])), (a0, .inr (10, [.ref a1, .ref a5, .ref a10, .int (nI 0), .int (nI 0), .int (nI 0), .int (nI 0), .int (nI 0), .int (nI 0), .int (nI 0), .int (nI 0)])), (a1, .inr (6, [.ref a2, .ref a3, .ref a4, .int (nI 0)])), (a2, .inl (aT 0, 6, .inl (fun _ => nI 0))), (a3, .inl (aT 0, 6, .inl (fun _ => nI 0))), (a4, .inl (aT 0, 6, .inl (fun _ => nI 0))), (a5, .inr (8, [.ref a6, .ref a7, .ref a8, .ref a9, .int (nI 0), .int (nI 0)])), (a6, .inl (aT 0, 12, .inl (fun _ => nI 0))), (a7, .inl (aT 0, 12, .inl (fun _ => nI 0))), (a8, .inl (aT 0, 12, .inl (fun _ => nI 0))), (a9, .inl (aT 0, 12, .inl (fun _ => nI 0))), (a10, .inl (aT 0, 4, .inl (fun _ => nI 0))), (h0, .inr (7, [.ref h1, .int (nI 0)])), (h1, .inl (aT 5, 9, .inr (.inr (.inr (.inr f))))), (b0, .inr (10, [.ref b1, .ref b5, .ref b10, .int (nI 0), .int (nI 0), .int (nI 0), .int (nI 0), .int (nI 0), .int (nI 0), .int (nI 0), .int (nI 0)])), (b1, .inr (6, [.ref b2, .ref b3, .ref b4, .int (nI 0)])), (b2, .inl (aT 0, 6, .inl (fun _ => nI 0))), (b3, .inl (aT 0, 6, .inl (fun _ => nI 0))), (b4, .inl (aT 0, 6, .inl (fun _ => nI 0))), (b5, .inr (8, [.ref b6, .ref b7, .ref b8, .ref b9, .int (nI 0), .int (nI 0)])), (b6, .inl (aT 0, 12, .inl (fun _ => nI 0))), (b7, .inl (aT 0, 12, .inl (fun _ => nI 0))), (b8, .inl (aT 0, 12, .inl (fun _ => nI 0))), (b9, .inl (aT 0, 12, .inl (fun _ => nI 0))), (b10, .inl (aT 0, 4, .inl (fun _ => nI 0)))] (qI D aT (fun _ _ => False)) (fun E => E = "java/util/NoSuchElementException") := by
  refine CxG.of RX9 (by decide +kernel) rfl (Nat.le_of_ble_eq_true rfl) ?_
  intro p e s m below meth c A ls C hml hl hA hr hlocks hex hnm hZ hW
  have hl : lv_has ls 4 [(0, .ref x0), (1, .int x), (2, .int y)] := hl
  have hx := C.1
  have hb := C.2.1
  refine lv_aload_n hx hb dX9_prune_0 rfl (lv_at hl 0 rfl) ?_
  refine cx_get C hW 0 2 rfl rfl (by decide) inX9 gw_348 rfl rfl dX9_prune_1 ?_
  refine lv_aload_n hx hb dX9_prune_4 rfl (lv_at hl 0 rfl) ?_
  refine cx_get C hW 0 0 rfl rfl (by decide) inX9 gw_346 rfl rfl dX9_prune_5 ?_
  refine cx_callv (Wr := [(x0, .inr (12, [.ref a0, .ref v0, .ref h0, .ref t0, .ref p0, .ref o0, .int (nI 0), .int (-1), .int (-1)]))]) (cx_runV C hml hl.1 hZ hW hA (As := [.ref a0]) (rest := []) (k_X3_note l hfl D aT h0 h1 f a0 a1 a2 a3 a4 a5 a6 a7 a8 a9 a10 (fun _ => nI 0) (fun _ => nI 0) (fun _ => nI 0) (fun _ => nI 0) (fun _ => nI 0) (fun _ => nI 0) (fun _ => nI 0) (fun _ => nI 0) (nI 0) (nI 0) (nI 0) (nI 0) (nI 0) (nI 0) (nI 0) (nI 0) (nI 0) (nI 0) (nI 0) b0 b1 b2 b3 b4 b5 b6 b7 b8 b9 b10 (fun _ => nI 0) (fun _ => nI 0) (fun _ => nI 0) (fun _ => nI 0) (fun _ => nI 0) (fun _ => nI 0) (fun _ => nI 0) (fun _ => nI 0) (nI 0) (nI 0) (nI 0) (nI 0) (nI 0) (nI 0) (nI 0) (nI 0) (nI 0) (nI 0) (nI 0) hf) gV_X9_X3_note_58 hV_X3_note rfl ⟨Nat.le_of_ble_eq_true rfl, Nat.le_of_ble_eq_true rfl⟩ ⟨Nat.le_of_ble_eq_true rfl, Nat.le_of_ble_eq_true rfl⟩ [12, 13, 14, 15, 16, 17, 18, 19, 20, 21, 22, 23, 24, 1, 2, 3, 4, 5, 6, 7, 8, 9, 10, 11] rfl (by decide) 12 7 rfl rfl rfl rfl (Nat.le_of_ble_eq_true rfl) dX9_prune_8) hW hA [12, 13, 14, 15, 16, 17, 18, 19, 20, 21, 22, 23, 24, 1, 2, 3, 4, 5, 6, 7, 8, 9, 10, 11] [0] rfl rfl (by decide) (by decide) (fun _ _ _ _ _ h9 => h9.elim) (fun W_8 H locs hq hW => ?_)
  subst hq
  have hW : CxB D [(x0, .inr (12, [.ref a0, .ref v0, .ref h0, .ref t0, .ref p0, .ref o0, .int (nI 0), .int (-1), .int (-1)])), (h0, .inr (7, [.ref h1, .int (nI 0)])), (h1, .inl (aT 5, 9, .inr (.inr (.inr (.inr f))))), (a0, .inr (10, [.ref a1, .ref a5, .ref a10, .int (nI 0), .int (nI 0), .int (nI 0), .int (nI 0), .int (nI 0), .int (nI 0), .int (nI 0), .int (nI 0)])), (a10, .inl (aT 0, 4, .inl (fun _ => nI 0))), (b0, .inr (10, [.ref b1, .ref b5, .ref b10, .int (nI 0), .int (nI 0), .int (nI 0), .int (nI 0), .int (nI 0), .int (nI 0), .int (nI 0), .int (nI 0)])), (b10, .inl (aT 0, 4, .inl (va_cpy (fun _ => nI 0) (fun _ => nI 0) 0 0 4))), (a1, .inr (6, [.ref a2, .ref a3, .ref a4, .int (nI 0)])), (a2, .inl (aT 0, 6, .inl (fun _ => nI 0))), (a3, .inl (aT 0, 6, .inl (fun _ => nI 0))), (a4, .inl (aT 0, 6, .inl (fun _ => nI 0))), (b1, .inr (6, [.ref b2, .ref b3, .ref b4, .int (nI 0)])), (b2, .inl (aT 0, 6, .inl (va_cpy (fun _ => nI 0) (fun _ => nI 0) 0 0 6))), (b3, .inl (aT 0, 6, .inl (va_cpy (fun _ => nI 0) (fun _ => nI 0) 0 0 6))), (b4, .inl (aT 0, 6, .inl (va_cpy (fun _ => nI 0) (fun _ => nI 0) 0 0 6))), (a5, .inr (8, [.ref a6, .ref a7, .ref a8, .ref a9, .int (nI 0), .int (nI 0)])), (a6, .inl (aT 0, 12, .inl (fun _ => nI 0))), (a7, .inl (aT 0, 12, .inl (fun _ => nI 0))), (a8, .inl (aT 0, 12, .inl (fun _ => nI 0))), (a9, .inl (aT 0, 12, .inl (fun _ => nI 0))), (b5, .inr (8, [.ref b6, .ref b7, .ref b8, .ref b9, .int (nI 0), .int (nI 0)])), (b6, .inl (aT 0, 12, .inl (va_cpy (fun _ => nI 0) (fun _ => nI 0) 0 0 12))), (b7, .inl (aT 0, 12, .inl (va_cpy (fun _ => nI 0) (fun _ => nI 0) 0 0 12))), (b8, .inl (aT 0, 12, .inl (va_cpy (fun _ => nI 0) (fun _ => nI 0) 0 0 12))), (b9, .inl (aT 0, 12, .inl (va_cpy (fun _ => nI 0) (fun _ => nI 0) 0 0 12)))] A s.heap H _ := hW
  refine lv_aload_n hx hb dX9_prune_11 rfl (lv_at hl 0 rfl) ?_
  refine cx_get C hW 0 0 rfl rfl (by decide) inX9 gw_346 rfl rfl dX9_prune_12 ?_
  refine lv_iload_n hx hb dX9_prune_15 rfl (lv_at hl 1 rfl) ?_
  refine lv_iload_n hx hb dX9_prune_16 rfl (lv_at hl 2 rfl) ?_
  refine cx_calli (Wr := [(x0, .inr (12, [.ref a0, .ref v0, .ref h0, .ref t0, .ref p0, .ref o0, .int (nI 0), .int (-1), .int (-1)])), (h0, .inr (7, [.ref h1, .int (nI 0)])), (h1, .inl (aT 5, 9, .inr (.inr (.inr (.inr f))))), (b0, .inr (10, [.ref b1, .ref b5, .ref b10, .int (nI 0), .int (nI 0), .int (nI 0), .int (nI 0), .int (nI 0), .int (nI 0), .int (nI 0), .int (nI 0)])), (b10, .inl (aT 0, 4, .inl (va_cpy (fun _ => nI 0) (fun _ => nI 0) 0 0 4))), (b1, .inr (6, [.ref b2, .ref b3, .ref b4, .int (nI 0)])), (b2, .inl (aT 0, 6, .inl (va_cpy (fun _ => nI 0) (fun _ => nI 0) 0 0 6))), (b3, .inl (aT 0, 6, .inl (va_cpy (fun _ => nI 0) (fun _ => nI 0) 0 0 6))), (b4, .inl (aT 0, 6, .inl (va_cpy (fun _ => nI 0) (fun _ => nI 0) 0 0 6))), (b5, .inr (8, [.ref b6, .ref b7, .ref b8, .ref b9, .int (nI 0), .int (nI 0)])), (b6, .inl (aT 0, 12, .inl (va_cpy (fun _ => nI 0) (fun _ => nI 0) 0 0 12))), (b7, .inl (aT 0, 12, .inl (va_cpy (fun _ => nI 0) (fun _ => nI 0) 0 0 12))), (b8, .inl (aT 0, 12, .inl (va_cpy (fun _ => nI 0) (fun _ => nI 0) 0 0 12))), (b9, .inl (aT 0, 12, .inl (va_cpy (fun _ => nI 0) (fun _ => nI 0) 0 0 12)))]) (cx_runV C hml hl.1 hZ hW hA (As := [.int x, .int y]) (rest := []) (k_X7_cutBack l hfl D aT a0 a1 a2 a3 a4 a5 a6 a7 a8 a9 a10 x y) gV_X9_X7_cutBack_76 hV_X7_cutBack rfl ⟨Nat.le_of_ble_eq_true rfl, Nat.le_of_ble_eq_true rfl⟩ ⟨Nat.le_of_ble_eq_true rfl, Nat.le_of_ble_eq_true rfl⟩ [3, 7, 8, 9, 10, 15, 16, 17, 18, 19, 4] rfl (by decide) 3 10 rfl rfl rfl rfl (Nat.le_of_ble_eq_true rfl) dX9_prune_17) hW hA [3, 7, 8, 9, 10, 15, 16, 17, 18, 19, 4] [0, 1, 2, 5, 6, 11, 12, 13, 14, 20, 21, 22, 23, 24] rfl rfl (by decide) (by decide) (fun E ce q9 H9 locs9 hE hS9 h7 h8 h9 => cx_out hex hlocks hS9 h7 h8 h9 ⟨Nat.le_of_ble_eq_true rfl, Nat.le_of_ble_eq_true rfl⟩ (hE)) (fun r_17 W_17 H locs hq hW => ?_)
  exact hq.elim
theorem dX9_regrow_0 : decode cX9_regrow 0 = .ok (.aload_n 0, 1) := by decide +kernel
theorem dX9_regrow_1 : decode cX9_regrow 1 = .ok (.getfield 22, 3) := by decide +kernel
theorem dX9_regrow_4 : decode cX9_regrow 4 = .ok (.aload_n 0, 1) := by decide +kernel
theorem dX9_regrow_5 : decode cX9_regrow 5 = .ok (.getfield 10, 3) := by decide +kernel
theorem dX9_regrow_8 : decode cX9_regrow 8 = .ok (.invokevirtual 58, 3) := by decide +kernel
theorem dX9_regrow_11 : decode cX9_regrow 11 = .ok (.aload_n 0, 1) := by decide +kernel
theorem dX9_regrow_12 : decode cX9_regrow 12 = .ok (.getfield 10, 3) := by decide +kernel
theorem dX9_regrow_15 : decode cX9_regrow 15 = .ok (.iload_n 1, 1) := by decide +kernel
theorem dX9_regrow_16 : decode cX9_regrow 16 = .ok (.invokevirtual 79, 3) := by decide +kernel
theorem dX9_regrow_19 : decode cX9_regrow 19 = .ok (.istore_n 2, 1) := by decide +kernel
theorem dX9_regrow_20 : decode cX9_regrow 20 = .ok (.aload_n 0, 1) := by decide +kernel
theorem dX9_regrow_21 : decode cX9_regrow 21 = .ok (.getfield 22, 3) := by decide +kernel
theorem dX9_regrow_24 : decode cX9_regrow 24 = .ok (.invokevirtual 66, 3) := by decide +kernel
theorem dX9_regrow_27 : decode cX9_regrow 27 = .ok (.iload_n 2, 1) := by decide +kernel
theorem dX9_regrow_28 : decode cX9_regrow 28 = .ok (.ireturn, 1) := by decide +kernel
theorem gV_X9_X7_growTip_79 : GoodIn gw (wsV RX9 79 RX7 yX7_growTip (Cond.code yX7_growTip cX7_growTip 4 (some .int) :: gw)) := gdV gw_744 gw_745 gw_746 gw_68 gw_747
theorem hV_X7_growTip : yX7_growTip.cls = RX7 ∧ yX7_growTip.cls ≠ "java/lang/invoke/MethodHandle" ∧ yX7_growTip.cls ≠ "java/lang/invoke/VarHandle" ∧ (parseMethodDescriptor yX7_growTip.desc).map (fun d => d.parameters.length) = some 1 := ⟨rfl, by decide +kernel, by decide +kernel, by decide +kernel⟩
set_option maxHeartbeats 2000000 in
set_option maxRecDepth 20000 in
theorem k_X9_regrow (l : Launch) (hfl : l.stackTraces = false) (D : va_G) (aT : Nat → ClassId) (x0 : Nat) (v0 : Nat) (h0 : Nat) (t0 : Nat) (p0 : Nat) (o0 : Nat) (a0 : Nat) (a1 : Nat) (a5 : Nat) (a10 : Nat) (a2 : Nat) (a3 : Nat) (a4 : Nat) (a6 : Nat) (a7 : Nat) (a8 : Nat) (a9 : Nat) (h1 : Nat) (f : Nat → Option Nat) (b0 : Nat) (b1 : Nat) (b5 : Nat) (b10 : Nat) (b2 : Nat) (b3 : Nat) (b4 : Nat) (b6 : Nat) (b7 : Nat) (b8 : Nat) (b9 : Nat) (x : Int32) (hf : f 0 = some b0) : CxG l yX9_regrow cX9_regrow 3 (some (.int)) 8 1 6 135 D aT [.ref x0, .int x] [(x0, .inr (12, [.ref a0, .ref v0, .ref h0, .ref t0, .ref p0, .ref o0, .int (nI 0), .int (-1), .int (-1)])), (a0, .inr (10, [.ref a1, .ref a5, .ref a10, .int (nI 0), .int (nI 0), .int (nI 0), .int (nI 0), .int (nI 0), .int (nI 0), .int (nI 0), .int (nI 0)])), (a1, .inr (6, [.ref a2, .ref a3, .ref a4, .int (nI 0)])), (a2, .inl (aT 0, 6, .inl (fun _ => nI 0))), (a3, .inl (aT 0, 6, .inl (fun _ => nI 0))), (a4, .inl (aT 0, 6, .inl (fun _ => nI 0))), (a5, .inr (8, [.ref a6, .ref a7, .ref a8, .ref a9, .int (nI 0), .int (nI 0)])), (a6, .inl (aT 0, 12, .inl (fun _ => nI 0))), (a7, .inl (aT 0, 12, .inl (fun _ => nI 0))), (a8, .inl (aT 0, 12, .inl (fun _ => nI 0))), (a9, .inl (aT 0, 12, .inl (fun _ => nI 0))), (a10, .inl (aT 0, 4, .inl (fun _ => nI 0))), (h0, .inr (7, [.ref h1, .int (nI 0)])), (h1, .inl (aT 5, 9, .inr (.inr (.inr (.inr f))))), (b0, .inr (10, [.ref b1, .ref b5, .ref b10, .int (nI 0), .int (nI 0), .int (nI 0), .int (nI 0), .int (nI 0), .int (nI 0), .int (nI 0), .int (nI 0)])), (b1, .inr (6, [.ref b2, .ref b3, .ref b4, .int (nI 0)])), (b2, .inl (aT 0, 6, .inl (fun _ => nI 0))), (b3, .inl (aT 0, 6, .inl (fun _ => nI 0))), (b4, .inl (aT 0, 6, .inl (fun _ => nI 0))), (b5, .inr (8, [.ref b6, .ref b7, .ref b8, .ref b9, .int (nI 0), .int (nI 0)])), (b6, .inl (aT 0, 12, .inl (fun _ => nI 0))), (b7, .inl (aT 0, 12, .inl (fun _ => nI 0))), (b8, .inl (aT 0, 12, .inl (fun _ => nI 0))), (b9, .inl (aT 0, 12, .inl (fun _ => nI 0))), (b10, .inl (aT 0, 4, .inl (fun _ => nI 0)))] (qI D aT (fun _ _ => False)) (fun E => E = "java/util/NoSuchElementException") := by
  refine CxG.of RX9 (by decide +kernel) rfl (Nat.le_of_ble_eq_true rfl) ?_
  intro p e s m below meth c A ls C hml hl hA hr hlocks hex hnm hZ hW
  have hl : lv_has ls 3 [(0, .ref x0), (1, .int x)] := hl
  have hx := C.1
  have hb := C.2.1
  refine lv_aload_n hx hb dX9_regrow_0 rfl (lv_at hl 0 rfl) ?_
  refine cx_get C hW 0 2 rfl rfl (by decide) inX9 gw_348 rfl rfl dX9_regrow_1 ?_
  refine lv_aload_n hx hb dX9_regrow_4 rfl (lv_at hl 0 rfl) ?_
  refine cx_get C hW 0 0 rfl rfl (by decide) inX9 gw_346 rfl rfl dX9_regrow_5 ?_
  refine cx_callv (Wr := [(x0, .inr (12, [.ref a0, .ref v0, .ref h0, .ref t0, .ref p0, .ref o0, .int (nI 0), .int (-1), .int (-1)]))]) (cx_runV C hml hl.1 hZ hW hA (As := [.ref a0]) (rest := []) (k_X3_note l hfl D aT h0 h1 f a0 a1 a2 a3 a4 a5 a6 a7 a8 a9 a10 (fun _ => nI 0) (fun _ => nI 0) (fun _ => nI 0) (fun _ => nI 0) (fun _ => nI 0) (fun _ => nI 0) (fun _ => nI 0) (fun _ => nI 0) (nI 0) (nI 0) (nI 0) (nI 0) (nI 0) (nI 0) (nI 0) (nI 0) (nI 0) (nI 0) (nI 0) b0 b1 b2 b3 b4 b5 b6 b7 b8 b9 b10 (fun _ => nI 0) (fun _ => nI 0) (fun _ => nI 0) (fun _ => nI 0) (fun _ => nI 0) (fun _ => nI 0) (fun _ => nI 0) (fun _ => nI 0) (nI 0) (nI 0) (nI 0) (nI 0) (nI 0) (nI 0) (nI 0) (nI 0) (nI 0) (nI 0) (nI 0) hf) gV_X9_X3_note_58 hV_X3_note rfl ⟨Nat.le_of_ble_eq_true rfl, Nat.le_of_ble_eq_true rfl⟩ ⟨Nat.le_of_ble_eq_true rfl, Nat.le_of_ble_eq_true rfl⟩ [12, 13, 14, 15, 16, 17, 18, 19, 20, 21, 22, 23, 24, 1, 2, 3, 4, 5, 6, 7, 8, 9, 10, 11] rfl (by decide) 12 7 rfl rfl rfl rfl (Nat.le_of_ble_eq_true rfl) dX9_regrow_8) hW hA [12, 13, 14, 15, 16, 17, 18, 19, 20, 21, 22, 23, 24, 1, 2, 3, 4, 5, 6, 7, 8, 9, 10, 11] [0] rfl rfl (by decide) (by decide) (fun _ _ _ _ _ h9 => h9.elim) (fun W_8 H locs hq hW => ?_)
  subst hq
  have hW : CxB D [(x0, .inr (12, [.ref a0, .ref v0, .ref h0, .ref t0, .ref p0, .ref o0, .int (nI 0), .int (-1), .int (-1)])), (h0, .inr (7, [.ref h1, .int (nI 0)])), (h1, .inl (aT 5, 9, .inr (.inr (.inr (.inr f))))), (a0, .inr (10, [.ref a1, .ref a5, .ref a10, .int (nI 0), .int (nI 0), .int (nI 0), .int (nI 0), .int (nI 0), .int (nI 0), .int (nI 0), .int (nI 0)])), (a10, .inl (aT 0, 4, .inl (fun _ => nI 0))), (b0, .inr (10, [.ref b1, .ref b5, .ref b10, .int (nI 0), .int (nI 0), .int (nI 0), .int (nI 0), .int (nI 0), .int (nI 0), .int (nI 0), .int (nI 0)])), (b10, .inl (aT 0, 4, .inl (va_cpy (fun _ => nI 0) (fun _ => nI 0) 0 0 4))), (a1, .inr (6, [.ref a2, .ref a3, .ref a4, .int (nI 0)])), (a2, .inl (aT 0, 6, .inl (fun _ => nI 0))), (a3, .inl (aT 0, 6, .inl (fun _ => nI 0))), (a4, .inl (aT 0, 6, .inl (fun _ => nI 0))), (b1, .inr (6, [.ref b2, .ref b3, .ref b4, .int (nI 0)])), (b2, .inl (aT 0, 6, .inl (va_cpy (fun _ => nI 0) (fun _ => nI 0) 0 0 6))), (b3, .inl (aT 0, 6, .inl (va_cpy (fun _ => nI 0) (fun _ => nI 0) 0 0 6))), (b4, .inl (aT 0, 6, .inl (va_cpy (fun _ => nI 0) (fun _ => nI 0) 0 0 6))), (a5, .inr (8, [.ref a6, .ref a7, .ref a8, .ref a9, .int (nI 0), .int (nI 0)])), (a6, .inl (aT 0, 12, .inl (fun _ => nI 0))), (a7, .inl (aT 0, 12, .inl (fun _ => nI 0))), (a8, .inl (aT 0, 12, .inl (fun _ => nI 0))), (a9, .inl (aT 0, 12, .inl (fun _ => nI 0))), (b5, .inr (8, [.ref b6, .ref b7, .ref b8, .ref b9, .int (nI 0), .int (nI 0)])), (b6, .inl (aT 0, 12, .inl (va_cpy (fun _ => nI 0) (fun _ => nI 0) 0 0 12))), (b7, .inl (aT 0, 12, .inl (va_cpy (fun _ => nI 0) (fun _ => nI 0) 0 0 12))), (b8, .inl (aT 0, 12, .inl (va_cpy (fun _ => nI 0) (fun _ => nI 0) 0 0 12))), (b9, .inl (aT 0, 12, .inl (va_cpy (fun _ => nI 0) (fun _ => nI 0) 0 0 12)))] A s.heap H _ := hW
  refine lv_aload_n hx hb dX9_regrow_11 rfl (lv_at hl 0 rfl) ?_
  refine cx_get C hW 0 0 rfl rfl (by decide) inX9 gw_346 rfl rfl dX9_regrow_12 ?_
  refine lv_iload_n hx hb dX9_regrow_15 rfl (lv_at hl 1 rfl) ?_
  refine cx_calli (Wr := [(x0, .inr (12, [.ref a0, .ref v0, .ref h0, .ref t0, .ref p0, .ref o0, .int (nI 0), .int (-1), .int (-1)])), (h0, .inr (7, [.ref h1, .int (nI 0)])), (h1, .inl (aT 5, 9, .inr (.inr (.inr (.inr f))))), (b0, .inr (10, [.ref b1, .ref b5, .ref b10, .int (nI 0), .int (nI 0), .int (nI 0), .int (nI 0), .int (nI 0), .int (nI 0), .int (nI 0), .int (nI 0)])), (b10, .inl (aT 0, 4, .inl (va_cpy (fun _ => nI 0) (fun _ => nI 0) 0 0 4))), (b1, .inr (6, [.ref b2, .ref b3, .ref b4, .int (nI 0)])), (b2, .inl (aT 0, 6, .inl (va_cpy (fun _ => nI 0) (fun _ => nI 0) 0 0 6))), (b3, .inl (aT 0, 6, .inl (va_cpy (fun _ => nI 0) (fun _ => nI 0) 0 0 6))), (b4, .inl (aT 0, 6, .inl (va_cpy (fun _ => nI 0) (fun _ => nI 0) 0 0 6))), (b5, .inr (8, [.ref b6, .ref b7, .ref b8, .ref b9, .int (nI 0), .int (nI 0)])), (b6, .inl (aT 0, 12, .inl (va_cpy (fun _ => nI 0) (fun _ => nI 0) 0 0 12))), (b7, .inl (aT 0, 12, .inl (va_cpy (fun _ => nI 0) (fun _ => nI 0) 0 0 12))), (b8, .inl (aT 0, 12, .inl (va_cpy (fun _ => nI 0) (fun _ => nI 0) 0 0 12))), (b9, .inl (aT 0, 12, .inl (va_cpy (fun _ => nI 0) (fun _ => nI 0) 0 0 12)))]) (cx_runV C hml hl.1 hZ hW hA (As := [.int x]) (rest := []) (k_X7_growTip l hfl D aT a0 a1 a2 a3 a4 a5 a6 a7 a8 a9 a10 x) gV_X9_X7_growTip_79 hV_X7_growTip rfl ⟨Nat.le_of_ble_eq_true rfl, Nat.le_of_ble_eq_true rfl⟩ ⟨Nat.le_of_ble_eq_true rfl, Nat.le_of_ble_eq_true rfl⟩ [3, 7, 8, 9, 10, 15, 16, 17, 18, 19, 4] rfl (by decide) 3 10 rfl rfl rfl rfl (Nat.le_of_ble_eq_true rfl) dX9_regrow_16) hW hA [3, 7, 8, 9, 10, 15, 16, 17, 18, 19, 4] [0, 1, 2, 5, 6, 11, 12, 13, 14, 20, 21, 22, 23, 24] rfl rfl (by decide) (by decide) (fun E ce q9 H9 locs9 hE hS9 h7 h8 h9 => cx_out hex hlocks hS9 h7 h8 h9 ⟨Nat.le_of_ble_eq_true rfl, Nat.le_of_ble_eq_true rfl⟩ (hE)) (fun r_16 W_16 H locs hq hW => ?_)
  exact hq.elim
theorem dX9_vote_0 : decode cX9_vote 0 = .ok (.aload_n 0, 1) := by decide +kernel
theorem dX9_vote_1 : decode cX9_vote 1 = .ok (.getfield 22, 3) := by decide +kernel
theorem dX9_vote_4 : decode cX9_vote 4 = .ok (.aload_n 0, 1) := by decide +kernel
theorem dX9_vote_5 : decode cX9_vote 5 = .ok (.getfield 10, 3) := by decide +kernel
theorem dX9_vote_8 : decode cX9_vote 8 = .ok (.invokevirtual 58, 3) := by decide +kernel
theorem dX9_vote_11 : decode cX9_vote 11 = .ok (.aload_n 0, 1) := by decide +kernel
theorem dX9_vote_12 : decode cX9_vote 12 = .ok (.getfield 10, 3) := by decide +kernel
theorem dX9_vote_15 : decode cX9_vote 15 = .ok (.iload_n 1, 1) := by decide +kernel
theorem dX9_vote_16 : decode cX9_vote 16 = .ok (.invokevirtual 83, 3) := by decide +kernel
theorem dX9_vote_19 : decode cX9_vote 19 = .ok (.istore_n 2, 1) := by decide +kernel
theorem dX9_vote_20 : decode cX9_vote 20 = .ok (.aload_n 0, 1) := by decide +kernel
theorem dX9_vote_21 : decode cX9_vote 21 = .ok (.getfield 22, 3) := by decide +kernel
theorem dX9_vote_24 : decode cX9_vote 24 = .ok (.invokevirtual 66, 3) := by decide +kernel
theorem dX9_vote_27 : decode cX9_vote 27 = .ok (.iload_n 2, 1) := by decide +kernel
theorem dX9_vote_28 : decode cX9_vote 28 = .ok (.ireturn, 1) := by decide +kernel
theorem gV_X9_X7_holdVote_83 : GoodIn gw (wsV RX9 83 RX7 yX7_holdVote (Cond.code yX7_holdVote cX7_holdVote 4 (some .char) :: gw)) := gdV gw_765 gw_766 gw_767 gw_68 gw_768
theorem hV_X7_holdVote : yX7_holdVote.cls = RX7 ∧ yX7_holdVote.cls ≠ "java/lang/invoke/MethodHandle" ∧ yX7_holdVote.cls ≠ "java/lang/invoke/VarHandle" ∧ (parseMethodDescriptor yX7_holdVote.desc).map (fun d => d.parameters.length) = some 1 := ⟨rfl, by decide +kernel, by decide +kernel, by decide +kernel⟩
set_option maxHeartbeats 2000000 in
set_option maxRecDepth 20000 in
theorem k_X9_vote (l : Launch) (hfl : l.stackTraces = false) (D : va_G) (aT : Nat → ClassId) (x0 : Nat) (v0 : Nat) (h0 : Nat) (t0 : Nat) (p0 : Nat) (o0 : Nat) (a0 : Nat) (a1 : Nat) (a5 : Nat) (a10 : Nat) (a2 : Nat) (a3 : Nat) (a4 : Nat) (a6 : Nat) (a7 : Nat) (a8 : Nat) (a9 : Nat) (h1 : Nat) (f : Nat → Option Nat) (b0 : Nat) (b1 : Nat) (b5 : Nat) (b10 : Nat) (b2 : Nat) (b3 : Nat) (b4 : Nat) (b6 : Nat) (b7 : Nat) (b8 : Nat) (b9 : Nat) (x : Int32) (hf : f 0 = some b0) : CxG l yX9_vote cX9_vote 3 (some (.char)) 8 1 6 135 D aT [.ref x0, .int x] [(x0, .inr (12, [.ref a0, .ref v0, .ref h0, .ref t0, .ref p0, .ref o0, .int (nI 0), .int (-1), .int (-1)])), (a0, .inr (10, [.ref a1, .ref a5, .ref a10, .int (nI 0), .int (nI 0), .int (nI 0), .int (nI 0), .int (nI 0), .int (nI 0), .int (nI 0), .int (nI 0)])), (a1, .inr (6, [.ref a2, .ref a3, .ref a4, .int (nI 0)])), (a2, .inl (aT 0, 6, .inl (fun _ => nI 0))), (a3, .inl (aT 0, 6, .inl (fun _ => nI 0))), (a4, .inl (aT 0, 6, .inl (fun _ => nI 0))), (a5, .inr (8, [.ref a6, .ref a7, .ref a8, .ref a9, .int (nI 0), .int (nI 0)])), (a6, .inl (aT 0, 12, .inl (fun _ => nI 0))), (a7, .inl (aT 0, 12, .inl (fun _ => nI 0))), (a8, .inl (aT 0, 12, .inl (fun _ => nI 0))), (a9, .inl (aT 0, 12, .inl (fun _ => nI 0))), (a10, .inl (aT 0, 4, .inl (fun _ => nI 0))), (h0, .inr (7, [.ref h1, .int (nI 0)])), (h1, .inl (aT 5, 9, .inr (.inr (.inr (.inr f))))), (b0, .inr (10, [.ref b1, .ref b5, .ref b10, .int (nI 0), .int (nI 0), .int (nI 0), .int (nI 0), .int (nI 0), .int (nI 0), .int (nI 0), .int (nI 0)])), (b1, .inr (6, [.ref b2, .ref b3, .ref b4, .int (nI 0)])), (b2, .inl (aT 0, 6, .inl (fun _ => nI 0))), (b3, .inl (aT 0, 6, .inl (fun _ => nI 0))), (b4, .inl (aT 0, 6, .inl (fun _ => nI 0))), (b5, .inr (8, [.ref b6, .ref b7, .ref b8, .ref b9, .int (nI 0), .int (nI 0)])), (b6, .inl (aT 0, 12, .inl (fun _ => nI 0))), (b7, .inl (aT 0, 12, .inl (fun _ => nI 0))), (b8, .inl (aT 0, 12, .inl (fun _ => nI 0))), (b9, .inl (aT 0, 12, .inl (fun _ => nI 0))), (b10, .inl (aT 0, 4, .inl (fun _ => nI 0)))] (qI D aT (fun _ _ => False)) (fun E => E = "java/util/NoSuchElementException") := by
  refine CxG.of RX9 (by decide +kernel) rfl (Nat.le_of_ble_eq_true rfl) ?_
  intro p e s m below meth c A ls C hml hl hA hr hlocks hex hnm hZ hW
  have hl : lv_has ls 3 [(0, .ref x0), (1, .int x)] := hl
  have hx := C.1
  have hb := C.2.1
  refine lv_aload_n hx hb dX9_vote_0 rfl (lv_at hl 0 rfl) ?_
  refine cx_get C hW 0 2 rfl rfl (by decide) inX9 gw_348 rfl rfl dX9_vote_1 ?_
  refine lv_aload_n hx hb dX9_vote_4 rfl (lv_at hl 0 rfl) ?_
  refine cx_get C hW 0 0 rfl rfl (by decide) inX9 gw_346 rfl rfl dX9_vote_5 ?_
  refine cx_callv (Wr := [(x0, .inr (12, [.ref a0, .ref v0, .ref h0, .ref t0, .ref p0, .ref o0, .int (nI 0), .int (-1), .int (-1)]))]) (cx_runV C hml hl.1 hZ hW hA (As := [.ref a0]) (rest := []) (k_X3_note l hfl D aT h0 h1 f a0 a1 a2 a3 a4 a5 a6 a7 a8 a9 a10 (fun _ => nI 0) (fun _ => nI 0) (fun _ => nI 0) (fun _ => nI 0) (fun _ => nI 0) (fun _ => nI 0) (fun _ => nI 0) (fun _ => nI 0) (nI 0) (nI 0) (nI 0) (nI 0) (nI 0) (nI 0) (nI 0) (nI 0) (nI 0) (nI 0) (nI 0) b0 b1 b2 b3 b4 b5 b6 b7 b8 b9 b10 (fun _ => nI 0) (fun _ => nI 0) (fun _ => nI 0) (fun _ => nI 0) (fun _ => nI 0) (fun _ => nI 0) (fun _ => nI 0) (fun _ => nI 0) (nI 0) (nI 0) (nI 0) (nI 0) (nI 0) (nI 0) (nI 0) (nI 0) (nI 0) (nI 0) (nI 0) hf) gV_X9_X3_note_58 hV_X3_note rfl ⟨Nat.le_of_ble_eq_true rfl, Nat.le_of_ble_eq_true rfl⟩ ⟨Nat.le_of_ble_eq_true rfl, Nat.le_of_ble_eq_true rfl⟩ [12, 13, 14, 15, 16, 17, 18, 19, 20, 21, 22, 23, 24, 1, 2, 3, 4, 5, 6, 7, 8, 9, 10, 11] rfl (by decide) 12 7 rfl rfl rfl rfl (Nat.le_of_ble_eq_true rfl) dX9_vote_8) hW hA [12, 13, 14, 15, 16, 17, 18, 19, 20, 21, 22, 23, 24, 1, 2, 3, 4, 5, 6, 7, 8, 9, 10, 11] [0] rfl rfl (by decide) (by decide) (fun _ _ _ _ _ h9 => h9.elim) (fun W_8 H locs hq hW => ?_)
  subst hq
  have hW : CxB D [(x0, .inr (12, [.ref a0, .ref v0, .ref h0, .ref t0, .ref p0, .ref o0, .int (nI 0), .int (-1), .int (-1)])), (h0, .inr (7, [.ref h1, .int (nI 0)])), (h1, .inl (aT 5, 9, .inr (.inr (.inr (.inr f))))), (a0, .inr (10, [.ref a1, .ref a5, .ref a10, .int (nI 0), .int (nI 0), .int (nI 0), .int (nI 0), .int (nI 0), .int (nI 0), .int (nI 0), .int (nI 0)])), (a10, .inl (aT 0, 4, .inl (fun _ => nI 0))), (b0, .inr (10, [.ref b1, .ref b5, .ref b10, .int (nI 0), .int (nI 0), .int (nI 0), .int (nI 0), .int (nI 0), .int (nI 0), .int (nI 0), .int (nI 0)])), (b10, .inl (aT 0, 4, .inl (va_cpy (fun _ => nI 0) (fun _ => nI 0) 0 0 4))), (a1, .inr (6, [.ref a2, .ref a3, .ref a4, .int (nI 0)])), (a2, .inl (aT 0, 6, .inl (fun _ => nI 0))), (a3, .inl (aT 0, 6, .inl (fun _ => nI 0))), (a4, .inl (aT 0, 6, .inl (fun _ => nI 0))), (b1, .inr (6, [.ref b2, .ref b3, .ref b4, .int (nI 0)])), (b2, .inl (aT 0, 6, .inl (va_cpy (fun _ => nI 0) (fun _ => nI 0) 0 0 6))), (b3, .inl (aT 0, 6, .inl (va_cpy (fun _ => nI 0) (fun _ => nI 0) 0 0 6))), (b4, .inl (aT 0, 6, .inl (va_cpy (fun _ => nI 0) (fun _ => nI 0) 0 0 6))), (a5, .inr (8, [.ref a6, .ref a7, .ref a8, .ref a9, .int (nI 0), .int (nI 0)])), (a6, .inl (aT 0, 12, .inl (fun _ => nI 0))), (a7, .inl (aT 0, 12, .inl (fun _ => nI 0))), (a8, .inl (aT 0, 12, .inl (fun _ => nI 0))), (a9, .inl (aT 0, 12, .inl (fun _ => nI 0))), (b5, .inr (8, [.ref b6, .ref b7, .ref b8, .ref b9, .int (nI 0), .int (nI 0)])), (b6, .inl (aT 0, 12, .inl (va_cpy (fun _ => nI 0) (fun _ => nI 0) 0 0 12))), (b7, .inl (aT 0, 12, .inl (va_cpy (fun _ => nI 0) (fun _ => nI 0) 0 0 12))), (b8, .inl (aT 0, 12, .inl (va_cpy (fun _ => nI 0) (fun _ => nI 0) 0 0 12))), (b9, .inl (aT 0, 12, .inl (va_cpy (fun _ => nI 0) (fun _ => nI 0) 0 0 12)))] A s.heap H _ := hW
  refine lv_aload_n hx hb dX9_vote_11 rfl (lv_at hl 0 rfl) ?_
  refine cx_get C hW 0 0 rfl rfl (by decide) inX9 gw_346 rfl rfl dX9_vote_12 ?_
  refine lv_iload_n hx hb dX9_vote_15 rfl (lv_at hl 1 rfl) ?_
  refine cx_calli (Wr := [(x0, .inr (12, [.ref a0, .ref v0, .ref h0, .ref t0, .ref p0, .ref o0, .int (nI 0), .int (-1), .int (-1)])), (h0, .inr (7, [.ref h1, .int (nI 0)])), (h1, .inl (aT 5, 9, .inr (.inr (.inr (.inr f))))), (b0, .inr (10, [.ref b1, .ref b5, .ref b10, .int (nI 0), .int (nI 0), .int (nI 0), .int (nI 0), .int (nI 0), .int (nI 0), .int (nI 0), .int (nI 0)])), (b10, .inl (aT 0, 4, .inl (va_cpy (fun _ => nI 0) (fun _ => nI 0) 0 0 4))), (b1, .inr (6, [.ref b2, .ref b3, .ref b4, .int (nI 0)])), (b2, .inl (aT 0, 6, .inl (va_cpy (fun _ => nI 0) (fun _ => nI 0) 0 0 6))), (b3, .inl (aT 0, 6, .inl (va_cpy (fun _ => nI 0) (fun _ => nI 0) 0 0 6))), (b4, .inl (aT 0, 6, .inl (va_cpy (fun _ => nI 0) (fun _ => nI 0) 0 0 6))), (b5, .inr (8, [.ref b6, .ref b7, .ref b8, .ref b9, .int (nI 0), .int (nI 0)])), (b6, .inl (aT 0, 12, .inl (va_cpy (fun _ => nI 0) (fun _ => nI 0) 0 0 12))), (b7, .inl (aT 0, 12, .inl (va_cpy (fun _ => nI 0) (fun _ => nI 0) 0 0 12))), (b8, .inl (aT 0, 12, .inl (va_cpy (fun _ => nI 0) (fun _ => nI 0) 0 0 12))), (b9, .inl (aT 0, 12, .inl (va_cpy (fun _ => nI 0) (fun _ => nI 0) 0 0 12)))]) (cx_runV C hml hl.1 hZ hW hA (As := [.int x]) (rest := []) (k_X7_holdVote l hfl D aT a0 a1 a2 a3 a4 a5 a6 a7 a8 a9 a10 x) gV_X9_X7_holdVote_83 hV_X7_holdVote rfl ⟨Nat.le_of_ble_eq_true rfl, Nat.le_of_ble_eq_true rfl⟩ ⟨Nat.le_of_ble_eq_true rfl, Nat.le_of_ble_eq_true rfl⟩ [3, 7, 8, 9, 10, 15, 16, 17, 18, 19, 4] rfl (by decide) 3 10 rfl rfl rfl rfl (Nat.le_of_ble_eq_true rfl) dX9_vote_16) hW hA [3, 7, 8, 9, 10, 15, 16, 17, 18, 19, 4] [0, 1, 2, 5, 6, 11, 12, 13, 14, 20, 21, 22, 23, 24] rfl rfl (by decide) (by decide) (fun E ce q9 H9 locs9 hE hS9 h7 h8 h9 => cx_out hex hlocks hS9 h7 h8 h9 ⟨Nat.le_of_ble_eq_true rfl, Nat.le_of_ble_eq_true rfl⟩ (hE)) (fun r_16 W_16 H locs hq hW => ?_)
  exact hq.elim
theorem dX9_passSeason_0 : decode cX9_passSeason 0 = .ok (.aload_n 0, 1) := by decide +kernel
theorem dX9_passSeason_1 : decode cX9_passSeason 1 = .ok (.getfield 22, 3) := by decide +kernel
theorem dX9_passSeason_4 : decode cX9_passSeason 4 = .ok (.aload_n 0, 1) := by decide +kernel
theorem dX9_passSeason_5 : decode cX9_passSeason 5 = .ok (.getfield 10, 3) := by decide +kernel
theorem dX9_passSeason_8 : decode cX9_passSeason 8 = .ok (.invokevirtual 58, 3) := by decide +kernel
theorem dX9_passSeason_11 : decode cX9_passSeason 11 = .ok (.aload_n 0, 1) := by decide +kernel
theorem dX9_passSeason_12 : decode cX9_passSeason 12 = .ok (.getfield 10, 3) := by decide +kernel
theorem dX9_passSeason_15 : decode cX9_passSeason 15 = .ok (.invokevirtual 87, 3) := by decide +kernel
theorem dX9_passSeason_18 : decode cX9_passSeason 18 = .ok (.aload_n 0, 1) := by decide +kernel
theorem dX9_passSeason_19 : decode cX9_passSeason 19 = .ok (.getfield 22, 3) := by decide +kernel
theorem dX9_passSeason_22 : decode cX9_passSeason 22 = .ok (.invokevirtual 66, 3) := by decide +kernel
theorem dX9_passSeason_25 : decode cX9_passSeason 25 = .ok (.aload_n 0, 1) := by decide +kernel
theorem dX9_passSeason_26 : decode cX9_passSeason 26 = .ok (.getfield 10, 3) := by decide +kernel
theorem dX9_passSeason_29 : decode cX9_passSeason 29 = .ok (.getfield 90, 3) := by decide +kernel
theorem dX9_passSeason_32 : decode cX9_passSeason 32 = .ok (.ireturn, 1) := by decide +kernel
theorem gV_X9_X7_beginNextSeason_87 : GoodIn gw (wsV RX9 87 RX7 yX7_beginNextSeason (Cond.code yX7_beginNextSeason cX7_beginNextSeason 1 (none) :: gw)) := gdV gw_399 gw_400 gw_401 gw_68 gw_402
theorem hV_X7_beginNextSeason : yX7_beginNextSeason.cls = RX7 ∧ yX7_beginNextSeason.cls ≠ "java/lang/invoke/MethodHandle" ∧ yX7_beginNextSeason.cls ≠ "java/lang/invoke/VarHandle" ∧ (parseMethodDescriptor yX7_beginNextSeason.desc).map (fun d => d.parameters.length) = some 0 := ⟨rfl, by decide +kernel, by decide +kernel, by decide +kernel⟩
set_option maxHeartbeats 2000000 in
set_option maxRecDepth 20000 in
theorem k_X9_passSeason (l : Launch) (hfl : l.stackTraces = false) (D : va_G) (aT : Nat → ClassId) (x0 : Nat) (v0 : Nat) (h0 : Nat) (t0 : Nat) (p0 : Nat) (o0 : Nat) (a0 : Nat) (a1 : Nat) (a5 : Nat) (a10 : Nat) (a2 : Nat) (a3 : Nat) (a4 : Nat) (a6 : Nat) (a7 : Nat) (a8 : Nat) (a9 : Nat) (h1 : Nat) (f : Nat → Option Nat) (b0 : Nat) (b1 : Nat) (b5 : Nat) (b10 : Nat) (b2 : Nat) (b3 : Nat) (b4 : Nat) (b6 : Nat) (b7 : Nat) (b8 : Nat) (b9 : Nat) (hf : f 0 = some b0) : CxG l yX9_passSeason cX9_passSeason 1 (some (.int)) 4 0 0 123 D aT [.ref x0] [(x0, .inr (12, [.ref a0, .ref v0, .ref h0, .ref t0, .ref p0, .ref o0, .int (nI 0), .int (-1), .int (-1)])), (a0, .inr (10, [.ref a1, .ref a5, .ref a10, .int (nI 0), .int (nI 0), .int (nI 0), .int (nI 0), .int (nI 0), .int (nI 0), .int (nI 0), .int (nI 0)])), (a1, .inr (6, [.ref a2, .ref a3, .ref a4, .int (nI 0)])), (a2, .inl (aT 0, 6, .inl (fun _ => nI 0))), (a3, .inl (aT 0, 6, .inl (fun _ => nI 0))), (a4, .inl (aT 0, 6, .inl (fun _ => nI 0))), (a5, .inr (8, [.ref a6, .ref a7, .ref a8, .ref a9, .int (nI 0), .int (nI 0)])), (a6, .inl (aT 0, 12, .inl (fun _ => nI 0))), (a7, .inl (aT 0, 12, .inl (fun _ => nI 0))), (a8, .inl (aT 0, 12, .inl (fun _ => nI 0))), (a9, .inl (aT 0, 12, .inl (fun _ => nI 0))), (a10, .inl (aT 0, 4, .inl (fun _ => nI 0))), (h0, .inr (7, [.ref h1, .int (nI 0)])), (h1, .inl (aT 5, 9, .inr (.inr (.inr (.inr f))))), (b0, .inr (10, [.ref b1, .ref b5, .ref b10, .int (nI 0), .int (nI 0), .int (nI 0), .int (nI 0), .int (nI 0), .int (nI 0), .int (nI 0), .int (nI 0)])), (b1, .inr (6, [.ref b2, .ref b3, .ref b4, .int (nI 0)])), (b2, .inl (aT 0, 6, .inl (fun _ => nI 0))), (b3, .inl (aT 0, 6, .inl (fun _ => nI 0))), (b4, .inl (aT 0, 6, .inl (fun _ => nI 0))), (b5, .inr (8, [.ref b6, .ref b7, .ref b8, .ref b9, .int (nI 0), .int (nI 0)])), (b6, .inl (aT 0, 12, .inl (fun _ => nI 0))), (b7, .inl (aT 0, 12, .inl (fun _ => nI 0))), (b8, .inl (aT 0, 12, .inl (fun _ => nI 0))), (b9, .inl (aT 0, 12, .inl (fun _ => nI 0))), (b10, .inl (aT 0, 4, .inl (fun _ => nI 0)))] (qI D aT (fun r W1 => r = nI 1)) (fun _ => False) := by
  refine CxG.of RX9 (by decide +kernel) rfl (Nat.le_of_ble_eq_true rfl) ?_
  intro p e s m below meth c A ls C hml hl hA hr hlocks hex hnm hZ hW
  have hl : lv_has ls 1 [(0, .ref x0)] := hl
  have hx := C.1
  have hb := C.2.1
  refine lv_aload_n hx hb dX9_passSeason_0 rfl (lv_at hl 0 rfl) ?_
  refine cx_get C hW 0 2 rfl rfl (by decide) inX9 gw_348 rfl rfl dX9_passSeason_1 ?_
  refine lv_aload_n hx hb dX9_passSeason_4 rfl (lv_at hl 0 rfl) ?_
  refine cx_get C hW 0 0 rfl rfl (by decide) inX9 gw_346 rfl rfl dX9_passSeason_5 ?_
  refine cx_callv (Wr := [(x0, .inr (12, [.ref a0, .ref v0, .ref h0, .ref t0, .ref p0, .ref o0, .int (nI 0), .int (-1), .int (-1)]))]) (cx_runV C hml hl.1 hZ hW hA (As := [.ref a0]) (rest := []) (k_X3_note l hfl D aT h0 h1 f a0 a1 a2 a3 a4 a5 a6 a7 a8 a9 a10 (fun _ => nI 0) (fun _ => nI 0) (fun _ => nI 0) (fun _ => nI 0) (fun _ => nI 0) (fun _ => nI 0) (fun _ => nI 0) (fun _ => nI 0) (nI 0) (nI 0) (nI 0) (nI 0) (nI 0) (nI 0) (nI 0) (nI 0) (nI 0) (nI 0) (nI 0) b0 b1 b2 b3 b4 b5 b6 b7 b8 b9 b10 (fun _ => nI 0) (fun _ => nI 0) (fun _ => nI 0) (fun _ => nI 0) (fun _ => nI 0) (fun _ => nI 0) (fun _ => nI 0) (fun _ => nI 0) (nI 0) (nI 0) (nI 0) (nI 0) (nI 0) (nI 0) (nI 0) (nI 0) (nI 0) (nI 0) (nI 0) hf) gV_X9_X3_note_58 hV_X3_note rfl ⟨Nat.le_of_ble_eq_true rfl, Nat.le_of_ble_eq_true rfl⟩ ⟨Nat.le_of_ble_eq_true rfl, Nat.le_of_ble_eq_true rfl⟩ [12, 13, 14, 15, 16, 17, 18, 19, 20, 21, 22, 23, 24, 1, 2, 3, 4, 5, 6, 7, 8, 9, 10, 11] rfl (by decide) 12 7 rfl rfl rfl rfl (Nat.le_of_ble_eq_true rfl) dX9_passSeason_8) hW hA [12, 13, 14, 15, 16, 17, 18, 19, 20, 21, 22, 23, 24, 1, 2, 3, 4, 5, 6, 7, 8, 9, 10, 11] [0] rfl rfl (by decide) (by decide) (fun _ _ _ _ _ h9 => h9.elim) (fun W_8 H locs hq hW => ?_)
  subst hq
  have hW : CxB D [(x0, .inr (12, [.ref a0, .ref v0, .ref h0, .ref t0, .ref p0, .ref o0, .int (nI 0), .int (-1), .int (-1)])), (h0, .inr (7, [.ref h1, .int (nI 0)])), (h1, .inl (aT 5, 9, .inr (.inr (.inr (.inr f))))), (a0, .inr (10, [.ref a1, .ref a5, .ref a10, .int (nI 0), .int (nI 0), .int (nI 0), .int (nI 0), .int (nI 0), .int (nI 0), .int (nI 0), .int (nI 0)])), (a10, .inl (aT 0, 4, .inl (fun _ => nI 0))), (b0, .inr (10, [.ref b1, .ref b5, .ref b10, .int (nI 0), .int (nI 0), .int (nI 0), .int (nI 0), .int (nI 0), .int (nI 0), .int (nI 0), .int (nI 0)])), (b10, .inl (aT 0, 4, .inl (va_cpy (fun _ => nI 0) (fun _ => nI 0) 0 0 4))), (a1, .inr (6, [.ref a2, .ref a3, .ref a4, .int (nI 0)])), (a2, .inl (aT 0, 6, .inl (fun _ => nI 0))), (a3, .inl (aT 0, 6, .inl (fun _ => nI 0))), (a4, .inl (aT 0, 6, .inl (fun _ => nI 0))), (b1, .inr (6, [.ref b2, .ref b3, .ref b4, .int (nI 0)])), (b2, .inl (aT 0, 6, .inl (va_cpy (fun _ => nI 0) (fun _ => nI 0) 0 0 6))), (b3, .inl (aT 0, 6, .inl (va_cpy (fun _ => nI 0) (fun _ => nI 0) 0 0 6))), (b4, .inl (aT 0, 6, .inl (va_cpy (fun _ => nI 0) (fun _ => nI 0) 0 0 6))), (a5, .inr (8, [.ref a6, .ref a7, .ref a8, .ref a9, .int (nI 0), .int (nI 0)])), (a6, .inl (aT 0, 12, .inl (fun _ => nI 0))), (a7, .inl (aT 0, 12, .inl (fun _ => nI 0))), (a8, .inl (aT 0, 12, .inl (fun _ => nI 0))), (a9, .inl (aT 0, 12, .inl (fun _ => nI 0))), (b5, .inr (8, [.ref b6, .ref b7, .ref b8, .ref b9, .int (nI 0), .int (nI 0)])), (b6, .inl (aT 0, 12, .inl (va_cpy (fun _ => nI 0) (fun _ => nI 0) 0 0 12))), (b7, .inl (aT 0, 12, .inl (va_cpy (fun _ => nI 0) (fun _ => nI 0) 0 0 12))), (b8, .inl (aT 0, 12, .inl (va_cpy (fun _ => nI 0) (fun _ => nI 0) 0 0 12))), (b9, .inl (aT 0, 12, .inl (va_cpy (fun _ => nI 0) (fun _ => nI 0) 0 0 12)))] A s.heap H _ := hW
  refine lv_aload_n hx hb dX9_passSeason_11 rfl (lv_at hl 0 rfl) ?_
  refine cx_get C hW 0 0 rfl rfl (by decide) inX9 gw_346 rfl rfl dX9_passSeason_12 ?_
  refine cx_callv (Wr := [(x0, .inr (12, [.ref a0, .ref v0, .ref h0, .ref t0, .ref p0, .ref o0, .int (nI 0), .int (-1), .int (-1)])), (h0, .inr (7, [.ref h1, .int (nI 0)])), (h1, .inl (aT 5, 9, .inr (.inr (.inr (.inr f))))), (b0, .inr (10, [.ref b1, .ref b5, .ref b10, .int (nI 0), .int (nI 0), .int (nI 0), .int (nI 0), .int (nI 0), .int (nI 0), .int (nI 0), .int (nI 0)])), (b10, .inl (aT 0, 4, .inl (va_cpy (fun _ => nI 0) (fun _ => nI 0) 0 0 4))), (b1, .inr (6, [.ref b2, .ref b3, .ref b4, .int (nI 0)])), (b2, .inl (aT 0, 6, .inl (va_cpy (fun _ => nI 0) (fun _ => nI 0) 0 0 6))), (b3, .inl (aT 0, 6, .inl (va_cpy (fun _ => nI 0) (fun _ => nI 0) 0 0 6))), (b4, .inl (aT 0, 6, .inl (va_cpy (fun _ => nI 0) (fun _ => nI 0) 0 0 6))), (b5, .inr (8, [.ref b6, .ref b7, .ref b8, .ref b9, .int (nI 0), .int (nI 0)])), (b6, .inl (aT 0, 12, .inl (va_cpy (fun _ => nI 0) (fun _ => nI 0) 0 0 12))), (b7, .inl (aT 0, 12, .inl (va_cpy (fun _ => nI 0) (fun _ => nI 0) 0 0 12))), (b8, .inl (aT 0, 12, .inl (va_cpy (fun _ => nI 0) (fun _ => nI 0) 0 0 12))), (b9, .inl (aT 0, 12, .inl (va_cpy (fun _ => nI 0) (fun _ => nI 0) 0 0 12)))]) (cx_runV C hml hl.1 hZ hW hA (As := []) (rest := []) (k_X7_beginNextSeason l hfl D aT a0 a1 a2 a3 a4 a5 a6 a7 a8 a9 a10) gV_X9_X7_beginNextSeason_87 hV_X7_beginNextSeason rfl ⟨Nat.le_of_ble_eq_true rfl, Nat.le_of_ble_eq_true rfl⟩ ⟨Nat.le_of_ble_eq_true rfl, Nat.le_of_ble_eq_true rfl⟩ [3, 7, 8, 9, 10, 15, 16, 17, 18, 19, 4] rfl (by decide) 3 10 rfl rfl rfl rfl (Nat.le_of_ble_eq_true rfl) dX9_passSeason_15) hW hA [3, 7, 8, 9, 10, 15, 16, 17, 18, 19, 4] [0, 1, 2, 5, 6, 11, 12, 13, 14, 20, 21, 22, 23, 24] rfl rfl (by decide) (by decide) (fun _ _ _ _ _ h9 => h9.elim) (fun W_15 H locs hq hW => ?_)
  subst hq
  have hW : CxB D [(x0, .inr (12, [.ref a0, .ref v0, .ref h0, .ref t0, .ref p0, .ref o0, .int (nI 0), .int (-1), .int (-1)])), (h0, .inr (7, [.ref h1, .int (nI 0)])), (h1, .inl (aT 5, 9, .inr (.inr (.inr (.inr f))))), (b0, .inr (10, [.ref b1, .ref b5, .ref b10, .int (nI 0), .int (nI 0), .int (nI 0), .int (nI 0), .int (nI 0), .int (nI 0), .int (nI 0), .int (nI 0)])), (b10, .inl (aT 0, 4, .inl (va_cpy (fun _ => nI 0) (fun _ => nI 0) 0 0 4))), (b1, .inr (6, [.ref b2, .ref b3, .ref b4, .int (nI 0)])), (b2, .inl (aT 0, 6, .inl (va_cpy (fun _ => nI 0) (fun _ => nI 0) 0 0 6))), (b3, .inl (aT 0, 6, .inl (va_cpy (fun _ => nI 0) (fun _ => nI 0) 0 0 6))), (b4, .inl (aT 0, 6, .inl (va_cpy (fun _ => nI 0) (fun _ => nI 0) 0 0 6))), (b5, .inr (8, [.ref b6, .ref b7, .ref b8, .ref b9, .int (nI 0), .int (nI 0)])), (b6, .inl (aT 0, 12, .inl (va_cpy (fun _ => nI 0) (fun _ => nI 0) 0 0 12))), (b7, .inl (aT 0, 12, .inl (va_cpy (fun _ => nI 0) (fun _ => nI 0) 0 0 12))), (b8, .inl (aT 0, 12, .inl (va_cpy (fun _ => nI 0) (fun _ => nI 0) 0 0 12))), (b9, .inl (aT 0, 12, .inl (va_cpy (fun _ => nI 0) (fun _ => nI 0) 0 0 12))), (a0, .inr (10, [.ref a1, .ref a5, .ref a10, .int (nI 1), .int (nI 0), .int (nI 0), .int (nI 0), .int (nI 0), .int (nI 0), .int (nI 0), .int (nI 0)])), (a5, .inr (8, [.ref a6, .ref a7, .ref a8, .ref a9, .int (nI 0), .int (nI 0)])), (a6, .inl (aT 0, 12, .inl (fun _ => nI 0))), (a7, .inl (aT 0, 12, .inl (fun _ => nI 0))), (a8, .inl (aT 0, 12, .inl (fun _ => nI 0))), (a9, .inl (aT 0, 12, .inl (fun _ => nI 0))), (a10, .inl (aT 0, 4, .inl (fun _ => nI 0))), (a1, .inr (6, [.ref a2, .ref a3, .ref a4, .int (nI 0)])), (a2, .inl (aT 0, 6, .inl (fun _ => nI 0))), (a3, .inl (aT 0, 6, .inl (fun _ => nI 0))), (a4, .inl (aT 0, 6, .inl (fun _ => nI 0)))] A s.heap H _ := hW
  refine lv_aload_n hx hb dX9_passSeason_18 rfl (lv_at hl 0 rfl) ?_
  refine cx_get C hW 0 2 rfl rfl (by decide) inX9 gw_348 rfl rfl dX9_passSeason_19 ?_
  refine cx_callv (Wr := [(x0, .inr (12, [.ref a0, .ref v0, .ref h0, .ref t0, .ref p0, .ref o0, .int (nI 0), .int (-1), .int (-1)])), (b0, .inr (10, [.ref b1, .ref b5, .ref b10, .int (nI 0), .int (nI 0), .int (nI 0), .int (nI 0), .int (nI 0), .int (nI 0), .int (nI 0), .int (nI 0)])), (b10, .inl (aT 0, 4, .inl (va_cpy (fun _ => nI 0) (fun _ => nI 0) 0 0 4))), (b1, .inr (6, [.ref b2, .ref b3, .ref b4, .int (nI 0)])), (b2, .inl (aT 0, 6, .inl (va_cpy (fun _ => nI 0) (fun _ => nI 0) 0 0 6))), (b3, .inl (aT 0, 6, .inl (va_cpy (fun _ => nI 0) (fun _ => nI 0) 0 0 6))), (b4, .inl (aT 0, 6, .inl (va_cpy (fun _ => nI 0) (fun _ => nI 0) 0 0 6))), (b5, .inr (8, [.ref b6, .ref b7, .ref b8, .ref b9, .int (nI 0), .int (nI 0)])), (b6, .inl (aT 0, 12, .inl (va_cpy (fun _ => nI 0) (fun _ => nI 0) 0 0 12))), (b7, .inl (aT 0, 12, .inl (va_cpy (fun _ => nI 0) (fun _ => nI 0) 0 0 12))), (b8, .inl (aT 0, 12, .inl (va_cpy (fun _ => nI 0) (fun _ => nI 0) 0 0 12))), (b9, .inl (aT 0, 12, .inl (va_cpy (fun _ => nI 0) (fun _ => nI 0) 0 0 12))), (a0, .inr (10, [.ref a1, .ref a5, .ref a10, .int (nI 1), .int (nI 0), .int (nI 0), .int (nI 0), .int (nI 0), .int (nI 0), .int (nI 0), .int (nI 0)])), (a5, .inr (8, [.ref a6, .ref a7, .ref a8, .ref a9, .int (nI 0), .int (nI 0)])), (a6, .inl (aT 0, 12, .inl (fun _ => nI 0))), (a7, .inl (aT 0, 12, .inl (fun _ => nI 0))), (a8, .inl (aT 0, 12, .inl (fun _ => nI 0))), (a9, .inl (aT 0, 12, .inl (fun _ => nI 0))), (a10, .inl (aT 0, 4, .inl (fun _ => nI 0))), (a1, .inr (6, [.ref a2, .ref a3, .ref a4, .int (nI 0)])), (a2, .inl (aT 0, 6, .inl (fun _ => nI 0))), (a3, .inl (aT 0, 6, .inl (fun _ => nI 0))), (a4, .inl (aT 0, 6, .inl (fun _ => nI 0)))]) (cx_runV C hml hl.1 hZ hW hA (As := []) (rest := []) (k_X3_keepNoted l hfl D aT h0 h1 f) gV_X9_X3_keepNoted_66 hV_X3_keepNoted rfl ⟨Nat.le_of_ble_eq_true rfl, Nat.le_of_ble_eq_true rfl⟩ ⟨Nat.le_of_ble_eq_true rfl, Nat.le_of_ble_eq_true rfl⟩ [1, 2] rfl (by decide) 1 7 rfl rfl rfl rfl (Nat.le_of_ble_eq_true rfl) dX9_passSeason_22) hW hA [1, 2] [0, 3, 4, 5, 6, 7, 8, 9, 10, 11, 12, 13, 14, 15, 16, 17, 18, 19, 20, 21, 22, 23, 24] rfl rfl (by decide) (by decide) (fun _ _ _ _ _ h9 => h9.elim) (fun W_22 H locs hq hW => ?_)
  subst hq
  have hW : CxB D [(x0, .inr (12, [.ref a0, .ref v0, .ref h0, .ref t0, .ref p0, .ref o0, .int (nI 0), .int (-1), .int (-1)])), (b0, .inr (10, [.ref b1, .ref b5, .ref b10, .int (nI 0), .int (nI 0), .int (nI 0), .int (nI 0), .int (nI 0), .int (nI 0), .int (nI 0), .int (nI 0)])), (b10, .inl (aT 0, 4, .inl (va_cpy (fun _ => nI 0) (fun _ => nI 0) 0 0 4))), (b1, .inr (6, [.ref b2, .ref b3, .ref b4, .int (nI 0)])), (b2, .inl (aT 0, 6, .inl (va_cpy (fun _ => nI 0) (fun _ => nI 0) 0 0 6))), (b3, .inl (aT 0, 6, .inl (va_cpy (fun _ => nI 0) (fun _ => nI 0) 0 0 6))), (b4, .inl (aT 0, 6, .inl (va_cpy (fun _ => nI 0) (fun _ => nI 0) 0 0 6))), (b5, .inr (8, [.ref b6, .ref b7, .ref b8, .ref b9, .int (nI 0), .int (nI 0)])), (b6, .inl (aT 0, 12, .inl (va_cpy (fun _ => nI 0) (fun _ => nI 0) 0 0 12))), (b7, .inl (aT 0, 12, .inl (va_cpy (fun _ => nI 0) (fun _ => nI 0) 0 0 12))), (b8, .inl (aT 0, 12, .inl (va_cpy (fun _ => nI 0) (fun _ => nI 0) 0 0 12))), (b9, .inl (aT 0, 12, .inl (va_cpy (fun _ => nI 0) (fun _ => nI 0) 0 0 12))), (a0, .inr (10, [.ref a1, .ref a5, .ref a10, .int (nI 1), .int (nI 0), .int (nI 0), .int (nI 0), .int (nI 0), .int (nI 0), .int (nI 0), .int (nI 0)])), (a5, .inr (8, [.ref a6, .ref a7, .ref a8, .ref a9, .int (nI 0), .int (nI 0)])), (a6, .inl (aT 0, 12, .inl (fun _ => nI 0))), (a7, .inl (aT 0, 12, .inl (fun _ => nI 0))), (a8, .inl (aT 0, 12, .inl (fun _ => nI 0))), (a9, .inl (aT 0, 12, .inl (fun _ => nI 0))), (a10, .inl (aT 0, 4, .inl (fun _ => nI 0))), (a1, .inr (6, [.ref a2, .ref a3, .ref a4, .int (nI 0)])), (a2, .inl (aT 0, 6, .inl (fun _ => nI 0))), (a3, .inl (aT 0, 6, .inl (fun _ => nI 0))), (a4, .inl (aT 0, 6, .inl (fun _ => nI 0))), (h0, .inr (7, [.ref h1, .int (nI 1)])), (h1, .inl (aT 5, 9, .inr (.inr (.inr (.inr f)))))] A s.heap H _ := hW
  refine lv_aload_n hx hb dX9_passSeason_25 rfl (lv_at hl 0 rfl) ?_
  refine cx_get C hW 0 0 rfl rfl (by decide) inX9 gw_346 rfl rfl dX9_passSeason_26 ?_
  refine cx_getN C hZ hW 12 3 rfl rfl (by decide) inX7 nw_186 rfl rfl dX9_passSeason_29 ?_
  exact cx_iret C hr hlocks rfl hW ⟨Nat.le_of_ble_eq_true rfl, Nat.le_of_ble_eq_true rfl⟩ (rfl) dX9_passSeason_32
theorem dX9_hedgeCount_0 : decode cX9_hedgeCount 0 = .ok (.aload_n 0, 1) := by decide +kernel
theorem dX9_hedgeCount_1 : decode cX9_hedgeCount 1 = .ok (.getfield 10, 3) := by decide +kernel
theorem dX9_hedgeCount_4 : decode cX9_hedgeCount 4 = .ok (.getfield 93, 3) := by decide +kernel
theorem dX9_hedgeCount_7 : decode cX9_hedgeCount 7 = .ok (.getfield 97, 3) := by decide +kernel
theorem dX9_hedgeCount_10 : decode cX9_hedgeCount 10 = .ok (.ireturn, 1) := by decide +kernel
set_option maxHeartbeats 2000000 in
set_option maxRecDepth 20000 in
theorem k_X9_hedgeCount (l : Launch) (hfl : l.stackTraces = false) (D : va_G) (aT : Nat → ClassId) (x0 : Nat) (v0 : Nat) (h0 : Nat) (t0 : Nat) (p0 : Nat) (o0 : Nat) (a0 : Nat) (a1 : Nat) (a5 : Nat) (a10 : Nat) (a2 : Nat) (a3 : Nat) (a4 : Nat) (a6 : Nat) (a7 : Nat) (a8 : Nat) (a9 : Nat) : CxG l yX9_hedgeCount cX9_hedgeCount 1 (some (.int)) 0 0 0 0 D aT [.ref x0] [(x0, .inr (12, [.ref a0, .ref v0, .ref h0, .ref t0, .ref p0, .ref o0, .int (nI 0), .int (-1), .int (-1)])), (a0, .inr (10, [.ref a1, .ref a5, .ref a10, .int (nI 0), .int (nI 0), .int (nI 0), .int (nI 0), .int (nI 0), .int (nI 0), .int (nI 0), .int (nI 0)])), (a1, .inr (6, [.ref a2, .ref a3, .ref a4, .int (nI 0)])), (a2, .inl (aT 0, 6, .inl (fun _ => nI 0))), (a3, .inl (aT 0, 6, .inl (fun _ => nI 0))), (a4, .inl (aT 0, 6, .inl (fun _ => nI 0))), (a5, .inr (8, [.ref a6, .ref a7, .ref a8, .ref a9, .int (nI 0), .int (nI 0)])), (a6, .inl (aT 0, 12, .inl (fun _ => nI 0))), (a7, .inl (aT 0, 12, .inl (fun _ => nI 0))), (a8, .inl (aT 0, 12, .inl (fun _ => nI 0))), (a9, .inl (aT 0, 12, .inl (fun _ => nI 0))), (a10, .inl (aT 0, 4, .inl (fun _ => nI 0)))] (qI D aT (fun r W1 => r = nI 0)) (fun _ => False) := by
  refine CxG.of RX9 (by decide +kernel) rfl (Nat.le_of_ble_eq_true rfl) ?_
  intro p e s m below meth c A ls C hml hl hA hr hlocks hex hnm hZ hW
  have hl : lv_has ls 1 [(0, .ref x0)] := hl
  have hx := C.1
  have hb := C.2.1
  refine lv_aload_n hx hb dX9_hedgeCount_0 rfl (lv_at hl 0 rfl) ?_
  refine cx_get C hW 0 0 rfl rfl (by decide) inX9 gw_346 rfl rfl dX9_hedgeCount_1 ?_
  refine cx_getN C hZ hW 1 0 rfl rfl (by decide) inX7 nw_180 rfl rfl dX9_hedgeCount_4 ?_
  refine cx_getN C hZ hW 2 3 rfl rfl (by decide) inX2 nw_130 rfl rfl dX9_hedgeCount_7 ?_
  exact cx_iret C hr hlocks rfl hW ⟨Nat.le_of_ble_eq_true rfl, Nat.le_of_ble_eq_true rfl⟩ (rfl) dX9_hedgeCount_10
theorem dX9_requireHedge_0 : decode cX9_requireHedge 0 = .ok (.aload_n 0, 1) := by decide +kernel
theorem dX9_requireHedge_1 : decode cX9_requireHedge 1 = .ok (.getfield 10, 3) := by decide +kernel
theorem dX9_requireHedge_4 : decode cX9_requireHedge 4 = .ok (.getfield 93, 3) := by decide +kernel
theorem dX9_requireHedge_7 : decode cX9_requireHedge 7 = .ok (.iload_n 1, 1) := by decide +kernel
theorem dX9_requireHedge_8 : decode cX9_requireHedge 8 = .ok (.invokevirtual 113, 3) := by decide +kernel
theorem dX9_requireHedge_11 : decode cX9_requireHedge 11 = .ok (.ifCond .ne 14, 3) := by decide +kernel
theorem dX9_requireHedge_14 : decode cX9_requireHedge 14 = .ok (.new 300, 3) := by decide +kernel
theorem dX9_requireHedge_17 : decode cX9_requireHedge 17 = .ok (.dup, 1) := by decide +kernel
theorem dX9_requireHedge_18 : decode cX9_requireHedge 18 = .ok (.ldc_w 320, 3) := by decide +kernel
theorem dX9_requireHedge_21 : decode cX9_requireHedge 21 = .ok (.invokespecial 304, 3) := by decide +kernel
theorem dX9_requireHedge_24 : decode cX9_requireHedge 24 = .ok (.athrow, 1) := by decide +kernel
theorem dX9_requireHedge_25 : decode cX9_requireHedge 25 = .ok (.return_, 1) := by decide +kernel
theorem gV_X9_X2_has_113 : GoodIn gw (wsV RX9 113 RX2 yX2_has (Cond.code yX2_has cX2_has 2 (some .boolean) :: gw)) := gdV gw_831 gw_832 gw_833 gw_69 gw_834
theorem hV_X2_has : yX2_has.cls = RX2 ∧ yX2_has.cls ≠ "java/lang/invoke/MethodHandle" ∧ yX2_has.cls ≠ "java/lang/invoke/VarHandle" ∧ (parseMethodDescriptor yX2_has.desc).map (fun d => d.parameters.length) = some 1 := ⟨rfl, by decide +kernel, by decide +kernel, by decide +kernel⟩
set_option maxHeartbeats 2000000 in
set_option maxRecDepth 20000 in
theorem k_X9_requireHedge (l : Launch) (hfl : l.stackTraces = false) (D : va_G) (aT : Nat → ClassId) (x0 : Nat) (v0 : Nat) (h0 : Nat) (t0 : Nat) (p0 : Nat) (o0 : Nat) (a0 : Nat) (a1 : Nat) (a5 : Nat) (a10 : Nat) (a2 : Nat) (a3 : Nat) (a4 : Nat) (a6 : Nat) (a7 : Nat) (a8 : Nat) (a9 : Nat) (x : Int32) : CxG l yX9_requireHedge cX9_requireHedge 2 none 6 1 6 90 D aT [.ref x0, .int x] [(x0, .inr (12, [.ref a0, .ref v0, .ref h0, .ref t0, .ref p0, .ref o0, .int (nI 0), .int (-1), .int (-1)])), (a0, .inr (10, [.ref a1, .ref a5, .ref a10, .int (nI 0), .int (nI 0), .int (nI 0), .int (nI 0), .int (nI 0), .int (nI 0), .int (nI 0), .int (nI 0)])), (a1, .inr (6, [.ref a2, .ref a3, .ref a4, .int (nI 0)])), (a2, .inl (aT 0, 6, .inl (fun _ => nI 0))), (a3, .inl (aT 0, 6, .inl (fun _ => nI 0))), (a4, .inl (aT 0, 6, .inl (fun _ => nI 0))), (a5, .inr (8, [.ref a6, .ref a7, .ref a8, .ref a9, .int (nI 0), .int (nI 0)])), (a6, .inl (aT 0, 12, .inl (fun _ => nI 0))), (a7, .inl (aT 0, 12, .inl (fun _ => nI 0))), (a8, .inl (aT 0, 12, .inl (fun _ => nI 0))), (a9, .inl (aT 0, 12, .inl (fun _ => nI 0))), (a10, .inl (aT 0, 4, .inl (fun _ => nI 0)))] (qV D aT (fun _ => False)) (fun E => E = "java/lang/IndexOutOfBoundsException") := by
  refine CxG.of RX9 (by decide +kernel) rfl (Nat.le_of_ble_eq_true rfl) ?_
  intro p e s m below meth c A ls C hml hl hA hr hlocks hex hnm hZ hW
  have hl : lv_has ls 2 [(0, .ref x0), (1, .int x)] := hl
  have hx := C.1
  have hb := C.2.1
  refine lv_aload_n hx hb dX9_requireHedge_0 rfl (lv_at hl 0 rfl) ?_
  refine cx_get C hW 0 0 rfl rfl (by decide) inX9 gw_346 rfl rfl dX9_requireHedge_1 ?_
  refine cx_getN C hZ hW 1 0 rfl rfl (by decide) inX7 nw_180 rfl rfl dX9_requireHedge_4 ?_
  refine lv_iload_n hx hb dX9_requireHedge_7 rfl (lv_at hl 1 rfl) ?_
  refine cx_calli (Wr := [(x0, .inr (12, [.ref a0, .ref v0, .ref h0, .ref t0, .ref p0, .ref o0, .int (nI 0), .int (-1), .int (-1)])), (a0, .inr (10, [.ref a1, .ref a5, .ref a10, .int (nI 0), .int (nI 0), .int (nI 0), .int (nI 0), .int (nI 0), .int (nI 0), .int (nI 0), .int (nI 0)])), (a5, .inr (8, [.ref a6, .ref a7, .ref a8, .ref a9, .int (nI 0), .int (nI 0)])), (a6, .inl (aT 0, 12, .inl (fun _ => nI 0))), (a7, .inl (aT 0, 12, .inl (fun _ => nI 0))), (a8, .inl (aT 0, 12, .inl (fun _ => nI 0))), (a9, .inl (aT 0, 12, .inl (fun _ => nI 0))), (a10, .inl (aT 0, 4, .inl (fun _ => nI 0)))]) (cx_runV C hml hl.1 hZ hW hA (As := [.int x]) (rest := []) (k_X2_has l hfl D aT a1 a2 a3 a4 x) gV_X9_X2_has_113 hV_X2_has rfl ⟨Nat.le_of_ble_eq_true rfl, Nat.le_of_ble_eq_true rfl⟩ ⟨Nat.le_of_ble_eq_true rfl, Nat.le_of_ble_eq_true rfl⟩ [2, 3, 4, 5] rfl (by decide) 2 6 rfl rfl rfl rfl (Nat.le_of_ble_eq_true rfl) dX9_requireHedge_8) hW hA [2, 3, 4, 5] [0, 1, 6, 7, 8, 9, 10, 11] rfl rfl (by decide) (by decide) (fun _ _ _ _ _ h9 => h9.elim) (fun r_8 W_8 H locs hq hW => ?_)
  obtain ⟨rfl, rfl⟩ := hq
  have hW : CxB D [(x0, .inr (12, [.ref a0, .ref v0, .ref h0, .ref t0, .ref p0, .ref o0, .int (nI 0), .int (-1), .int (-1)])), (a0, .inr (10, [.ref a1, .ref a5, .ref a10, .int (nI 0), .int (nI 0), .int (nI 0), .int (nI 0), .int (nI 0), .int (nI 0), .int (nI 0), .int (nI 0)])), (a5, .inr (8, [.ref a6, .ref a7, .ref a8, .ref a9, .int (nI 0), .int (nI 0)])), (a6, .inl (aT 0, 12, .inl (fun _ => nI 0))), (a7, .inl (aT 0, 12, .inl (fun _ => nI 0))), (a8, .inl (aT 0, 12, .inl (fun _ => nI 0))), (a9, .inl (aT 0, 12, .inl (fun _ => nI 0))), (a10, .inl (aT 0, 4, .inl (fun _ => nI 0))), (a1, .inr (6, [.ref a2, .ref a3, .ref a4, .int (nI 0)])), (a2, .inl (aT 0, 6, .inl (fun _ => nI 0))), (a3, .inl (aT 0, 6, .inl (fun _ => nI 0))), (a4, .inl (aT 0, 6, .inl (fun _ => nI 0)))] A s.heap H _ := hW
  refine lv_if_ne hx hb (x := (nI 0)) (tgt := 25) dX9_requireHedge_11 (by decide) (fun c_11 => ?_) (fun c_11 => ?_)
  · exact absurd c_11 (by decide)
  · exact cx_throwW C hfl hex hml hl.1 hlocks hZ hW at_X9_IndexOutOfBoundsException (List.mem_of_getElem? (i := 8) rfl) gw_835 gw_90 (by decide +kernel) dX9_requireHedge_14 dX9_requireHedge_17 dX9_requireHedge_18 dX9_requireHedge_21 dX9_requireHedge_24 ⟨Nat.le_of_ble_eq_true rfl, Nat.le_of_ble_eq_true rfl, Nat.le_of_ble_eq_true rfl, Nat.le_of_ble_eq_true rfl⟩ ⟨Nat.le_of_ble_eq_true rfl, Nat.le_of_ble_eq_true rfl⟩ (rfl)
theorem dX9_requirePosition_0 : decode cX9_requirePosition 0 = .ok (.iload_n 1, 1) := by decide +kernel
theorem dX9_requirePosition_1 : decode cX9_requirePosition 1 = .ok (.ifCond .lt 17, 3) := by decide +kernel
theorem dX9_requirePosition_4 : decode cX9_requirePosition 4 = .ok (.iload_n 1, 1) := by decide +kernel
theorem dX9_requirePosition_5 : decode cX9_requirePosition 5 = .ok (.aload_n 0, 1) := by decide +kernel
theorem dX9_requirePosition_6 : decode cX9_requirePosition 6 = .ok (.getfield 10, 3) := by decide +kernel
theorem dX9_requirePosition_9 : decode cX9_requirePosition 9 = .ok (.getfield 127, 3) := by decide +kernel
theorem dX9_requirePosition_12 : decode cX9_requirePosition 12 = .ok (.getfield 146, 3) := by decide +kernel
theorem dX9_requirePosition_15 : decode cX9_requirePosition 15 = .ok (.if_icmp .lt 14, 3) := by decide +kernel
theorem dX9_requirePosition_18 : decode cX9_requirePosition 18 = .ok (.new 300, 3) := by decide +kernel
theorem dX9_requirePosition_21 : decode cX9_requirePosition 21 = .ok (.dup, 1) := by decide +kernel
theorem dX9_requirePosition_22 : decode cX9_requirePosition 22 = .ok (.ldc_w 322, 3) := by decide +kernel
theorem dX9_requirePosition_25 : decode cX9_requirePosition 25 = .ok (.invokespecial 304, 3) := by decide +kernel
theorem dX9_requirePosition_28 : decode cX9_requirePosition 28 = .ok (.athrow, 1) := by decide +kernel
theorem dX9_requirePosition_29 : decode cX9_requirePosition 29 = .ok (.return_, 1) := by decide +kernel
set_option maxHeartbeats 2000000 in
set_option maxRecDepth 20000 in
theorem k_X9_requirePosition (l : Launch) (hfl : l.stackTraces = false) (D : va_G) (aT : Nat → ClassId) (x0 : Nat) (v0 : Nat) (h0 : Nat) (t0 : Nat) (p0 : Nat) (o0 : Nat) (a0 : Nat) (a1 : Nat) (a5 : Nat) (a10 : Nat) (a2 : Nat) (a3 : Nat) (a4 : Nat) (a6 : Nat) (a7 : Nat) (a8 : Nat) (a9 : Nat) (x : Int32) : CxG l yX9_requirePosition cX9_requirePosition 2 none 6 1 6 90 D aT [.ref x0, .int x] [(x0, .inr (12, [.ref a0, .ref v0, .ref h0, .ref t0, .ref p0, .ref o0, .int (nI 0), .int (-1), .int (-1)])), (a0, .inr (10, [.ref a1, .ref a5, .ref a10, .int (nI 0), .int (nI 0), .int (nI 0), .int (nI 0), .int (nI 0), .int (nI 0), .int (nI 0), .int (nI 0)])), (a1, .inr (6, [.ref a2, .ref a3, .ref a4, .int (nI 0)])), (a2, .inl (aT 0, 6, .inl (fun _ => nI 0))), (a3, .inl (aT 0, 6, .inl (fun _ => nI 0))), (a4, .inl (aT 0, 6, .inl (fun _ => nI 0))), (a5, .inr (8, [.ref a6, .ref a7, .ref a8, .ref a9, .int (nI 0), .int (nI 0)])), (a6, .inl (aT 0, 12, .inl (fun _ => nI 0))), (a7, .inl (aT 0, 12, .inl (fun _ => nI 0))), (a8, .inl (aT 0, 12, .inl (fun _ => nI 0))), (a9, .inl (aT 0, 12, .inl (fun _ => nI 0))), (a10, .inl (aT 0, 4, .inl (fun _ => nI 0)))] (qV D aT (fun _ => False)) (fun E => E = "java/lang/IndexOutOfBoundsException") := by
  refine CxG.of RX9 (by decide +kernel) rfl (Nat.le_of_ble_eq_true rfl) ?_
  intro p e s m below meth c A ls C hml hl hA hr hlocks hex hnm hZ hW
  have hl : lv_has ls 2 [(0, .ref x0), (1, .int x)] := hl
  have hx := C.1
  have hb := C.2.1
  refine lv_iload_n hx hb dX9_requirePosition_0 rfl (lv_at hl 1 rfl) ?_
  refine lv_if_lt hx hb (x := x) (tgt := 18) dX9_requirePosition_1 (by decide) (fun c_1 => ?_) (fun c_1 => ?_)
  · exact cx_throwW C hfl hex hml hl.1 hlocks hZ hW at_X9_IndexOutOfBoundsException (List.mem_of_getElem? (i := 10) rfl) gw_835 gw_90 (by decide +kernel) dX9_requirePosition_18 dX9_requirePosition_21 dX9_requirePosition_22 dX9_requirePosition_25 dX9_requirePosition_28 ⟨Nat.le_of_ble_eq_true rfl, Nat.le_of_ble_eq_true rfl, Nat.le_of_ble_eq_true rfl, Nat.le_of_ble_eq_true rfl⟩ ⟨Nat.le_of_ble_eq_true rfl, Nat.le_of_ble_eq_true rfl⟩ (rfl)
  · refine lv_iload_n hx hb dX9_requirePosition_4 rfl (lv_at hl 1 rfl) ?_
    refine lv_aload_n hx hb dX9_requirePosition_5 rfl (lv_at hl 0 rfl) ?_
    refine cx_get C hW 0 0 rfl rfl (by decide) inX9 gw_346 rfl rfl dX9_requirePosition_6 ?_
    refine cx_getN C hZ hW 1 1 rfl rfl (by decide) inX7 nw_182 rfl rfl dX9_requirePosition_9 ?_
    refine cx_getN C hZ hW 6 4 rfl rfl (by decide) inX5 nw_164 rfl rfl dX9_requirePosition_12 ?_
    refine lv_icmp_lt hx hb (x := x) (y := (nI 0)) (tgt := 29) dX9_requirePosition_15 (by decide) (fun c_15 => ?_) (fun c_15 => ?_)
    · exact absurd c_15 c_1
    · exact cx_throwW C hfl hex hml hl.1 hlocks hZ hW at_X9_IndexOutOfBoundsException (List.mem_of_getElem? (i := 10) rfl) gw_835 gw_90 (by decide +kernel) dX9_requirePosition_18 dX9_requirePosition_21 dX9_requirePosition_22 dX9_requirePosition_25 dX9_requirePosition_28 ⟨Nat.le_of_ble_eq_true rfl, Nat.le_of_ble_eq_true rfl, Nat.le_of_ble_eq_true rfl, Nat.le_of_ble_eq_true rfl⟩ ⟨Nat.le_of_ble_eq_true rfl, Nat.le_of_ble_eq_true rfl⟩ (rfl)
theorem dX9_leaves_0 : decode cX9_leaves 0 = .ok (.aload_n 0, 1) := by decide +kernel
theorem dX9_leaves_1 : decode cX9_leaves 1 = .ok (.iload_n 1, 1) := by decide +kernel
theorem dX9_leaves_2 : decode cX9_leaves 2 = .ok (.invokevirtual 102, 3) := by decide +kernel
theorem dX9_leaves_5 : decode cX9_leaves 5 = .ok (.aload_n 0, 1) := by decide +kernel
theorem dX9_leaves_6 : decode cX9_leaves 6 = .ok (.getfield 10, 3) := by decide +kernel
theorem dX9_leaves_9 : decode cX9_leaves 9 = .ok (.getfield 93, 3) := by decide +kernel
theorem dX9_leaves_12 : decode cX9_leaves 12 = .ok (.getfield 106, 3) := by decide +kernel
theorem dX9_leaves_15 : decode cX9_leaves 15 = .ok (.iload_n 1, 1) := by decide +kernel
theorem dX9_leaves_16 : decode cX9_leaves 16 = .ok (.iaload, 1) := by decide +kernel
theorem dX9_leaves_17 : decode cX9_leaves 17 = .ok (.ireturn, 1) := by decide +kernel
theorem gV_X9_X9_requireHedge_102 : GoodIn gw (wsV RX9 102 RX9 yX9_requireHedge (Cond.code yX9_requireHedge cX9_requireHedge 2 (none) :: gw)) := gdV gw_827 gw_829 gw_6 gw_67 gw_830
theorem hV_X9_requireHedge : yX9_requireHedge.cls = RX9 ∧ yX9_requireHedge.cls ≠ "java/lang/invoke/MethodHandle" ∧ yX9_requireHedge.cls ≠ "java/lang/invoke/VarHandle" ∧ (parseMethodDescriptor yX9_requireHedge.desc).map (fun d => d.parameters.length) = some 1 := ⟨rfl, by decide +kernel, by decide +kernel, by decide +kernel⟩
set_option maxHeartbeats 2000000 in
set_option maxRecDepth 20000 in
theorem k_X9_leaves (l : Launch) (hfl : l.stackTraces = false) (D : va_G) (aT : Nat → ClassId) (x0 : Nat) (v0 : Nat) (h0 : Nat) (t0 : Nat) (p0 : Nat) (o0 : Nat) (a0 : Nat) (a1 : Nat) (a5 : Nat) (a10 : Nat) (a2 : Nat) (a3 : Nat) (a4 : Nat) (a6 : Nat) (a7 : Nat) (a8 : Nat) (a9 : Nat) (x : Int32) : CxG l yX9_leaves cX9_leaves 2 (some (.int)) 7 1 6 111 D aT [.ref x0, .int x] [(x0, .inr (12, [.ref a0, .ref v0, .ref h0, .ref t0, .ref p0, .ref o0, .int (nI 0), .int (-1), .int (-1)])), (a0, .inr (10, [.ref a1, .ref a5, .ref a10, .int (nI 0), .int (nI 0), .int (nI 0), .int (nI 0), .int (nI 0), .int (nI 0), .int (nI 0), .int (nI 0)])), (a1, .inr (6, [.ref a2, .ref a3, .ref a4, .int (nI 0)])), (a2, .inl (aT 0, 6, .inl (fun _ => nI 0))), (a3, .inl (aT 0, 6, .inl (fun _ => nI 0))), (a4, .inl (aT 0, 6, .inl (fun _ => nI 0))), (a5, .inr (8, [.ref a6, .ref a7, .ref a8, .ref a9, .int (nI 0), .int (nI 0)])), (a6, .inl (aT 0, 12, .inl (fun _ => nI 0))), (a7, .inl (aT 0, 12, .inl (fun _ => nI 0))), (a8, .inl (aT 0, 12, .inl (fun _ => nI 0))), (a9, .inl (aT 0, 12, .inl (fun _ => nI 0))), (a10, .inl (aT 0, 4, .inl (fun _ => nI 0)))] (qI D aT (fun _ _ => False)) (fun E => E = "java/lang/IndexOutOfBoundsException") := by
  refine CxG.of RX9 (by decide +kernel) rfl (Nat.le_of_ble_eq_true rfl) ?_
  intro p e s m below meth c A ls C hml hl hA hr hlocks hex hnm hZ hW
  have hl : lv_has ls 2 [(0, .ref x0), (1, .int x)] := hl
  have hx := C.1
  have hb := C.2.1
  refine lv_aload_n hx hb dX9_leaves_0 rfl (lv_at hl 0 rfl) ?_
  refine lv_iload_n hx hb dX9_leaves_1 rfl (lv_at hl 1 rfl) ?_
  refine cx_callv (Wr := []) (cx_runV C hml hl.1 hZ hW hA (As := [.int x]) (rest := []) (k_X9_requireHedge l hfl D aT x0 v0 h0 t0 p0 o0 a0 a1 a5 a10 a2 a3 a4 a6 a7 a8 a9 x) gV_X9_X9_requireHedge_102 hV_X9_requireHedge rfl ⟨Nat.le_of_ble_eq_true rfl, Nat.le_of_ble_eq_true rfl⟩ ⟨Nat.le_of_ble_eq_true rfl, Nat.le_of_ble_eq_true rfl⟩ [0, 1, 2, 3, 4, 5, 6, 7, 8, 9, 10, 11] rfl (by decide) 0 12 rfl rfl rfl rfl (Nat.le_of_ble_eq_true rfl) dX9_leaves_2) hW hA [0, 1, 2, 3, 4, 5, 6, 7, 8, 9, 10, 11] [] rfl rfl (by decide) (by decide) (fun E ce q9 H9 locs9 hE hS9 h7 h8 h9 => cx_out hex hlocks hS9 h7 h8 h9 ⟨Nat.le_of_ble_eq_true rfl, Nat.le_of_ble_eq_true rfl⟩ (hE)) (fun W_2 H locs hq hW => ?_)
  exact hq.elim
theorem dX9_thorns_0 : decode cX9_thorns 0 = .ok (.aload_n 0, 1) := by decide +kernel
theorem dX9_thorns_1 : decode cX9_thorns 1 = .ok (.iload_n 1, 1) := by decide +kernel
theorem dX9_thorns_2 : decode cX9_thorns 2 = .ok (.invokevirtual 102, 3) := by decide +kernel
theorem dX9_thorns_5 : decode cX9_thorns 5 = .ok (.aload_n 0, 1) := by decide +kernel
theorem dX9_thorns_6 : decode cX9_thorns 6 = .ok (.getfield 10, 3) := by decide +kernel
theorem dX9_thorns_9 : decode cX9_thorns 9 = .ok (.getfield 93, 3) := by decide +kernel
theorem dX9_thorns_12 : decode cX9_thorns 12 = .ok (.getfield 110, 3) := by decide +kernel
theorem dX9_thorns_15 : decode cX9_thorns 15 = .ok (.iload_n 1, 1) := by decide +kernel
theorem dX9_thorns_16 : decode cX9_thorns 16 = .ok (.iaload, 1) := by decide +kernel
theorem dX9_thorns_17 : decode cX9_thorns 17 = .ok (.ireturn, 1) := by decide +kernel
set_option maxHeartbeats 2000000 in
set_option maxRecDepth 20000 in
theorem k_X9_thorns (l : Launch) (hfl : l.stackTraces = false) (D : va_G) (aT : Nat → ClassId) (x0 : Nat) (v0 : Nat) (h0 : Nat) (t0 : Nat) (p0 : Nat) (o0 : Nat) (a0 : Nat) (a1 : Nat) (a5 : Nat) (a10 : Nat) (a2 : Nat) (a3 : Nat) (a4 : Nat) (a6 : Nat) (a7 : Nat) (a8 : Nat) (a9 : Nat) (x : Int32) : CxG l yX9_thorns cX9_thorns 2 (some (.int)) 7 1 6 111 D aT [.ref x0, .int x] [(x0, .inr (12, [.ref a0, .ref v0, .ref h0, .ref t0, .ref p0, .ref o0, .int (nI 0), .int (-1), .int (-1)])), (a0, .inr (10, [.ref a1, .ref a5, .ref a10, .int (nI 0), .int (nI 0), .int (nI 0), .int (nI 0), .int (nI 0), .int (nI 0), .int (nI 0), .int (nI 0)])), (a1, .inr (6, [.ref a2, .ref a3, .ref a4, .int (nI 0)])), (a2, .inl (aT 0, 6, .inl (fun _ => nI 0))), (a3, .inl (aT 0, 6, .inl (fun _ => nI 0))), (a4, .inl (aT 0, 6, .inl (fun _ => nI 0))), (a5, .inr (8, [.ref a6, .ref a7, .ref a8, .ref a9, .int (nI 0), .int (nI 0)])), (a6, .inl (aT 0, 12, .inl (fun _ => nI 0))), (a7, .inl (aT 0, 12, .inl (fun _ => nI 0))), (a8, .inl (aT 0, 12, .inl (fun _ => nI 0))), (a9, .inl (aT 0, 12, .inl (fun _ => nI 0))), (a10, .inl (aT 0, 4, .inl (fun _ => nI 0)))] (qI D aT (fun _ _ => False)) (fun E => E = "java/lang/IndexOutOfBoundsException") := by
  refine CxG.of RX9 (by decide +kernel) rfl (Nat.le_of_ble_eq_true rfl) ?_
  intro p e s m below meth c A ls C hml hl hA hr hlocks hex hnm hZ hW
  have hl : lv_has ls 2 [(0, .ref x0), (1, .int x)] := hl
  have hx := C.1
  have hb := C.2.1
  refine lv_aload_n hx hb dX9_thorns_0 rfl (lv_at hl 0 rfl) ?_
  refine lv_iload_n hx hb dX9_thorns_1 rfl (lv_at hl 1 rfl) ?_
  refine cx_callv (Wr := []) (cx_runV C hml hl.1 hZ hW hA (As := [.int x]) (rest := []) (k_X9_requireHedge l hfl D aT x0 v0 h0 t0 p0 o0 a0 a1 a5 a10 a2 a3 a4 a6 a7 a8 a9 x) gV_X9_X9_requireHedge_102 hV_X9_requireHedge rfl ⟨Nat.le_of_ble_eq_true rfl, Nat.le_of_ble_eq_true rfl⟩ ⟨Nat.le_of_ble_eq_true rfl, Nat.le_of_ble_eq_true rfl⟩ [0, 1, 2, 3, 4, 5, 6, 7, 8, 9, 10, 11] rfl (by decide) 0 12 rfl rfl rfl rfl (Nat.le_of_ble_eq_true rfl) dX9_thorns_2) hW hA [0, 1, 2, 3, 4, 5, 6, 7, 8, 9, 10, 11] [] rfl rfl (by decide) (by decide) (fun E ce q9 H9 locs9 hE hS9 h7 h8 h9 => cx_out hex hlocks hS9 h7 h8 h9 ⟨Nat.le_of_ble_eq_true rfl, Nat.le_of_ble_eq_true rfl⟩ (hE)) (fun W_2 H locs hq hW => ?_)
  exact hq.elim
theorem dX9_hedgeAtRank_0 : decode cX9_hedgeAtRank 0 = .ok (.aload_n 0, 1) := by decide +kernel
theorem dX9_hedgeAtRank_1 : decode cX9_hedgeAtRank 1 = .ok (.getfield 10, 3) := by decide +kernel
theorem dX9_hedgeAtRank_4 : decode cX9_hedgeAtRank 4 = .ok (.getfield 93, 3) := by decide +kernel
theorem dX9_hedgeAtRank_7 : decode cX9_hedgeAtRank 7 = .ok (.iload_n 1, 1) := by decide +kernel
theorem dX9_hedgeAtRank_8 : decode cX9_hedgeAtRank 8 = .ok (.invokevirtual 113, 3) := by decide +kernel
theorem dX9_hedgeAtRank_11 : decode cX9_hedgeAtRank 11 = .ok (.ifCond .ne 13, 3) := by decide +kernel
theorem dX9_hedgeAtRank_14 : decode cX9_hedgeAtRank 14 = .ok (.new 117, 3) := by decide +kernel
theorem dX9_hedgeAtRank_17 : decode cX9_hedgeAtRank 17 = .ok (.dup, 1) := by decide +kernel
theorem dX9_hedgeAtRank_18 : decode cX9_hedgeAtRank 18 = .ok (.ldc 119, 2) := by decide +kernel
theorem dX9_hedgeAtRank_20 : decode cX9_hedgeAtRank 20 = .ok (.invokespecial 121, 3) := by decide +kernel
theorem dX9_hedgeAtRank_23 : decode cX9_hedgeAtRank 23 = .ok (.athrow, 1) := by decide +kernel
theorem dX9_hedgeAtRank_24 : decode cX9_hedgeAtRank 24 = .ok (.aload_n 0, 1) := by decide +kernel
theorem dX9_hedgeAtRank_25 : decode cX9_hedgeAtRank 25 = .ok (.getfield 10, 3) := by decide +kernel
theorem dX9_hedgeAtRank_28 : decode cX9_hedgeAtRank 28 = .ok (.getfield 93, 3) := by decide +kernel
theorem dX9_hedgeAtRank_31 : decode cX9_hedgeAtRank 31 = .ok (.iload_n 1, 1) := by decide +kernel
theorem dX9_hedgeAtRank_32 : decode cX9_hedgeAtRank 32 = .ok (.invokevirtual 124, 3) := by decide +kernel
theorem dX9_hedgeAtRank_35 : decode cX9_hedgeAtRank 35 = .ok (.ireturn, 1) := by decide +kernel
set_option maxHeartbeats 2000000 in
set_option maxRecDepth 20000 in
theorem k_X9_hedgeAtRank (l : Launch) (hfl : l.stackTraces = false) (D : va_G) (aT : Nat → ClassId) (x0 : Nat) (v0 : Nat) (h0 : Nat) (t0 : Nat) (p0 : Nat) (o0 : Nat) (a0 : Nat) (a1 : Nat) (a5 : Nat) (a10 : Nat) (a2 : Nat) (a3 : Nat) (a4 : Nat) (a6 : Nat) (a7 : Nat) (a8 : Nat) (a9 : Nat) (x : Int32) : CxG l yX9_hedgeAtRank cX9_hedgeAtRank 2 (some (.int)) 6 1 6 90 D aT [.ref x0, .int x] [(x0, .inr (12, [.ref a0, .ref v0, .ref h0, .ref t0, .ref p0, .ref o0, .int (nI 0), .int (-1), .int (-1)])), (a0, .inr (10, [.ref a1, .ref a5, .ref a10, .int (nI 0), .int (nI 0), .int (nI 0), .int (nI 0), .int (nI 0), .int (nI 0), .int (nI 0), .int (nI 0)])), (a1, .inr (6, [.ref a2, .ref a3, .ref a4, .int (nI 0)])), (a2, .inl (aT 0, 6, .inl (fun _ => nI 0))), (a3, .inl (aT 0, 6, .inl (fun _ => nI 0))), (a4, .inl (aT 0, 6, .inl (fun _ => nI 0))), (a5, .inr (8, [.ref a6, .ref a7, .ref a8, .ref a9, .int (nI 0), .int (nI 0)])), (a6, .inl (aT 0, 12, .inl (fun _ => nI 0))), (a7, .inl (aT 0, 12, .inl (fun _ => nI 0))), (a8, .inl (aT 0, 12, .inl (fun _ => nI 0))), (a9, .inl (aT 0, 12, .inl (fun _ => nI 0))), (a10, .inl (aT 0, 4, .inl (fun _ => nI 0)))] (qI D aT (fun _ _ => False)) (fun E => E = "java/util/NoSuchElementException") := by
  refine CxG.of RX9 (by decide +kernel) rfl (Nat.le_of_ble_eq_true rfl) ?_
  intro p e s m below meth c A ls C hml hl hA hr hlocks hex hnm hZ hW
  have hl : lv_has ls 2 [(0, .ref x0), (1, .int x)] := hl
  have hx := C.1
  have hb := C.2.1
  refine lv_aload_n hx hb dX9_hedgeAtRank_0 rfl (lv_at hl 0 rfl) ?_
  refine cx_get C hW 0 0 rfl rfl (by decide) inX9 gw_346 rfl rfl dX9_hedgeAtRank_1 ?_
  refine cx_getN C hZ hW 1 0 rfl rfl (by decide) inX7 nw_180 rfl rfl dX9_hedgeAtRank_4 ?_
  refine lv_iload_n hx hb dX9_hedgeAtRank_7 rfl (lv_at hl 1 rfl) ?_
  refine cx_calli (Wr := [(x0, .inr (12, [.ref a0, .ref v0, .ref h0, .ref t0, .ref p0, .ref o0, .int (nI 0), .int (-1), .int (-1)])), (a0, .inr (10, [.ref a1, .ref a5, .ref a10, .int (nI 0), .int (nI 0), .int (nI 0), .int (nI 0), .int (nI 0), .int (nI 0), .int (nI 0), .int (nI 0)])), (a5, .inr (8, [.ref a6, .ref a7, .ref a8, .ref a9, .int (nI 0), .int (nI 0)])), (a6, .inl (aT 0, 12, .inl (fun _ => nI 0))), (a7, .inl (aT 0, 12, .inl (fun _ => nI 0))), (a8, .inl (aT 0, 12, .inl (fun _ => nI 0))), (a9, .inl (aT 0, 12, .inl (fun _ => nI 0))), (a10, .inl (aT 0, 4, .inl (fun _ => nI 0)))]) (cx_runV C hml hl.1 hZ hW hA (As := [.int x]) (rest := []) (k_X2_has l hfl D aT a1 a2 a3 a4 x) gV_X9_X2_has_113 hV_X2_has rfl ⟨Nat.le_of_ble_eq_true rfl, Nat.le_of_ble_eq_true rfl⟩ ⟨Nat.le_of_ble_eq_true rfl, Nat.le_of_ble_eq_true rfl⟩ [2, 3, 4, 5] rfl (by decide) 2 6 rfl rfl rfl rfl (Nat.le_of_ble_eq_true rfl) dX9_hedgeAtRank_8) hW hA [2, 3, 4, 5] [0, 1, 6, 7, 8, 9, 10, 11] rfl rfl (by decide) (by decide) (fun _ _ _ _ _ h9 => h9.elim) (fun r_8 W_8 H locs hq hW => ?_)
  obtain ⟨rfl, rfl⟩ := hq
  have hW : CxB D [(x0, .inr (12, [.ref a0, .ref v0, .ref h0, .ref t0, .ref p0, .ref o0, .int (nI 0), .int (-1), .int (-1)])), (a0, .inr (10, [.ref a1, .ref a5, .ref a10, .int (nI 0), .int (nI 0), .int (nI 0), .int (nI 0), .int (nI 0), .int (nI 0), .int (nI 0), .int (nI 0)])), (a5, .inr (8, [.ref a6, .ref a7, .ref a8, .ref a9, .int (nI 0), .int (nI 0)])), (a6, .inl (aT 0, 12, .inl (fun _ => nI 0))), (a7, .inl (aT 0, 12, .inl (fun _ => nI 0))), (a8, .inl (aT 0, 12, .inl (fun _ => nI 0))), (a9, .inl (aT 0, 12, .inl (fun _ => nI 0))), (a10, .inl (aT 0, 4, .inl (fun _ => nI 0))), (a1, .inr (6, [.ref a2, .ref a3, .ref a4, .int (nI 0)])), (a2, .inl (aT 0, 6, .inl (fun _ => nI 0))), (a3, .inl (aT 0, 6, .inl (fun _ => nI 0))), (a4, .inl (aT 0, 6, .inl (fun _ => nI 0)))] A s.heap H _ := hW
  refine lv_if_ne hx hb (x := (nI 0)) (tgt := 24) dX9_hedgeAtRank_11 (by decide) (fun c_11 => ?_) (fun c_11 => ?_)
  · exact absurd c_11 (by decide)
  · exact cx_throwX C hfl hex hml hl.1 hlocks hZ hW dx_NoSuchElementException_0 dx_NoSuchElementException_1 dx_NoSuchElementException_2 dx_NoSuchElementException_5 at_X9_NoSuchElementException (List.mem_of_getElem? (i := 9) rfl) gw_862 gw_88 (by decide +kernel) dX9_hedgeAtRank_14 dX9_hedgeAtRank_17 dX9_hedgeAtRank_18 dX9_hedgeAtRank_20 dX9_hedgeAtRank_23 ⟨Nat.le_of_ble_eq_true rfl, Nat.le_of_ble_eq_true rfl, Nat.le_of_ble_eq_true rfl, Nat.le_of_ble_eq_true rfl⟩ ⟨Nat.le_of_ble_eq_true rfl, Nat.le_of_ble_eq_true rfl⟩ (rfl)
theorem dX9_leavesInFavour_0 : decode cX9_leavesInFavour 0 = .ok (.aload_n 0, 1) := by decide +kernel
theorem dX9_leavesInFavour_1 : decode cX9_leavesInFavour 1 = .ok (.getfield 10, 3) := by decide +kernel
theorem dX9_leavesInFavour_4 : decode cX9_leavesInFavour 4 = .ok (.getfield 127, 3) := by decide +kernel
theorem dX9_leavesInFavour_7 : decode cX9_leavesInFavour 7 = .ok (.iload_n 1, 1) := by decide +kernel
theorem dX9_leavesInFavour_8 : decode cX9_leavesInFavour 8 = .ok (.invokevirtual 131, 3) := by decide +kernel
theorem dX9_leavesInFavour_11 : decode cX9_leavesInFavour 11 = .ok (.istore_n 2, 1) := by decide +kernel
theorem dX9_leavesInFavour_12 : decode cX9_leavesInFavour 12 = .ok (.aload_n 0, 1) := by decide +kernel
theorem dX9_leavesInFavour_13 : decode cX9_leavesInFavour 13 = .ok (.getfield 10, 3) := by decide +kernel
theorem dX9_leavesInFavour_16 : decode cX9_leavesInFavour 16 = .ok (.getfield 93, 3) := by decide +kernel
theorem dX9_leavesInFavour_19 : decode cX9_leavesInFavour 19 = .ok (.aload_n 0, 1) := by decide +kernel
theorem dX9_leavesInFavour_20 : decode cX9_leavesInFavour 20 = .ok (.getfield 10, 3) := by decide +kernel
theorem dX9_leavesInFavour_23 : decode cX9_leavesInFavour 23 = .ok (.getfield 127, 3) := by decide +kernel
theorem dX9_leavesInFavour_26 : decode cX9_leavesInFavour 26 = .ok (.getfield 136, 3) := by decide +kernel
theorem dX9_leavesInFavour_29 : decode cX9_leavesInFavour 29 = .ok (.iload_n 2, 1) := by decide +kernel
theorem dX9_leavesInFavour_30 : decode cX9_leavesInFavour 30 = .ok (.iaload, 1) := by decide +kernel
theorem dX9_leavesInFavour_31 : decode cX9_leavesInFavour 31 = .ok (.invokevirtual 139, 3) := by decide +kernel
theorem dX9_leavesInFavour_34 : decode cX9_leavesInFavour 34 = .ok (.ireturn, 1) := by decide +kernel
theorem gV_X9_X5_require_131 : GoodIn gw (wsV RX9 131 RX5 yX5_require (Cond.code yX5_require cX5_require 3 (some .int) :: gw)) := gdV gw_884 gw_700 gw_701 gw_70 gw_702
set_option maxHeartbeats 2000000 in
set_option maxRecDepth 20000 in
theorem k_X9_leavesInFavour (l : Launch) (hfl : l.stackTraces = false) (D : va_G) (aT : Nat → ClassId) (x0 : Nat) (v0 : Nat) (h0 : Nat) (t0 : Nat) (p0 : Nat) (o0 : Nat) (a0 : Nat) (a1 : Nat) (a5 : Nat) (a10 : Nat) (a2 : Nat) (a3 : Nat) (a4 : Nat) (a6 : Nat) (a7 : Nat) (a8 : Nat) (a9 : Nat) (x : Int32) : CxG l yX9_leavesInFavour cX9_leavesInFavour 3 (some (.int)) 7 1 6 112 D aT [.ref x0, .int x] [(x0, .inr (12, [.ref a0, .ref v0, .ref h0, .ref t0, .ref p0, .ref o0, .int (nI 0), .int (-1), .int (-1)])), (a0, .inr (10, [.ref a1, .ref a5, .ref a10, .int (nI 0), .int (nI 0), .int (nI 0), .int (nI 0), .int (nI 0), .int (nI 0), .int (nI 0), .int (nI 0)])), (a1, .inr (6, [.ref a2, .ref a3, .ref a4, .int (nI 0)])), (a2, .inl (aT 0, 6, .inl (fun _ => nI 0))), (a3, .inl (aT 0, 6, .inl (fun _ => nI 0))), (a4, .inl (aT 0, 6, .inl (fun _ => nI 0))), (a5, .inr (8, [.ref a6, .ref a7, .ref a8, .ref a9, .int (nI 0), .int (nI 0)])), (a6, .inl (aT 0, 12, .inl (fun _ => nI 0))), (a7, .inl (aT 0, 12, .inl (fun _ => nI 0))), (a8, .inl (aT 0, 12, .inl (fun _ => nI 0))), (a9, .inl (aT 0, 12, .inl (fun _ => nI 0))), (a10, .inl (aT 0, 4, .inl (fun _ => nI 0)))] (qI D aT (fun _ _ => False)) (fun E => E = "java/util/NoSuchElementException") := by
  refine CxG.of RX9 (by decide +kernel) rfl (Nat.le_of_ble_eq_true rfl) ?_
  intro p e s m below meth c A ls C hml hl hA hr hlocks hex hnm hZ hW
  have hl : lv_has ls 3 [(0, .ref x0), (1, .int x)] := hl
  have hx := C.1
  have hb := C.2.1
  refine lv_aload_n hx hb dX9_leavesInFavour_0 rfl (lv_at hl 0 rfl) ?_
  refine cx_get C hW 0 0 rfl rfl (by decide) inX9 gw_346 rfl rfl dX9_leavesInFavour_1 ?_
  refine cx_getN C hZ hW 1 1 rfl rfl (by decide) inX7 nw_182 rfl rfl dX9_leavesInFavour_4 ?_
  refine lv_iload_n hx hb dX9_leavesInFavour_7 rfl (lv_at hl 1 rfl) ?_
  refine cx_calli (Wr := [(x0, .inr (12, [.ref a0, .ref v0, .ref h0, .ref t0, .ref p0, .ref o0, .int (nI 0), .int (-1), .int (-1)])), (a0, .inr (10, [.ref a1, .ref a5, .ref a10, .int (nI 0), .int (nI 0), .int (nI 0), .int (nI 0), .int (nI 0), .int (nI 0), .int (nI 0), .int (nI 0)])), (a1, .inr (6, [.ref a2, .ref a3, .ref a4, .int (nI 0)])), (a2, .inl (aT 0, 6, .inl (fun _ => nI 0))), (a3, .inl (aT 0, 6, .inl (fun _ => nI 0))), (a4, .inl (aT 0, 6, .inl (fun _ => nI 0))), (a10, .inl (aT 0, 4, .inl (fun _ => nI 0)))]) (cx_runV C hml hl.1 hZ hW hA (As := [.int x]) (rest := []) (k_X5_require l hfl D aT a5 a6 a7 a8 a9 x) gV_X9_X5_require_131 hV_X5_require rfl ⟨Nat.le_of_ble_eq_true rfl, Nat.le_of_ble_eq_true rfl⟩ ⟨Nat.le_of_ble_eq_true rfl, Nat.le_of_ble_eq_true rfl⟩ [6, 7, 8, 9, 10] rfl (by decide) 6 8 rfl rfl rfl rfl (Nat.le_of_ble_eq_true rfl) dX9_leavesInFavour_8) hW hA [6, 7, 8, 9, 10] [0, 1, 2, 3, 4, 5, 11] rfl rfl (by decide) (by decide) (fun E ce q9 H9 locs9 hE hS9 h7 h8 h9 => cx_out hex hlocks hS9 h7 h8 h9 ⟨Nat.le_of_ble_eq_true rfl, Nat.le_of_ble_eq_true rfl⟩ (hE)) (fun r_8 W_8 H locs hq hW => ?_)
  exact hq.elim
theorem dX9_wouldVeto_0 : decode cX9_wouldVeto 0 = .ok (.aload_n 0, 1) := by decide +kernel
theorem dX9_wouldVeto_1 : decode cX9_wouldVeto 1 = .ok (.iload_n 1, 1) := by decide +kernel
theorem dX9_wouldVeto_2 : decode cX9_wouldVeto 2 = .ok (.invokevirtual 102, 3) := by decide +kernel
theorem dX9_wouldVeto_5 : decode cX9_wouldVeto 5 = .ok (.aload_n 0, 1) := by decide +kernel
theorem dX9_wouldVeto_6 : decode cX9_wouldVeto 6 = .ok (.getfield 10, 3) := by decide +kernel
theorem dX9_wouldVeto_9 : decode cX9_wouldVeto 9 = .ok (.getfield 127, 3) := by decide +kernel
theorem dX9_wouldVeto_12 : decode cX9_wouldVeto 12 = .ok (.iload_n 2, 1) := by decide +kernel
theorem dX9_wouldVeto_13 : decode cX9_wouldVeto 13 = .ok (.invokevirtual 131, 3) := by decide +kernel
theorem dX9_wouldVeto_16 : decode cX9_wouldVeto 16 = .ok (.istore_n 3, 1) := by decide +kernel
theorem dX9_wouldVeto_17 : decode cX9_wouldVeto 17 = .ok (.aload_n 0, 1) := by decide +kernel
theorem dX9_wouldVeto_18 : decode cX9_wouldVeto 18 = .ok (.getfield 10, 3) := by decide +kernel
theorem dX9_wouldVeto_21 : decode cX9_wouldVeto 21 = .ok (.getfield 93, 3) := by decide +kernel
theorem dX9_wouldVeto_24 : decode cX9_wouldVeto 24 = .ok (.iload_n 1, 1) := by decide +kernel
theorem dX9_wouldVeto_25 : decode cX9_wouldVeto 25 = .ok (.aload_n 0, 1) := by decide +kernel
theorem dX9_wouldVeto_26 : decode cX9_wouldVeto 26 = .ok (.getfield 10, 3) := by decide +kernel
theorem dX9_wouldVeto_29 : decode cX9_wouldVeto 29 = .ok (.getfield 127, 3) := by decide +kernel
theorem dX9_wouldVeto_32 : decode cX9_wouldVeto 32 = .ok (.getfield 136, 3) := by decide +kernel
theorem dX9_wouldVeto_35 : decode cX9_wouldVeto 35 = .ok (.iload_n 3, 1) := by decide +kernel
theorem dX9_wouldVeto_36 : decode cX9_wouldVeto 36 = .ok (.iaload, 1) := by decide +kernel
theorem dX9_wouldVeto_37 : decode cX9_wouldVeto 37 = .ok (.invokevirtual 142, 3) := by decide +kernel
theorem dX9_wouldVeto_40 : decode cX9_wouldVeto 40 = .ok (.ireturn, 1) := by decide +kernel
set_option maxHeartbeats 2000000 in
set_option maxRecDepth 20000 in
theorem k_X9_wouldVeto (l : Launch) (hfl : l.stackTraces = false) (D : va_G) (aT : Nat → ClassId) (x0 : Nat) (v0 : Nat) (h0 : Nat) (t0 : Nat) (p0 : Nat) (o0 : Nat) (a0 : Nat) (a1 : Nat) (a5 : Nat) (a10 : Nat) (a2 : Nat) (a3 : Nat) (a4 : Nat) (a6 : Nat) (a7 : Nat) (a8 : Nat) (a9 : Nat) (x : Int32) (y : Int32) : CxG l yX9_wouldVeto cX9_wouldVeto 4 (some (.boolean)) 7 1 6 111 D aT [.ref x0, .int x, .int y] [(x0, .inr (12, [.ref a0, .ref v0, .ref h0, .ref t0, .ref p0, .ref o0, .int (nI 0), .int (-1), .int (-1)])), (a0, .inr (10, [.ref a1, .ref a5, .ref a10, .int (nI 0), .int (nI 0), .int (nI 0), .int (nI 0), .int (nI 0), .int (nI 0), .int (nI 0), .int (nI 0)])), (a1, .inr (6, [.ref a2, .ref a3, .ref a4, .int (nI 0)])), (a2, .inl (aT 0, 6, .inl (fun _ => nI 0))), (a3, .inl (aT 0, 6, .inl (fun _ => nI 0))), (a4, .inl (aT 0, 6, .inl (fun _ => nI 0))), (a5, .inr (8, [.ref a6, .ref a7, .ref a8, .ref a9, .int (nI 0), .int (nI 0)])), (a6, .inl (aT 0, 12, .inl (fun _ => nI 0))), (a7, .inl (aT 0, 12, .inl (fun _ => nI 0))), (a8, .inl (aT 0, 12, .inl (fun _ => nI 0))), (a9, .inl (aT 0, 12, .inl (fun _ => nI 0))), (a10, .inl (aT 0, 4, .inl (fun _ => nI 0)))] (qI D aT (fun _ _ => False)) (fun E => E = "java/lang/IndexOutOfBoundsException") := by
  refine CxG.of RX9 (by decide +kernel) rfl (Nat.le_of_ble_eq_true rfl) ?_
  intro p e s m below meth c A ls C hml hl hA hr hlocks hex hnm hZ hW
  have hl : lv_has ls 4 [(0, .ref x0), (1, .int x), (2, .int y)] := hl
  have hx := C.1
  have hb := C.2.1
  refine lv_aload_n hx hb dX9_wouldVeto_0 rfl (lv_at hl 0 rfl) ?_
  refine lv_iload_n hx hb dX9_wouldVeto_1 rfl (lv_at hl 1 rfl) ?_
  refine cx_callv (Wr := []) (cx_runV C hml hl.1 hZ hW hA (As := [.int x]) (rest := []) (k_X9_requireHedge l hfl D aT x0 v0 h0 t0 p0 o0 a0 a1 a5 a10 a2 a3 a4 a6 a7 a8 a9 x) gV_X9_X9_requireHedge_102 hV_X9_requireHedge rfl ⟨Nat.le_of_ble_eq_true rfl, Nat.le_of_ble_eq_true rfl⟩ ⟨Nat.le_of_ble_eq_true rfl, Nat.le_of_ble_eq_true rfl⟩ [0, 1, 2, 3, 4, 5, 6, 7, 8, 9, 10, 11] rfl (by decide) 0 12 rfl rfl rfl rfl (Nat.le_of_ble_eq_true rfl) dX9_wouldVeto_2) hW hA [0, 1, 2, 3, 4, 5, 6, 7, 8, 9, 10, 11] [] rfl rfl (by decide) (by decide) (fun E ce q9 H9 locs9 hE hS9 h7 h8 h9 => cx_out hex hlocks hS9 h7 h8 h9 ⟨Nat.le_of_ble_eq_true rfl, Nat.le_of_ble_eq_true rfl⟩ (hE)) (fun W_2 H locs hq hW => ?_)
  exact hq.elim
theorem dX9_motionCount_0 : decode cX9_motionCount 0 = .ok (.aload_n 0, 1) := by decide +kernel
theorem dX9_motionCount_1 : decode cX9_motionCount 1 = .ok (.getfield 10, 3) := by decide +kernel
theorem dX9_motionCount_4 : decode cX9_motionCount 4 = .ok (.getfield 127, 3) := by decide +kernel
theorem dX9_motionCount_7 : decode cX9_motionCount 7 = .ok (.getfield 146, 3) := by decide +kernel
theorem dX9_motionCount_10 : decode cX9_motionCount 10 = .ok (.ireturn, 1) := by decide +kernel
set_option maxHeartbeats 2000000 in
set_option maxRecDepth 20000 in
theorem k_X9_motionCount (l : Launch) (hfl : l.stackTraces = false) (D : va_G) (aT : Nat → ClassId) (x0 : Nat) (v0 : Nat) (h0 : Nat) (t0 : Nat) (p0 : Nat) (o0 : Nat) (a0 : Nat) (a1 : Nat) (a5 : Nat) (a10 : Nat) (a2 : Nat) (a3 : Nat) (a4 : Nat) (a6 : Nat) (a7 : Nat) (a8 : Nat) (a9 : Nat) : CxG l yX9_motionCount cX9_motionCount 1 (some (.int)) 0 0 0 0 D aT [.ref x0] [(x0, .inr (12, [.ref a0, .ref v0, .ref h0, .ref t0, .ref p0, .ref o0, .int (nI 0), .int (-1), .int (-1)])), (a0, .inr (10, [.ref a1, .ref a5, .ref a10, .int (nI 0), .int (nI 0), .int (nI 0), .int (nI 0), .int (nI 0), .int (nI 0), .int (nI 0), .int (nI 0)])), (a1, .inr (6, [.ref a2, .ref a3, .ref a4, .int (nI 0)])), (a2, .inl (aT 0, 6, .inl (fun _ => nI 0))), (a3, .inl (aT 0, 6, .inl (fun _ => nI 0))), (a4, .inl (aT 0, 6, .inl (fun _ => nI 0))), (a5, .inr (8, [.ref a6, .ref a7, .ref a8, .ref a9, .int (nI 0), .int (nI 0)])), (a6, .inl (aT 0, 12, .inl (fun _ => nI 0))), (a7, .inl (aT 0, 12, .inl (fun _ => nI 0))), (a8, .inl (aT 0, 12, .inl (fun _ => nI 0))), (a9, .inl (aT 0, 12, .inl (fun _ => nI 0))), (a10, .inl (aT 0, 4, .inl (fun _ => nI 0)))] (qI D aT (fun r W1 => r = nI 0)) (fun _ => False) := by
  refine CxG.of RX9 (by decide +kernel) rfl (Nat.le_of_ble_eq_true rfl) ?_
  intro p e s m below meth c A ls C hml hl hA hr hlocks hex hnm hZ hW
  have hl : lv_has ls 1 [(0, .ref x0)] := hl
  have hx := C.1
  have hb := C.2.1
  refine lv_aload_n hx hb dX9_motionCount_0 rfl (lv_at hl 0 rfl) ?_
  refine cx_get C hW 0 0 rfl rfl (by decide) inX9 gw_346 rfl rfl dX9_motionCount_1 ?_
  refine cx_getN C hZ hW 1 1 rfl rfl (by decide) inX7 nw_182 rfl rfl dX9_motionCount_4 ?_
  refine cx_getN C hZ hW 6 4 rfl rfl (by decide) inX5 nw_164 rfl rfl dX9_motionCount_7 ?_
  exact cx_iret C hr hlocks rfl hW ⟨Nat.le_of_ble_eq_true rfl, Nat.le_of_ble_eq_true rfl⟩ (rfl) dX9_motionCount_10
theorem dX9_motionAt_0 : decode cX9_motionAt 0 = .ok (.aload_n 0, 1) := by decide +kernel
theorem dX9_motionAt_1 : decode cX9_motionAt 1 = .ok (.iload_n 1, 1) := by decide +kernel
theorem dX9_motionAt_2 : decode cX9_motionAt 2 = .ok (.invokevirtual 147, 3) := by decide +kernel
theorem dX9_motionAt_5 : decode cX9_motionAt 5 = .ok (.aload_n 0, 1) := by decide +kernel
theorem dX9_motionAt_6 : decode cX9_motionAt 6 = .ok (.getfield 10, 3) := by decide +kernel
theorem dX9_motionAt_9 : decode cX9_motionAt 9 = .ok (.getfield 127, 3) := by decide +kernel
theorem dX9_motionAt_12 : decode cX9_motionAt 12 = .ok (.getfield 150, 3) := by decide +kernel
theorem dX9_motionAt_15 : decode cX9_motionAt 15 = .ok (.iload_n 1, 1) := by decide +kernel
theorem dX9_motionAt_16 : decode cX9_motionAt 16 = .ok (.iaload, 1) := by decide +kernel
theorem dX9_motionAt_17 : decode cX9_motionAt 17 = .ok (.ireturn, 1) := by decide +kernel
theorem gV_X9_X9_requirePosition_147 : GoodIn gw (wsV RX9 147 RX9 yX9_requirePosition (Cond.code yX9_requirePosition cX9_requirePosition 2 (none) :: gw)) := gdV gw_901 gw_903 gw_8 gw_67 gw_904
theorem hV_X9_requirePosition : yX9_requirePosition.cls = RX9 ∧ yX9_requirePosition.cls ≠ "java/lang/invoke/MethodHandle" ∧ yX9_requirePosition.cls ≠ "java/lang/invoke/VarHandle" ∧ (parseMethodDescriptor yX9_requirePosition.desc).map (fun d => d.parameters.length) = some 1 := ⟨rfl, by decide +kernel, by decide +kernel, by decide +kernel⟩
set_option maxHeartbeats 2000000 in
set_option maxRecDepth 20000 in
theorem k_X9_motionAt (l : Launch) (hfl : l.stackTraces = false) (D : va_G) (aT : Nat → ClassId) (x0 : Nat) (v0 : Nat) (h0 : Nat) (t0 : Nat) (p0 : Nat) (o0 : Nat) (a0 : Nat) (a1 : Nat) (a5 : Nat) (a10 : Nat) (a2 : Nat) (a3 : Nat) (a4 : Nat) (a6 : Nat) (a7 : Nat) (a8 : Nat) (a9 : Nat) (x : Int32) : CxG l yX9_motionAt cX9_motionAt 2 (some (.int)) 7 1 6 111 D aT [.ref x0, .int x] [(x0, .inr (12, [.ref a0, .ref v0, .ref h0, .ref t0, .ref p0, .ref o0, .int (nI 0), .int (-1), .int (-1)])), (a0, .inr (10, [.ref a1, .ref a5, .ref a10, .int (nI 0), .int (nI 0), .int (nI 0), .int (nI 0), .int (nI 0), .int (nI 0), .int (nI 0), .int (nI 0)])), (a1, .inr (6, [.ref a2, .ref a3, .ref a4, .int (nI 0)])), (a2, .inl (aT 0, 6, .inl (fun _ => nI 0))), (a3, .inl (aT 0, 6, .inl (fun _ => nI 0))), (a4, .inl (aT 0, 6, .inl (fun _ => nI 0))), (a5, .inr (8, [.ref a6, .ref a7, .ref a8, .ref a9, .int (nI 0), .int (nI 0)])), (a6, .inl (aT 0, 12, .inl (fun _ => nI 0))), (a7, .inl (aT 0, 12, .inl (fun _ => nI 0))), (a8, .inl (aT 0, 12, .inl (fun _ => nI 0))), (a9, .inl (aT 0, 12, .inl (fun _ => nI 0))), (a10, .inl (aT 0, 4, .inl (fun _ => nI 0)))] (qI D aT (fun _ _ => False)) (fun E => E = "java/lang/IndexOutOfBoundsException") := by
  refine CxG.of RX9 (by decide +kernel) rfl (Nat.le_of_ble_eq_true rfl) ?_
  intro p e s m below meth c A ls C hml hl hA hr hlocks hex hnm hZ hW
  have hl : lv_has ls 2 [(0, .ref x0), (1, .int x)] := hl
  have hx := C.1
  have hb := C.2.1
  refine lv_aload_n hx hb dX9_motionAt_0 rfl (lv_at hl 0 rfl) ?_
  refine lv_iload_n hx hb dX9_motionAt_1 rfl (lv_at hl 1 rfl) ?_
  refine cx_callv (Wr := []) (cx_runV C hml hl.1 hZ hW hA (As := [.int x]) (rest := []) (k_X9_requirePosition l hfl D aT x0 v0 h0 t0 p0 o0 a0 a1 a5 a10 a2 a3 a4 a6 a7 a8 a9 x) gV_X9_X9_requirePosition_147 hV_X9_requirePosition rfl ⟨Nat.le_of_ble_eq_true rfl, Nat.le_of_ble_eq_true rfl⟩ ⟨Nat.le_of_ble_eq_true rfl, Nat.le_of_ble_eq_true rfl⟩ [0, 1, 2, 3, 4, 5, 6, 7, 8, 9, 10, 11] rfl (by decide) 0 12 rfl rfl rfl rfl (Nat.le_of_ble_eq_true rfl) dX9_motionAt_2) hW hA [0, 1, 2, 3, 4, 5, 6, 7, 8, 9, 10, 11] [] rfl rfl (by decide) (by decide) (fun E ce q9 H9 locs9 hE hS9 h7 h8 h9 => cx_out hex hlocks hS9 h7 h8 h9 ⟨Nat.le_of_ble_eq_true rfl, Nat.le_of_ble_eq_true rfl⟩ (hE)) (fun W_2 H locs hq hW => ?_)
  exact hq.elim
theorem dX9_tone_0 : decode cX9_tone 0 = .ok (.aload_n 0, 1) := by decide +kernel
theorem dX9_tone_1 : decode cX9_tone 1 = .ok (.getfield 10, 3) := by decide +kernel
theorem dX9_tone_4 : decode cX9_tone 4 = .ok (.getfield 127, 3) := by decide +kernel
theorem dX9_tone_7 : decode cX9_tone 7 = .ok (.getfield 136, 3) := by decide +kernel
theorem dX9_tone_10 : decode cX9_tone 10 = .ok (.aload_n 0, 1) := by decide +kernel
theorem dX9_tone_11 : decode cX9_tone 11 = .ok (.getfield 10, 3) := by decide +kernel
theorem dX9_tone_14 : decode cX9_tone 14 = .ok (.getfield 127, 3) := by decide +kernel
theorem dX9_tone_17 : decode cX9_tone 17 = .ok (.iload_n 1, 1) := by decide +kernel
theorem dX9_tone_18 : decode cX9_tone 18 = .ok (.invokevirtual 131, 3) := by decide +kernel
theorem dX9_tone_21 : decode cX9_tone 21 = .ok (.iaload, 1) := by decide +kernel
theorem dX9_tone_22 : decode cX9_tone 22 = .ok (.ireturn, 1) := by decide +kernel
set_option maxHeartbeats 2000000 in
set_option maxRecDepth 20000 in
theorem k_X9_tone (l : Launch) (hfl : l.stackTraces = false) (D : va_G) (aT : Nat → ClassId) (x0 : Nat) (v0 : Nat) (h0 : Nat) (t0 : Nat) (p0 : Nat) (o0 : Nat) (a0 : Nat) (a1 : Nat) (a5 : Nat) (a10 : Nat) (a2 : Nat) (a3 : Nat) (a4 : Nat) (a6 : Nat) (a7 : Nat) (a8 : Nat) (a9 : Nat) (x : Int32) : CxG l yX9_tone cX9_tone 2 (some (.int)) 7 1 6 112 D aT [.ref x0, .int x] [(x0, .inr (12, [.ref a0, .ref v0, .ref h0, .ref t0, .ref p0, .ref o0, .int (nI 0), .int (-1), .int (-1)])), (a0, .inr (10, [.ref a1, .ref a5, .ref a10, .int (nI 0), .int (nI 0), .int (nI 0), .int (nI 0), .int (nI 0), .int (nI 0), .int (nI 0), .int (nI 0)])), (a1, .inr (6, [.ref a2, .ref a3, .ref a4, .int (nI 0)])), (a2, .inl (aT 0, 6, .inl (fun _ => nI 0))), (a3, .inl (aT 0, 6, .inl (fun _ => nI 0))), (a4, .inl (aT 0, 6, .inl (fun _ => nI 0))), (a5, .inr (8, [.ref a6, .ref a7, .ref a8, .ref a9, .int (nI 0), .int (nI 0)])), (a6, .inl (aT 0, 12, .inl (fun _ => nI 0))), (a7, .inl (aT 0, 12, .inl (fun _ => nI 0))), (a8, .inl (aT 0, 12, .inl (fun _ => nI 0))), (a9, .inl (aT 0, 12, .inl (fun _ => nI 0))), (a10, .inl (aT 0, 4, .inl (fun _ => nI 0)))] (qI D aT (fun _ _ => False)) (fun E => E = "java/util/NoSuchElementException") := by
  refine CxG.of RX9 (by decide +kernel) rfl (Nat.le_of_ble_eq_true rfl) ?_
  intro p e s m below meth c A ls C hml hl hA hr hlocks hex hnm hZ hW
  have hl : lv_has ls 2 [(0, .ref x0), (1, .int x)] := hl
  have hx := C.1
  have hb := C.2.1
  refine lv_aload_n hx hb dX9_tone_0 rfl (lv_at hl 0 rfl) ?_
  refine cx_get C hW 0 0 rfl rfl (by decide) inX9 gw_346 rfl rfl dX9_tone_1 ?_
  refine cx_getN C hZ hW 1 1 rfl rfl (by decide) inX7 nw_182 rfl rfl dX9_tone_4 ?_
  refine cx_getN C hZ hW 6 1 rfl rfl (by decide) inX5 nw_152 rfl rfl dX9_tone_7 ?_
  refine lv_aload_n hx hb dX9_tone_10 rfl (lv_at hl 0 rfl) ?_
  refine cx_get C hW 0 0 rfl rfl (by decide) inX9 gw_346 rfl rfl dX9_tone_11 ?_
  refine cx_getN C hZ hW 1 1 rfl rfl (by decide) inX7 nw_182 rfl rfl dX9_tone_14 ?_
  refine lv_iload_n hx hb dX9_tone_17 rfl (lv_at hl 1 rfl) ?_
  refine cx_calli (Wr := [(x0, .inr (12, [.ref a0, .ref v0, .ref h0, .ref t0, .ref p0, .ref o0, .int (nI 0), .int (-1), .int (-1)])), (a0, .inr (10, [.ref a1, .ref a5, .ref a10, .int (nI 0), .int (nI 0), .int (nI 0), .int (nI 0), .int (nI 0), .int (nI 0), .int (nI 0), .int (nI 0)])), (a1, .inr (6, [.ref a2, .ref a3, .ref a4, .int (nI 0)])), (a2, .inl (aT 0, 6, .inl (fun _ => nI 0))), (a3, .inl (aT 0, 6, .inl (fun _ => nI 0))), (a4, .inl (aT 0, 6, .inl (fun _ => nI 0))), (a10, .inl (aT 0, 4, .inl (fun _ => nI 0)))]) (cx_runV C hml hl.1 hZ hW hA (As := [.int x]) (rest := [.ref a7]) (k_X5_require l hfl D aT a5 a6 a7 a8 a9 x) gV_X9_X5_require_131 hV_X5_require rfl ⟨Nat.le_of_ble_eq_true rfl, Nat.le_of_ble_eq_true rfl⟩ ⟨Nat.le_of_ble_eq_true rfl, Nat.le_of_ble_eq_true rfl⟩ [6, 7, 8, 9, 10] rfl (by decide) 6 8 rfl rfl rfl rfl (Nat.le_of_ble_eq_true rfl) dX9_tone_18) hW hA [6, 7, 8, 9, 10] [0, 1, 2, 3, 4, 5, 11] rfl rfl (by decide) (by decide) (fun E ce q9 H9 locs9 hE hS9 h7 h8 h9 => cx_out hex hlocks hS9 h7 h8 h9 ⟨Nat.le_of_ble_eq_true rfl, Nat.le_of_ble_eq_true rfl⟩ (hE)) (fun r_18 W_18 H locs hq hW => ?_)
  exact hq.elim
theorem dX9_weight_0 : decode cX9_weight 0 = .ok (.aload_n 0, 1) := by decide +kernel
theorem dX9_weight_1 : decode cX9_weight 1 = .ok (.getfield 10, 3) := by decide +kernel
theorem dX9_weight_4 : decode cX9_weight 4 = .ok (.getfield 127, 3) := by decide +kernel
theorem dX9_weight_7 : decode cX9_weight 7 = .ok (.getfield 153, 3) := by decide +kernel
theorem dX9_weight_10 : decode cX9_weight 10 = .ok (.aload_n 0, 1) := by decide +kernel
theorem dX9_weight_11 : decode cX9_weight 11 = .ok (.getfield 10, 3) := by decide +kernel
theorem dX9_weight_14 : decode cX9_weight 14 = .ok (.getfield 127, 3) := by decide +kernel
theorem dX9_weight_17 : decode cX9_weight 17 = .ok (.iload_n 1, 1) := by decide +kernel
theorem dX9_weight_18 : decode cX9_weight 18 = .ok (.invokevirtual 131, 3) := by decide +kernel
theorem dX9_weight_21 : decode cX9_weight 21 = .ok (.iaload, 1) := by decide +kernel
theorem dX9_weight_22 : decode cX9_weight 22 = .ok (.ireturn, 1) := by decide +kernel
set_option maxHeartbeats 2000000 in
set_option maxRecDepth 20000 in
theorem k_X9_weight (l : Launch) (hfl : l.stackTraces = false) (D : va_G) (aT : Nat → ClassId) (x0 : Nat) (v0 : Nat) (h0 : Nat) (t0 : Nat) (p0 : Nat) (o0 : Nat) (a0 : Nat) (a1 : Nat) (a5 : Nat) (a10 : Nat) (a2 : Nat) (a3 : Nat) (a4 : Nat) (a6 : Nat) (a7 : Nat) (a8 : Nat) (a9 : Nat) (x : Int32) : CxG l yX9_weight cX9_weight 2 (some (.int)) 7 1 6 112 D aT [.ref x0, .int x] [(x0, .inr (12, [.ref a0, .ref v0, .ref h0, .ref t0, .ref p0, .ref o0, .int (nI 0), .int (-1), .int (-1)])), (a0, .inr (10, [.ref a1, .ref a5, .ref a10, .int (nI 0), .int (nI 0), .int (nI 0), .int (nI 0), .int (nI 0), .int (nI 0), .int (nI 0), .int (nI 0)])), (a1, .inr (6, [.ref a2, .ref a3, .ref a4, .int (nI 0)])), (a2, .inl (aT 0, 6, .inl (fun _ => nI 0))), (a3, .inl (aT 0, 6, .inl (fun _ => nI 0))), (a4, .inl (aT 0, 6, .inl (fun _ => nI 0))), (a5, .inr (8, [.ref a6, .ref a7, .ref a8, .ref a9, .int (nI 0), .int (nI 0)])), (a6, .inl (aT 0, 12, .inl (fun _ => nI 0))), (a7, .inl (aT 0, 12, .inl (fun _ => nI 0))), (a8, .inl (aT 0, 12, .inl (fun _ => nI 0))), (a9, .inl (aT 0, 12, .inl (fun _ => nI 0))), (a10, .inl (aT 0, 4, .inl (fun _ => nI 0)))] (qI D aT (fun _ _ => False)) (fun E => E = "java/util/NoSuchElementException") := by
  refine CxG.of RX9 (by decide +kernel) rfl (Nat.le_of_ble_eq_true rfl) ?_
  intro p e s m below meth c A ls C hml hl hA hr hlocks hex hnm hZ hW
  have hl : lv_has ls 2 [(0, .ref x0), (1, .int x)] := hl
  have hx := C.1
  have hb := C.2.1
  refine lv_aload_n hx hb dX9_weight_0 rfl (lv_at hl 0 rfl) ?_
  refine cx_get C hW 0 0 rfl rfl (by decide) inX9 gw_346 rfl rfl dX9_weight_1 ?_
  refine cx_getN C hZ hW 1 1 rfl rfl (by decide) inX7 nw_182 rfl rfl dX9_weight_4 ?_
  refine cx_getN C hZ hW 6 2 rfl rfl (by decide) inX5 nw_156 rfl rfl dX9_weight_7 ?_
  refine lv_aload_n hx hb dX9_weight_10 rfl (lv_at hl 0 rfl) ?_
  refine cx_get C hW 0 0 rfl rfl (by decide) inX9 gw_346 rfl rfl dX9_weight_11 ?_
  refine cx_getN C hZ hW 1 1 rfl rfl (by decide) inX7 nw_182 rfl rfl dX9_weight_14 ?_
  refine lv_iload_n hx hb dX9_weight_17 rfl (lv_at hl 1 rfl) ?_
  refine cx_calli (Wr := [(x0, .inr (12, [.ref a0, .ref v0, .ref h0, .ref t0, .ref p0, .ref o0, .int (nI 0), .int (-1), .int (-1)])), (a0, .inr (10, [.ref a1, .ref a5, .ref a10, .int (nI 0), .int (nI 0), .int (nI 0), .int (nI 0), .int (nI 0), .int (nI 0), .int (nI 0), .int (nI 0)])), (a1, .inr (6, [.ref a2, .ref a3, .ref a4, .int (nI 0)])), (a2, .inl (aT 0, 6, .inl (fun _ => nI 0))), (a3, .inl (aT 0, 6, .inl (fun _ => nI 0))), (a4, .inl (aT 0, 6, .inl (fun _ => nI 0))), (a10, .inl (aT 0, 4, .inl (fun _ => nI 0)))]) (cx_runV C hml hl.1 hZ hW hA (As := [.int x]) (rest := [.ref a8]) (k_X5_require l hfl D aT a5 a6 a7 a8 a9 x) gV_X9_X5_require_131 hV_X5_require rfl ⟨Nat.le_of_ble_eq_true rfl, Nat.le_of_ble_eq_true rfl⟩ ⟨Nat.le_of_ble_eq_true rfl, Nat.le_of_ble_eq_true rfl⟩ [6, 7, 8, 9, 10] rfl (by decide) 6 8 rfl rfl rfl rfl (Nat.le_of_ble_eq_true rfl) dX9_weight_18) hW hA [6, 7, 8, 9, 10] [0, 1, 2, 3, 4, 5, 11] rfl rfl (by decide) (by decide) (fun E ce q9 H9 locs9 hE hS9 h7 h8 h9 => cx_out hex hlocks hS9 h7 h8 h9 ⟨Nat.le_of_ble_eq_true rfl, Nat.le_of_ble_eq_true rfl⟩ (hE)) (fun r_18 W_18 H locs hq hW => ?_)
  exact hq.elim
theorem dX9_parent_0 : decode cX9_parent 0 = .ok (.aload_n 0, 1) := by decide +kernel
theorem dX9_parent_1 : decode cX9_parent 1 = .ok (.getfield 10, 3) := by decide +kernel
theorem dX9_parent_4 : decode cX9_parent 4 = .ok (.getfield 127, 3) := by decide +kernel
theorem dX9_parent_7 : decode cX9_parent 7 = .ok (.getfield 156, 3) := by decide +kernel
theorem dX9_parent_10 : decode cX9_parent 10 = .ok (.aload_n 0, 1) := by decide +kernel
theorem dX9_parent_11 : decode cX9_parent 11 = .ok (.getfield 10, 3) := by decide +kernel
theorem dX9_parent_14 : decode cX9_parent 14 = .ok (.getfield 127, 3) := by decide +kernel
theorem dX9_parent_17 : decode cX9_parent 17 = .ok (.iload_n 1, 1) := by decide +kernel
theorem dX9_parent_18 : decode cX9_parent 18 = .ok (.invokevirtual 131, 3) := by decide +kernel
theorem dX9_parent_21 : decode cX9_parent 21 = .ok (.iaload, 1) := by decide +kernel
theorem dX9_parent_22 : decode cX9_parent 22 = .ok (.istore_n 2, 1) := by decide +kernel
theorem dX9_parent_23 : decode cX9_parent 23 = .ok (.iload_n 2, 1) := by decide +kernel
theorem dX9_parent_24 : decode cX9_parent 24 = .ok (.ifCond .ge 13, 3) := by decide +kernel
theorem dX9_parent_27 : decode cX9_parent 27 = .ok (.new 117, 3) := by decide +kernel
theorem dX9_parent_30 : decode cX9_parent 30 = .ok (.dup, 1) := by decide +kernel
theorem dX9_parent_31 : decode cX9_parent 31 = .ok (.ldc 159, 2) := by decide +kernel
theorem dX9_parent_33 : decode cX9_parent 33 = .ok (.invokespecial 121, 3) := by decide +kernel
theorem dX9_parent_36 : decode cX9_parent 36 = .ok (.athrow, 1) := by decide +kernel
theorem dX9_parent_37 : decode cX9_parent 37 = .ok (.aload_n 0, 1) := by decide +kernel
theorem dX9_parent_38 : decode cX9_parent 38 = .ok (.getfield 10, 3) := by decide +kernel
theorem dX9_parent_41 : decode cX9_parent 41 = .ok (.getfield 127, 3) := by decide +kernel
theorem dX9_parent_44 : decode cX9_parent 44 = .ok (.getfield 150, 3) := by decide +kernel
theorem dX9_parent_47 : decode cX9_parent 47 = .ok (.iload_n 2, 1) := by decide +kernel
theorem dX9_parent_48 : decode cX9_parent 48 = .ok (.iaload, 1) := by decide +kernel
theorem dX9_parent_49 : decode cX9_parent 49 = .ok (.ireturn, 1) := by decide +kernel
set_option maxHeartbeats 2000000 in
set_option maxRecDepth 20000 in
theorem k_X9_parent (l : Launch) (hfl : l.stackTraces = false) (D : va_G) (aT : Nat → ClassId) (x0 : Nat) (v0 : Nat) (h0 : Nat) (t0 : Nat) (p0 : Nat) (o0 : Nat) (a0 : Nat) (a1 : Nat) (a5 : Nat) (a10 : Nat) (a2 : Nat) (a3 : Nat) (a4 : Nat) (a6 : Nat) (a7 : Nat) (a8 : Nat) (a9 : Nat) (x : Int32) : CxG l yX9_parent cX9_parent 3 (some (.int)) 7 1 6 112 D aT [.ref x0, .int x] [(x0, .inr (12, [.ref a0, .ref v0, .ref h0, .ref t0, .ref p0, .ref o0, .int (nI 0), .int (-1), .int (-1)])), (a0, .inr (10, [.ref a1, .ref a5, .ref a10, .int (nI 0), .int (nI 0), .int (nI 0), .int (nI 0), .int (nI 0), .int (nI 0), .int (nI 0), .int (nI 0)])), (a1, .inr (6, [.ref a2, .ref a3, .ref a4, .int (nI 0)])), (a2, .inl (aT 0, 6, .inl (fun _ => nI 0))), (a3, .inl (aT 0, 6, .inl (fun _ => nI 0))), (a4, .inl (aT 0, 6, .inl (fun _ => nI 0))), (a5, .inr (8, [.ref a6, .ref a7, .ref a8, .ref a9, .int (nI 0), .int (nI 0)])), (a6, .inl (aT 0, 12, .inl (fun _ => nI 0))), (a7, .inl (aT 0, 12, .inl (fun _ => nI 0))), (a8, .inl (aT 0, 12, .inl (fun _ => nI 0))), (a9, .inl (aT 0, 12, .inl (fun _ => nI 0))), (a10, .inl (aT 0, 4, .inl (fun _ => nI 0)))] (qI D aT (fun _ _ => False)) (fun E => E = "java/util/NoSuchElementException") := by
  refine CxG.of RX9 (by decide +kernel) rfl (Nat.le_of_ble_eq_true rfl) ?_
  intro p e s m below meth c A ls C hml hl hA hr hlocks hex hnm hZ hW
  have hl : lv_has ls 3 [(0, .ref x0), (1, .int x)] := hl
  have hx := C.1
  have hb := C.2.1
  refine lv_aload_n hx hb dX9_parent_0 rfl (lv_at hl 0 rfl) ?_
  refine cx_get C hW 0 0 rfl rfl (by decide) inX9 gw_346 rfl rfl dX9_parent_1 ?_
  refine cx_getN C hZ hW 1 1 rfl rfl (by decide) inX7 nw_182 rfl rfl dX9_parent_4 ?_
  refine cx_getN C hZ hW 6 3 rfl rfl (by decide) inX5 nw_160 rfl rfl dX9_parent_7 ?_
  refine lv_aload_n hx hb dX9_parent_10 rfl (lv_at hl 0 rfl) ?_
  refine cx_get C hW 0 0 rfl rfl (by decide) inX9 gw_346 rfl rfl dX9_parent_11 ?_
  refine cx_getN C hZ hW 1 1 rfl rfl (by decide) inX7 nw_182 rfl rfl dX9_parent_14 ?_
  refine lv_iload_n hx hb dX9_parent_17 rfl (lv_at hl 1 rfl) ?_
  refine cx_calli (Wr := [(x0, .inr (12, [.ref a0, .ref v0, .ref h0, .ref t0, .ref p0, .ref o0, .int (nI 0), .int (-1), .int (-1)])), (a0, .inr (10, [.ref a1, .ref a5, .ref a10, .int (nI 0), .int (nI 0), .int (nI 0), .int (nI 0), .int (nI 0), .int (nI 0), .int (nI 0), .int (nI 0)])), (a1, .inr (6, [.ref a2, .ref a3, .ref a4, .int (nI 0)])), (a2, .inl (aT 0, 6, .inl (fun _ => nI 0))), (a3, .inl (aT 0, 6, .inl (fun _ => nI 0))), (a4, .inl (aT 0, 6, .inl (fun _ => nI 0))), (a10, .inl (aT 0, 4, .inl (fun _ => nI 0)))]) (cx_runV C hml hl.1 hZ hW hA (As := [.int x]) (rest := [.ref a9]) (k_X5_require l hfl D aT a5 a6 a7 a8 a9 x) gV_X9_X5_require_131 hV_X5_require rfl ⟨Nat.le_of_ble_eq_true rfl, Nat.le_of_ble_eq_true rfl⟩ ⟨Nat.le_of_ble_eq_true rfl, Nat.le_of_ble_eq_true rfl⟩ [6, 7, 8, 9, 10] rfl (by decide) 6 8 rfl rfl rfl rfl (Nat.le_of_ble_eq_true rfl) dX9_parent_18) hW hA [6, 7, 8, 9, 10] [0, 1, 2, 3, 4, 5, 11] rfl rfl (by decide) (by decide) (fun E ce q9 H9 locs9 hE hS9 h7 h8 h9 => cx_out hex hlocks hS9 h7 h8 h9 ⟨Nat.le_of_ble_eq_true rfl, Nat.le_of_ble_eq_true rfl⟩ (hE)) (fun r_18 W_18 H locs hq hW => ?_)
  exact hq.elim
theorem dX9_depth_0 : decode cX9_depth 0 = .ok (.aload_n 0, 1) := by decide +kernel
theorem dX9_depth_1 : decode cX9_depth 1 = .ok (.getfield 10, 3) := by decide +kernel
theorem dX9_depth_4 : decode cX9_depth 4 = .ok (.getfield 127, 3) := by decide +kernel
theorem dX9_depth_7 : decode cX9_depth 7 = .ok (.aload_n 0, 1) := by decide +kernel
theorem dX9_depth_8 : decode cX9_depth 8 = .ok (.getfield 10, 3) := by decide +kernel
theorem dX9_depth_11 : decode cX9_depth 11 = .ok (.getfield 127, 3) := by decide +kernel
theorem dX9_depth_14 : decode cX9_depth 14 = .ok (.iload_n 1, 1) := by decide +kernel
theorem dX9_depth_15 : decode cX9_depth 15 = .ok (.invokevirtual 131, 3) := by decide +kernel
theorem dX9_depth_18 : decode cX9_depth 18 = .ok (.invokevirtual 161, 3) := by decide +kernel
theorem dX9_depth_21 : decode cX9_depth 21 = .ok (.ireturn, 1) := by decide +kernel
set_option maxHeartbeats 2000000 in
set_option maxRecDepth 20000 in
theorem k_X9_depth (l : Launch) (hfl : l.stackTraces = false) (D : va_G) (aT : Nat → ClassId) (x0 : Nat) (v0 : Nat) (h0 : Nat) (t0 : Nat) (p0 : Nat) (o0 : Nat) (a0 : Nat) (a1 : Nat) (a5 : Nat) (a10 : Nat) (a2 : Nat) (a3 : Nat) (a4 : Nat) (a6 : Nat) (a7 : Nat) (a8 : Nat) (a9 : Nat) (x : Int32) : CxG l yX9_depth cX9_depth 2 (some (.int)) 7 1 6 112 D aT [.ref x0, .int x] [(x0, .inr (12, [.ref a0, .ref v0, .ref h0, .ref t0, .ref p0, .ref o0, .int (nI 0), .int (-1), .int (-1)])), (a0, .inr (10, [.ref a1, .ref a5, .ref a10, .int (nI 0), .int (nI 0), .int (nI 0), .int (nI 0), .int (nI 0), .int (nI 0), .int (nI 0), .int (nI 0)])), (a1, .inr (6, [.ref a2, .ref a3, .ref a4, .int (nI 0)])), (a2, .inl (aT 0, 6, .inl (fun _ => nI 0))), (a3, .inl (aT 0, 6, .inl (fun _ => nI 0))), (a4, .inl (aT 0, 6, .inl (fun _ => nI 0))), (a5, .inr (8, [.ref a6, .ref a7, .ref a8, .ref a9, .int (nI 0), .int (nI 0)])), (a6, .inl (aT 0, 12, .inl (fun _ => nI 0))), (a7, .inl (aT 0, 12, .inl (fun _ => nI 0))), (a8, .inl (aT 0, 12, .inl (fun _ => nI 0))), (a9, .inl (aT 0, 12, .inl (fun _ => nI 0))), (a10, .inl (aT 0, 4, .inl (fun _ => nI 0)))] (qI D aT (fun _ _ => False)) (fun E => E = "java/util/NoSuchElementException") := by
  refine CxG.of RX9 (by decide +kernel) rfl (Nat.le_of_ble_eq_true rfl) ?_
  intro p e s m below meth c A ls C hml hl hA hr hlocks hex hnm hZ hW
  have hl : lv_has ls 2 [(0, .ref x0), (1, .int x)] := hl
  have hx := C.1
  have hb := C.2.1
  refine lv_aload_n hx hb dX9_depth_0 rfl (lv_at hl 0 rfl) ?_
  refine cx_get C hW 0 0 rfl rfl (by decide) inX9 gw_346 rfl rfl dX9_depth_1 ?_
  refine cx_getN C hZ hW 1 1 rfl rfl (by decide) inX7 nw_182 rfl rfl dX9_depth_4 ?_
  refine lv_aload_n hx hb dX9_depth_7 rfl (lv_at hl 0 rfl) ?_
  refine cx_get C hW 0 0 rfl rfl (by decide) inX9 gw_346 rfl rfl dX9_depth_8 ?_
  refine cx_getN C hZ hW 1 1 rfl rfl (by decide) inX7 nw_182 rfl rfl dX9_depth_11 ?_
  refine lv_iload_n hx hb dX9_depth_14 rfl (lv_at hl 1 rfl) ?_
  refine cx_calli (Wr := [(x0, .inr (12, [.ref a0, .ref v0, .ref h0, .ref t0, .ref p0, .ref o0, .int (nI 0), .int (-1), .int (-1)])), (a0, .inr (10, [.ref a1, .ref a5, .ref a10, .int (nI 0), .int (nI 0), .int (nI 0), .int (nI 0), .int (nI 0), .int (nI 0), .int (nI 0), .int (nI 0)])), (a1, .inr (6, [.ref a2, .ref a3, .ref a4, .int (nI 0)])), (a2, .inl (aT 0, 6, .inl (fun _ => nI 0))), (a3, .inl (aT 0, 6, .inl (fun _ => nI 0))), (a4, .inl (aT 0, 6, .inl (fun _ => nI 0))), (a10, .inl (aT 0, 4, .inl (fun _ => nI 0)))]) (cx_runV C hml hl.1 hZ hW hA (As := [.int x]) (rest := [.ref a5]) (k_X5_require l hfl D aT a5 a6 a7 a8 a9 x) gV_X9_X5_require_131 hV_X5_require rfl ⟨Nat.le_of_ble_eq_true rfl, Nat.le_of_ble_eq_true rfl⟩ ⟨Nat.le_of_ble_eq_true rfl, Nat.le_of_ble_eq_true rfl⟩ [6, 7, 8, 9, 10] rfl (by decide) 6 8 rfl rfl rfl rfl (Nat.le_of_ble_eq_true rfl) dX9_depth_15) hW hA [6, 7, 8, 9, 10] [0, 1, 2, 3, 4, 5, 11] rfl rfl (by decide) (by decide) (fun E ce q9 H9 locs9 hE hS9 h7 h8 h9 => cx_out hex hlocks hS9 h7 h8 h9 ⟨Nat.le_of_ble_eq_true rfl, Nat.le_of_ble_eq_true rfl⟩ (hE)) (fun r_15 W_15 H locs hq hW => ?_)
  exact hq.elim
theorem dX9_isTip_0 : decode cX9_isTip 0 = .ok (.aload_n 0, 1) := by decide +kernel
theorem dX9_isTip_1 : decode cX9_isTip 1 = .ok (.getfield 10, 3) := by decide +kernel
theorem dX9_isTip_4 : decode cX9_isTip 4 = .ok (.getfield 127, 3) := by decide +kernel
theorem dX9_isTip_7 : decode cX9_isTip 7 = .ok (.aload_n 0, 1) := by decide +kernel
theorem dX9_isTip_8 : decode cX9_isTip 8 = .ok (.getfield 10, 3) := by decide +kernel
theorem dX9_isTip_11 : decode cX9_isTip 11 = .ok (.getfield 127, 3) := by decide +kernel
theorem dX9_isTip_14 : decode cX9_isTip 14 = .ok (.iload_n 1, 1) := by decide +kernel
theorem dX9_isTip_15 : decode cX9_isTip 15 = .ok (.invokevirtual 131, 3) := by decide +kernel
theorem dX9_isTip_18 : decode cX9_isTip 18 = .ok (.invokevirtual 164, 3) := by decide +kernel
theorem dX9_isTip_21 : decode cX9_isTip 21 = .ok (.ifCond .ne 7, 3) := by decide +kernel
theorem dX9_isTip_24 : decode cX9_isTip 24 = .ok (.iconst 1, 1) := by decide +kernel
theorem dX9_isTip_25 : decode cX9_isTip 25 = .ok (.goto 4, 3) := by decide +kernel
theorem dX9_isTip_28 : decode cX9_isTip 28 = .ok (.iconst 0, 1) := by decide +kernel
theorem dX9_isTip_29 : decode cX9_isTip 29 = .ok (.ireturn, 1) := by decide +kernel
set_option maxHeartbeats 2000000 in
set_option maxRecDepth 20000 in
theorem k_X9_isTip (l : Launch) (hfl : l.stackTraces = false) (D : va_G) (aT : Nat → ClassId) (x0 : Nat) (v0 : Nat) (h0 : Nat) (t0 : Nat) (p0 : Nat) (o0 : Nat) (a0 : Nat) (a1 : Nat) (a5 : Nat) (a10 : Nat) (a2 : Nat) (a3 : Nat) (a4 : Nat) (a6 : Nat) (a7 : Nat) (a8 : Nat) (a9 : Nat) (x : Int32) : CxG l yX9_isTip cX9_isTip 2 (some (.boolean)) 7 1 6 112 D aT [.ref x0, .int x] [(x0, .inr (12, [.ref a0, .ref v0, .ref h0, .ref t0, .ref p0, .ref o0, .int (nI 0), .int (-1), .int (-1)])), (a0, .inr (10, [.ref a1, .ref a5, .ref a10, .int (nI 0), .int (nI 0), .int (nI 0), .int (nI 0), .int (nI 0), .int (nI 0), .int (nI 0), .int (nI 0)])), (a1, .inr (6, [.ref a2, .ref a3, .ref a4, .int (nI 0)])), (a2, .inl (aT 0, 6, .inl (fun _ => nI 0))), (a3, .inl (aT 0, 6, .inl (fun _ => nI 0))), (a4, .inl (aT 0, 6, .inl (fun _ => nI 0))), (a5, .inr (8, [.ref a6, .ref a7, .ref a8, .ref a9, .int (nI 0), .int (nI 0)])), (a6, .inl (aT 0, 12, .inl (fun _ => nI 0))), (a7, .inl (aT 0, 12, .inl (fun _ => nI 0))), (a8, .inl (aT 0, 12, .inl (fun _ => nI 0))), (a9, .inl (aT 0, 12, .inl (fun _ => nI 0))), (a10, .inl (aT 0, 4, .inl (fun _ => nI 0)))] (qI D aT (fun _ _ => False)) (fun E => E = "java/util/NoSuchElementException") := by
  refine CxG.of RX9 (by decide +kernel) rfl (Nat.le_of_ble_eq_true rfl) ?_
  intro p e s m below meth c A ls C hml hl hA hr hlocks hex hnm hZ hW
  have hl : lv_has ls 2 [(0, .ref x0), (1, .int x)] := hl
  have hx := C.1
  have hb := C.2.1
  refine lv_aload_n hx hb dX9_isTip_0 rfl (lv_at hl 0 rfl) ?_
  refine cx_get C hW 0 0 rfl rfl (by decide) inX9 gw_346 rfl rfl dX9_isTip_1 ?_
  refine cx_getN C hZ hW 1 1 rfl rfl (by decide) inX7 nw_182 rfl rfl dX9_isTip_4 ?_
  refine lv_aload_n hx hb dX9_isTip_7 rfl (lv_at hl 0 rfl) ?_
  refine cx_get C hW 0 0 rfl rfl (by decide) inX9 gw_346 rfl rfl dX9_isTip_8 ?_
  refine cx_getN C hZ hW 1 1 rfl rfl (by decide) inX7 nw_182 rfl rfl dX9_isTip_11 ?_
  refine lv_iload_n hx hb dX9_isTip_14 rfl (lv_at hl 1 rfl) ?_
  refine cx_calli (Wr := [(x0, .inr (12, [.ref a0, .ref v0, .ref h0, .ref t0, .ref p0, .ref o0, .int (nI 0), .int (-1), .int (-1)])), (a0, .inr (10, [.ref a1, .ref a5, .ref a10, .int (nI 0), .int (nI 0), .int (nI 0), .int (nI 0), .int (nI 0), .int (nI 0), .int (nI 0), .int (nI 0)])), (a1, .inr (6, [.ref a2, .ref a3, .ref a4, .int (nI 0)])), (a2, .inl (aT 0, 6, .inl (fun _ => nI 0))), (a3, .inl (aT 0, 6, .inl (fun _ => nI 0))), (a4, .inl (aT 0, 6, .inl (fun _ => nI 0))), (a10, .inl (aT 0, 4, .inl (fun _ => nI 0)))]) (cx_runV C hml hl.1 hZ hW hA (As := [.int x]) (rest := [.ref a5]) (k_X5_require l hfl D aT a5 a6 a7 a8 a9 x) gV_X9_X5_require_131 hV_X5_require rfl ⟨Nat.le_of_ble_eq_true rfl, Nat.le_of_ble_eq_true rfl⟩ ⟨Nat.le_of_ble_eq_true rfl, Nat.le_of_ble_eq_true rfl⟩ [6, 7, 8, 9, 10] rfl (by decide) 6 8 rfl rfl rfl rfl (Nat.le_of_ble_eq_true rfl) dX9_isTip_15) hW hA [6, 7, 8, 9, 10] [0, 1, 2, 3, 4, 5, 11] rfl rfl (by decide) (by decide) (fun E ce q9 H9 locs9 hE hS9 h7 h8 h9 => cx_out hex hlocks hS9 h7 h8 h9 ⟨Nat.le_of_ble_eq_true rfl, Nat.le_of_ble_eq_true rfl⟩ (hE)) (fun r_15 W_15 H locs hq hW => ?_)
  exact hq.elim
theorem dX9_branchSize_0 : decode cX9_branchSize 0 = .ok (.aload_n 0, 1) := by decide +kernel
theorem dX9_branchSize_1 : decode cX9_branchSize 1 = .ok (.getfield 10, 3) := by decide +kernel
theorem dX9_branchSize_4 : decode cX9_branchSize 4 = .ok (.getfield 127, 3) := by decide +kernel
theorem dX9_branchSize_7 : decode cX9_branchSize 7 = .ok (.aload_n 0, 1) := by decide +kernel
theorem dX9_branchSize_8 : decode cX9_branchSize 8 = .ok (.getfield 10, 3) := by decide +kernel
theorem dX9_branchSize_11 : decode cX9_branchSize 11 = .ok (.getfield 127, 3) := by decide +kernel
theorem dX9_branchSize_14 : decode cX9_branchSize 14 = .ok (.iload_n 1, 1) := by decide +kernel
theorem dX9_branchSize_15 : decode cX9_branchSize 15 = .ok (.invokevirtual 131, 3) := by decide +kernel
theorem dX9_branchSize_18 : decode cX9_branchSize 18 = .ok (.invokevirtual 167, 3) := by decide +kernel
theorem dX9_branchSize_21 : decode cX9_branchSize 21 = .ok (.ireturn, 1) := by decide +kernel
set_option maxHeartbeats 2000000 in
set_option maxRecDepth 20000 in
theorem k_X9_branchSize (l : Launch) (hfl : l.stackTraces = false) (D : va_G) (aT : Nat → ClassId) (x0 : Nat) (v0 : Nat) (h0 : Nat) (t0 : Nat) (p0 : Nat) (o0 : Nat) (a0 : Nat) (a1 : Nat) (a5 : Nat) (a10 : Nat) (a2 : Nat) (a3 : Nat) (a4 : Nat) (a6 : Nat) (a7 : Nat) (a8 : Nat) (a9 : Nat) (x : Int32) : CxG l yX9_branchSize cX9_branchSize 2 (some (.int)) 7 1 6 112 D aT [.ref x0, .int x] [(x0, .inr (12, [.ref a0, .ref v0, .ref h0, .ref t0, .ref p0, .ref o0, .int (nI 0), .int (-1), .int (-1)])), (a0, .inr (10, [.ref a1, .ref a5, .ref a10, .int (nI 0), .int (nI 0), .int (nI 0), .int (nI 0), .int (nI 0), .int (nI 0), .int (nI 0), .int (nI 0)])), (a1, .inr (6, [.ref a2, .ref a3, .ref a4, .int (nI 0)])), (a2, .inl (aT 0, 6, .inl (fun _ => nI 0))), (a3, .inl (aT 0, 6, .inl (fun _ => nI 0))), (a4, .inl (aT 0, 6, .inl (fun _ => nI 0))), (a5, .inr (8, [.ref a6, .ref a7, .ref a8, .ref a9, .int (nI 0), .int (nI 0)])), (a6, .inl (aT 0, 12, .inl (fun _ => nI 0))), (a7, .inl (aT 0, 12, .inl (fun _ => nI 0))), (a8, .inl (aT 0, 12, .inl (fun _ => nI 0))), (a9, .inl (aT 0, 12, .inl (fun _ => nI 0))), (a10, .inl (aT 0, 4, .inl (fun _ => nI 0)))] (qI D aT (fun _ _ => False)) (fun E => E = "java/util/NoSuchElementException") := by
  refine CxG.of RX9 (by decide +kernel) rfl (Nat.le_of_ble_eq_true rfl) ?_
  intro p e s m below meth c A ls C hml hl hA hr hlocks hex hnm hZ hW
  have hl : lv_has ls 2 [(0, .ref x0), (1, .int x)] := hl
  have hx := C.1
  have hb := C.2.1
  refine lv_aload_n hx hb dX9_branchSize_0 rfl (lv_at hl 0 rfl) ?_
  refine cx_get C hW 0 0 rfl rfl (by decide) inX9 gw_346 rfl rfl dX9_branchSize_1 ?_
  refine cx_getN C hZ hW 1 1 rfl rfl (by decide) inX7 nw_182 rfl rfl dX9_branchSize_4 ?_
  refine lv_aload_n hx hb dX9_branchSize_7 rfl (lv_at hl 0 rfl) ?_
  refine cx_get C hW 0 0 rfl rfl (by decide) inX9 gw_346 rfl rfl dX9_branchSize_8 ?_
  refine cx_getN C hZ hW 1 1 rfl rfl (by decide) inX7 nw_182 rfl rfl dX9_branchSize_11 ?_
  refine lv_iload_n hx hb dX9_branchSize_14 rfl (lv_at hl 1 rfl) ?_
  refine cx_calli (Wr := [(x0, .inr (12, [.ref a0, .ref v0, .ref h0, .ref t0, .ref p0, .ref o0, .int (nI 0), .int (-1), .int (-1)])), (a0, .inr (10, [.ref a1, .ref a5, .ref a10, .int (nI 0), .int (nI 0), .int (nI 0), .int (nI 0), .int (nI 0), .int (nI 0), .int (nI 0), .int (nI 0)])), (a1, .inr (6, [.ref a2, .ref a3, .ref a4, .int (nI 0)])), (a2, .inl (aT 0, 6, .inl (fun _ => nI 0))), (a3, .inl (aT 0, 6, .inl (fun _ => nI 0))), (a4, .inl (aT 0, 6, .inl (fun _ => nI 0))), (a10, .inl (aT 0, 4, .inl (fun _ => nI 0)))]) (cx_runV C hml hl.1 hZ hW hA (As := [.int x]) (rest := [.ref a5]) (k_X5_require l hfl D aT a5 a6 a7 a8 a9 x) gV_X9_X5_require_131 hV_X5_require rfl ⟨Nat.le_of_ble_eq_true rfl, Nat.le_of_ble_eq_true rfl⟩ ⟨Nat.le_of_ble_eq_true rfl, Nat.le_of_ble_eq_true rfl⟩ [6, 7, 8, 9, 10] rfl (by decide) 6 8 rfl rfl rfl rfl (Nat.le_of_ble_eq_true rfl) dX9_branchSize_15) hW hA [6, 7, 8, 9, 10] [0, 1, 2, 3, 4, 5, 11] rfl rfl (by decide) (by decide) (fun E ce q9 H9 locs9 hE hS9 h7 h8 h9 => cx_out hex hlocks hS9 h7 h8 h9 ⟨Nat.le_of_ble_eq_true rfl, Nat.le_of_ble_eq_true rfl⟩ (hE)) (fun r_15 W_15 H locs hq hW => ?_)
  exact hq.elim
theorem dX9_lastTip_0 : decode cX9_lastTip 0 = .ok (.aload_n 0, 1) := by decide +kernel
theorem dX9_lastTip_1 : decode cX9_lastTip 1 = .ok (.getfield 10, 3) := by decide +kernel
theorem dX9_lastTip_4 : decode cX9_lastTip 4 = .ok (.getfield 127, 3) := by decide +kernel
theorem dX9_lastTip_7 : decode cX9_lastTip 7 = .ok (.aload_n 0, 1) := by decide +kernel
theorem dX9_lastTip_8 : decode cX9_lastTip 8 = .ok (.getfield 10, 3) := by decide +kernel
theorem dX9_lastTip_11 : decode cX9_lastTip 11 = .ok (.getfield 127, 3) := by decide +kernel
theorem dX9_lastTip_14 : decode cX9_lastTip 14 = .ok (.iload_n 1, 1) := by decide +kernel
theorem dX9_lastTip_15 : decode cX9_lastTip 15 = .ok (.invokevirtual 131, 3) := by decide +kernel
theorem dX9_lastTip_18 : decode cX9_lastTip 18 = .ok (.invokevirtual 170, 3) := by decide +kernel
theorem dX9_lastTip_21 : decode cX9_lastTip 21 = .ok (.istore_n 2, 1) := by decide +kernel
theorem dX9_lastTip_22 : decode cX9_lastTip 22 = .ok (.aload_n 0, 1) := by decide +kernel
theorem dX9_lastTip_23 : decode cX9_lastTip 23 = .ok (.getfield 10, 3) := by decide +kernel
theorem dX9_lastTip_26 : decode cX9_lastTip 26 = .ok (.getfield 127, 3) := by decide +kernel
theorem dX9_lastTip_29 : decode cX9_lastTip 29 = .ok (.getfield 150, 3) := by decide +kernel
theorem dX9_lastTip_32 : decode cX9_lastTip 32 = .ok (.iload_n 2, 1) := by decide +kernel
theorem dX9_lastTip_33 : decode cX9_lastTip 33 = .ok (.iaload, 1) := by decide +kernel
theorem dX9_lastTip_34 : decode cX9_lastTip 34 = .ok (.ireturn, 1) := by decide +kernel
set_option maxHeartbeats 2000000 in
set_option maxRecDepth 20000 in
theorem k_X9_lastTip (l : Launch) (hfl : l.stackTraces = false) (D : va_G) (aT : Nat → ClassId) (x0 : Nat) (v0 : Nat) (h0 : Nat) (t0 : Nat) (p0 : Nat) (o0 : Nat) (a0 : Nat) (a1 : Nat) (a5 : Nat) (a10 : Nat) (a2 : Nat) (a3 : Nat) (a4 : Nat) (a6 : Nat) (a7 : Nat) (a8 : Nat) (a9 : Nat) (x : Int32) : CxG l yX9_lastTip cX9_lastTip 3 (some (.int)) 7 1 6 112 D aT [.ref x0, .int x] [(x0, .inr (12, [.ref a0, .ref v0, .ref h0, .ref t0, .ref p0, .ref o0, .int (nI 0), .int (-1), .int (-1)])), (a0, .inr (10, [.ref a1, .ref a5, .ref a10, .int (nI 0), .int (nI 0), .int (nI 0), .int (nI 0), .int (nI 0), .int (nI 0), .int (nI 0), .int (nI 0)])), (a1, .inr (6, [.ref a2, .ref a3, .ref a4, .int (nI 0)])), (a2, .inl (aT 0, 6, .inl (fun _ => nI 0))), (a3, .inl (aT 0, 6, .inl (fun _ => nI 0))), (a4, .inl (aT 0, 6, .inl (fun _ => nI 0))), (a5, .inr (8, [.ref a6, .ref a7, .ref a8, .ref a9, .int (nI 0), .int (nI 0)])), (a6, .inl (aT 0, 12, .inl (fun _ => nI 0))), (a7, .inl (aT 0, 12, .inl (fun _ => nI 0))), (a8, .inl (aT 0, 12, .inl (fun _ => nI 0))), (a9, .inl (aT 0, 12, .inl (fun _ => nI 0))), (a10, .inl (aT 0, 4, .inl (fun _ => nI 0)))] (qI D aT (fun _ _ => False)) (fun E => E = "java/util/NoSuchElementException") := by
  refine CxG.of RX9 (by decide +kernel) rfl (Nat.le_of_ble_eq_true rfl) ?_
  intro p e s m below meth c A ls C hml hl hA hr hlocks hex hnm hZ hW
  have hl : lv_has ls 3 [(0, .ref x0), (1, .int x)] := hl
  have hx := C.1
  have hb := C.2.1
  refine lv_aload_n hx hb dX9_lastTip_0 rfl (lv_at hl 0 rfl) ?_
  refine cx_get C hW 0 0 rfl rfl (by decide) inX9 gw_346 rfl rfl dX9_lastTip_1 ?_
  refine cx_getN C hZ hW 1 1 rfl rfl (by decide) inX7 nw_182 rfl rfl dX9_lastTip_4 ?_
  refine lv_aload_n hx hb dX9_lastTip_7 rfl (lv_at hl 0 rfl) ?_
  refine cx_get C hW 0 0 rfl rfl (by decide) inX9 gw_346 rfl rfl dX9_lastTip_8 ?_
  refine cx_getN C hZ hW 1 1 rfl rfl (by decide) inX7 nw_182 rfl rfl dX9_lastTip_11 ?_
  refine lv_iload_n hx hb dX9_lastTip_14 rfl (lv_at hl 1 rfl) ?_
  refine cx_calli (Wr := [(x0, .inr (12, [.ref a0, .ref v0, .ref h0, .ref t0, .ref p0, .ref o0, .int (nI 0), .int (-1), .int (-1)])), (a0, .inr (10, [.ref a1, .ref a5, .ref a10, .int (nI 0), .int (nI 0), .int (nI 0), .int (nI 0), .int (nI 0), .int (nI 0), .int (nI 0), .int (nI 0)])), (a1, .inr (6, [.ref a2, .ref a3, .ref a4, .int (nI 0)])), (a2, .inl (aT 0, 6, .inl (fun _ => nI 0))), (a3, .inl (aT 0, 6, .inl (fun _ => nI 0))), (a4, .inl (aT 0, 6, .inl (fun _ => nI 0))), (a10, .inl (aT 0, 4, .inl (fun _ => nI 0)))]) (cx_runV C hml hl.1 hZ hW hA (As := [.int x]) (rest := [.ref a5]) (k_X5_require l hfl D aT a5 a6 a7 a8 a9 x) gV_X9_X5_require_131 hV_X5_require rfl ⟨Nat.le_of_ble_eq_true rfl, Nat.le_of_ble_eq_true rfl⟩ ⟨Nat.le_of_ble_eq_true rfl, Nat.le_of_ble_eq_true rfl⟩ [6, 7, 8, 9, 10] rfl (by decide) 6 8 rfl rfl rfl rfl (Nat.le_of_ble_eq_true rfl) dX9_lastTip_15) hW hA [6, 7, 8, 9, 10] [0, 1, 2, 3, 4, 5, 11] rfl rfl (by decide) (by decide) (fun E ce q9 H9 locs9 hE hS9 h7 h8 h9 => cx_out hex hlocks hS9 h7 h8 h9 ⟨Nat.le_of_ble_eq_true rfl, Nat.le_of_ble_eq_true rfl⟩ (hE)) (fun r_15 W_15 H locs hq hW => ?_)
  exact hq.elim
theorem dX9_longestPath_0 : decode cX9_longestPath 0 = .ok (.aload_n 0, 1) := by decide +kernel
theorem dX9_longestPath_1 : decode cX9_longestPath 1 = .ok (.getfield 29, 3) := by decide +kernel
theorem dX9_longestPath_4 : decode cX9_longestPath 4 = .ok (.aload_n 0, 1) := by decide +kernel
theorem dX9_longestPath_5 : decode cX9_longestPath 5 = .ok (.getfield 10, 3) := by decide +kernel
theorem dX9_longestPath_8 : decode cX9_longestPath 8 = .ok (.getfield 127, 3) := by decide +kernel
theorem dX9_longestPath_11 : decode cX9_longestPath 11 = .ok (.aload_n 0, 1) := by decide +kernel
theorem dX9_longestPath_12 : decode cX9_longestPath 12 = .ok (.getfield 10, 3) := by decide +kernel
theorem dX9_longestPath_15 : decode cX9_longestPath 15 = .ok (.getfield 127, 3) := by decide +kernel
theorem dX9_longestPath_18 : decode cX9_longestPath 18 = .ok (.iload_n 1, 1) := by decide +kernel
theorem dX9_longestPath_19 : decode cX9_longestPath 19 = .ok (.invokevirtual 131, 3) := by decide +kernel
theorem dX9_longestPath_22 : decode cX9_longestPath 22 = .ok (.invokevirtual 189, 3) := by decide +kernel
theorem dX9_longestPath_25 : decode cX9_longestPath 25 = .ok (.ireturn, 1) := by decide +kernel
set_option maxHeartbeats 2000000 in
set_option maxRecDepth 20000 in
theorem k_X9_longestPath (l : Launch) (hfl : l.stackTraces = false) (D : va_G) (aT : Nat → ClassId) (x0 : Nat) (v0 : Nat) (h0 : Nat) (t0 : Nat) (p0 : Nat) (o0 : Nat) (a0 : Nat) (a1 : Nat) (a5 : Nat) (a10 : Nat) (a2 : Nat) (a3 : Nat) (a4 : Nat) (a6 : Nat) (a7 : Nat) (a8 : Nat) (a9 : Nat) (x : Int32) : CxG l yX9_longestPath cX9_longestPath 2 (some (.int)) 7 1 6 112 D aT [.ref x0, .int x] [(x0, .inr (12, [.ref a0, .ref v0, .ref h0, .ref t0, .ref p0, .ref o0, .int (nI 0), .int (-1), .int (-1)])), (a0, .inr (10, [.ref a1, .ref a5, .ref a10, .int (nI 0), .int (nI 0), .int (nI 0), .int (nI 0), .int (nI 0), .int (nI 0), .int (nI 0), .int (nI 0)])), (a1, .inr (6, [.ref a2, .ref a3, .ref a4, .int (nI 0)])), (a2, .inl (aT 0, 6, .inl (fun _ => nI 0))), (a3, .inl (aT 0, 6, .inl (fun _ => nI 0))), (a4, .inl (aT 0, 6, .inl (fun _ => nI 0))), (a5, .inr (8, [.ref a6, .ref a7, .ref a8, .ref a9, .int (nI 0), .int (nI 0)])), (a6, .inl (aT 0, 12, .inl (fun _ => nI 0))), (a7, .inl (aT 0, 12, .inl (fun _ => nI 0))), (a8, .inl (aT 0, 12, .inl (fun _ => nI 0))), (a9, .inl (aT 0, 12, .inl (fun _ => nI 0))), (a10, .inl (aT 0, 4, .inl (fun _ => nI 0)))] (qI D aT (fun _ _ => False)) (fun E => E = "java/util/NoSuchElementException") := by
  refine CxG.of RX9 (by decide +kernel) rfl (Nat.le_of_ble_eq_true rfl) ?_
  intro p e s m below meth c A ls C hml hl hA hr hlocks hex hnm hZ hW
  have hl : lv_has ls 2 [(0, .ref x0), (1, .int x)] := hl
  have hx := C.1
  have hb := C.2.1
  refine lv_aload_n hx hb dX9_longestPath_0 rfl (lv_at hl 0 rfl) ?_
  refine cx_get C hW 0 3 rfl rfl (by decide) inX9 gw_349 rfl rfl dX9_longestPath_1 ?_
  refine lv_aload_n hx hb dX9_longestPath_4 rfl (lv_at hl 0 rfl) ?_
  refine cx_get C hW 0 0 rfl rfl (by decide) inX9 gw_346 rfl rfl dX9_longestPath_5 ?_
  refine cx_getN C hZ hW 1 1 rfl rfl (by decide) inX7 nw_182 rfl rfl dX9_longestPath_8 ?_
  refine lv_aload_n hx hb dX9_longestPath_11 rfl (lv_at hl 0 rfl) ?_
  refine cx_get C hW 0 0 rfl rfl (by decide) inX9 gw_346 rfl rfl dX9_longestPath_12 ?_
  refine cx_getN C hZ hW 1 1 rfl rfl (by decide) inX7 nw_182 rfl rfl dX9_longestPath_15 ?_
  refine lv_iload_n hx hb dX9_longestPath_18 rfl (lv_at hl 1 rfl) ?_
  refine cx_calli (Wr := [(x0, .inr (12, [.ref a0, .ref v0, .ref h0, .ref t0, .ref p0, .ref o0, .int (nI 0), .int (-1), .int (-1)])), (a0, .inr (10, [.ref a1, .ref a5, .ref a10, .int (nI 0), .int (nI 0), .int (nI 0), .int (nI 0), .int (nI 0), .int (nI 0), .int (nI 0), .int (nI 0)])), (a1, .inr (6, [.ref a2, .ref a3, .ref a4, .int (nI 0)])), (a2, .inl (aT 0, 6, .inl (fun _ => nI 0))), (a3, .inl (aT 0, 6, .inl (fun _ => nI 0))), (a4, .inl (aT 0, 6, .inl (fun _ => nI 0))), (a10, .inl (aT 0, 4, .inl (fun _ => nI 0)))]) (cx_runV C hml hl.1 hZ hW hA (As := [.int x]) (rest := [.ref a5, .ref t0]) (k_X5_require l hfl D aT a5 a6 a7 a8 a9 x) gV_X9_X5_require_131 hV_X5_require rfl ⟨Nat.le_of_ble_eq_true rfl, Nat.le_of_ble_eq_true rfl⟩ ⟨Nat.le_of_ble_eq_true rfl, Nat.le_of_ble_eq_true rfl⟩ [6, 7, 8, 9, 10] rfl (by decide) 6 8 rfl rfl rfl rfl (Nat.le_of_ble_eq_true rfl) dX9_longestPath_19) hW hA [6, 7, 8, 9, 10] [0, 1, 2, 3, 4, 5, 11] rfl rfl (by decide) (by decide) (fun E ce q9 H9 locs9 hE hS9 h7 h8 h9 => cx_out hex hlocks hS9 h7 h8 h9 ⟨Nat.le_of_ble_eq_true rfl, Nat.le_of_ble_eq_true rfl⟩ (hE)) (fun r_19 W_19 H locs hq hW => ?_)
  exact hq.elim
theorem dX9_longestPathBySweeps_0 : decode cX9_longestPathBySweeps 0 = .ok (.aload_n 0, 1) := by decide +kernel
theorem dX9_longestPathBySweeps_1 : decode cX9_longestPathBySweeps 1 = .ok (.getfield 29, 3) := by decide +kernel
theorem dX9_longestPathBySweeps_4 : decode cX9_longestPathBySweeps 4 = .ok (.aload_n 0, 1) := by decide +kernel
theorem dX9_longestPathBySweeps_5 : decode cX9_longestPathBySweeps 5 = .ok (.getfield 10, 3) := by decide +kernel
theorem dX9_longestPathBySweeps_8 : decode cX9_longestPathBySweeps 8 = .ok (.getfield 127, 3) := by decide +kernel
theorem dX9_longestPathBySweeps_11 : decode cX9_longestPathBySweeps 11 = .ok (.aload_n 0, 1) := by decide +kernel
theorem dX9_longestPathBySweeps_12 : decode cX9_longestPathBySweeps 12 = .ok (.getfield 10, 3) := by decide +kernel
theorem dX9_longestPathBySweeps_15 : decode cX9_longestPathBySweeps 15 = .ok (.getfield 127, 3) := by decide +kernel
theorem dX9_longestPathBySweeps_18 : decode cX9_longestPathBySweeps 18 = .ok (.iload_n 1, 1) := by decide +kernel
theorem dX9_longestPathBySweeps_19 : decode cX9_longestPathBySweeps 19 = .ok (.invokevirtual 131, 3) := by decide +kernel
theorem dX9_longestPathBySweeps_22 : decode cX9_longestPathBySweeps 22 = .ok (.invokevirtual 193, 3) := by decide +kernel
theorem dX9_longestPathBySweeps_25 : decode cX9_longestPathBySweeps 25 = .ok (.ireturn, 1) := by decide +kernel
set_option maxHeartbeats 2000000 in
set_option maxRecDepth 20000 in
theorem k_X9_longestPathBySweeps (l : Launch) (hfl : l.stackTraces = false) (D : va_G) (aT : Nat → ClassId) (x0 : Nat) (v0 : Nat) (h0 : Nat) (t0 : Nat) (p0 : Nat) (o0 : Nat) (a0 : Nat) (a1 : Nat) (a5 : Nat) (a10 : Nat) (a2 : Nat) (a3 : Nat) (a4 : Nat) (a6 : Nat) (a7 : Nat) (a8 : Nat) (a9 : Nat) (x : Int32) : CxG l yX9_longestPathBySweeps cX9_longestPathBySweeps 2 (some (.int)) 7 1 6 112 D aT [.ref x0, .int x] [(x0, .inr (12, [.ref a0, .ref v0, .ref h0, .ref t0, .ref p0, .ref o0, .int (nI 0), .int (-1), .int (-1)])), (a0, .inr (10, [.ref a1, .ref a5, .ref a10, .int (nI 0), .int (nI 0), .int (nI 0), .int (nI 0), .int (nI 0), .int (nI 0), .int (nI 0), .int (nI 0)])), (a1, .inr (6, [.ref a2, .ref a3, .ref a4, .int (nI 0)])), (a2, .inl (aT 0, 6, .inl (fun _ => nI 0))), (a3, .inl (aT 0, 6, .inl (fun _ => nI 0))), (a4, .inl (aT 0, 6, .inl (fun _ => nI 0))), (a5, .inr (8, [.ref a6, .ref a7, .ref a8, .ref a9, .int (nI 0), .int (nI 0)])), (a6, .inl (aT 0, 12, .inl (fun _ => nI 0))), (a7, .inl (aT 0, 12, .inl (fun _ => nI 0))), (a8, .inl (aT 0, 12, .inl (fun _ => nI 0))), (a9, .inl (aT 0, 12, .inl (fun _ => nI 0))), (a10, .inl (aT 0, 4, .inl (fun _ => nI 0)))] (qI D aT (fun _ _ => False)) (fun E => E = "java/util/NoSuchElementException") := by
  refine CxG.of RX9 (by decide +kernel) rfl (Nat.le_of_ble_eq_true rfl) ?_
  intro p e s m below meth c A ls C hml hl hA hr hlocks hex hnm hZ hW
  have hl : lv_has ls 2 [(0, .ref x0), (1, .int x)] := hl
  have hx := C.1
  have hb := C.2.1
  refine lv_aload_n hx hb dX9_longestPathBySweeps_0 rfl (lv_at hl 0 rfl) ?_
  refine cx_get C hW 0 3 rfl rfl (by decide) inX9 gw_349 rfl rfl dX9_longestPathBySweeps_1 ?_
  refine lv_aload_n hx hb dX9_longestPathBySweeps_4 rfl (lv_at hl 0 rfl) ?_
  refine cx_get C hW 0 0 rfl rfl (by decide) inX9 gw_346 rfl rfl dX9_longestPathBySweeps_5 ?_
  refine cx_getN C hZ hW 1 1 rfl rfl (by decide) inX7 nw_182 rfl rfl dX9_longestPathBySweeps_8 ?_
  refine lv_aload_n hx hb dX9_longestPathBySweeps_11 rfl (lv_at hl 0 rfl) ?_
  refine cx_get C hW 0 0 rfl rfl (by decide) inX9 gw_346 rfl rfl dX9_longestPathBySweeps_12 ?_
  refine cx_getN C hZ hW 1 1 rfl rfl (by decide) inX7 nw_182 rfl rfl dX9_longestPathBySweeps_15 ?_
  refine lv_iload_n hx hb dX9_longestPathBySweeps_18 rfl (lv_at hl 1 rfl) ?_
  refine cx_calli (Wr := [(x0, .inr (12, [.ref a0, .ref v0, .ref h0, .ref t0, .ref p0, .ref o0, .int (nI 0), .int (-1), .int (-1)])), (a0, .inr (10, [.ref a1, .ref a5, .ref a10, .int (nI 0), .int (nI 0), .int (nI 0), .int (nI 0), .int (nI 0), .int (nI 0), .int (nI 0), .int (nI 0)])), (a1, .inr (6, [.ref a2, .ref a3, .ref a4, .int (nI 0)])), (a2, .inl (aT 0, 6, .inl (fun _ => nI 0))), (a3, .inl (aT 0, 6, .inl (fun _ => nI 0))), (a4, .inl (aT 0, 6, .inl (fun _ => nI 0))), (a10, .inl (aT 0, 4, .inl (fun _ => nI 0)))]) (cx_runV C hml hl.1 hZ hW hA (As := [.int x]) (rest := [.ref a5, .ref t0]) (k_X5_require l hfl D aT a5 a6 a7 a8 a9 x) gV_X9_X5_require_131 hV_X5_require rfl ⟨Nat.le_of_ble_eq_true rfl, Nat.le_of_ble_eq_true rfl⟩ ⟨Nat.le_of_ble_eq_true rfl, Nat.le_of_ble_eq_true rfl⟩ [6, 7, 8, 9, 10] rfl (by decide) 6 8 rfl rfl rfl rfl (Nat.le_of_ble_eq_true rfl) dX9_longestPathBySweeps_19) hW hA [6, 7, 8, 9, 10] [0, 1, 2, 3, 4, 5, 11] rfl rfl (by decide) (by decide) (fun E ce q9 H9 locs9 hE hS9 h7 h8 h9 => cx_out hex hlocks hS9 h7 h8 h9 ⟨Nat.le_of_ble_eq_true rfl, Nat.le_of_ble_eq_true rfl⟩ (hE)) (fun r_19 W_19 H locs hq hW => ?_)
  exact hq.elim
theorem dX9_writeBranch_0 : decode cX9_writeBranch 0 = .ok (.aload_n 0, 1) := by decide +kernel
theorem dX9_writeBranch_1 : decode cX9_writeBranch 1 = .ok (.getfield 10, 3) := by decide +kernel
theorem dX9_writeBranch_4 : decode cX9_writeBranch 4 = .ok (.getfield 127, 3) := by decide +kernel
theorem dX9_writeBranch_7 : decode cX9_writeBranch 7 = .ok (.iload_n 1, 1) := by decide +kernel
theorem dX9_writeBranch_8 : decode cX9_writeBranch 8 = .ok (.invokevirtual 131, 3) := by decide +kernel
theorem dX9_writeBranch_11 : decode cX9_writeBranch 11 = .ok (.istore_n 2, 1) := by decide +kernel
theorem dX9_writeBranch_12 : decode cX9_writeBranch 12 = .ok (.aload_n 0, 1) := by decide +kernel
theorem dX9_writeBranch_13 : decode cX9_writeBranch 13 = .ok (.getfield 43, 3) := by decide +kernel
theorem dX9_writeBranch_16 : decode cX9_writeBranch 16 = .ok (.iconst 0, 1) := by decide +kernel
theorem dX9_writeBranch_17 : decode cX9_writeBranch 17 = .ok (.invokevirtual 290, 3) := by decide +kernel
theorem dX9_writeBranch_20 : decode cX9_writeBranch 20 = .ok (.aload_n 0, 1) := by decide +kernel
theorem dX9_writeBranch_21 : decode cX9_writeBranch 21 = .ok (.getfield 10, 3) := by decide +kernel
theorem dX9_writeBranch_24 : decode cX9_writeBranch 24 = .ok (.getfield 127, 3) := by decide +kernel
theorem dX9_writeBranch_27 : decode cX9_writeBranch 27 = .ok (.iload_n 2, 1) := by decide +kernel
theorem dX9_writeBranch_28 : decode cX9_writeBranch 28 = .ok (.iconst 0, 1) := by decide +kernel
theorem dX9_writeBranch_29 : decode cX9_writeBranch 29 = .ok (.aload_n 0, 1) := by decide +kernel
theorem dX9_writeBranch_30 : decode cX9_writeBranch 30 = .ok (.getfield 43, 3) := by decide +kernel
theorem dX9_writeBranch_33 : decode cX9_writeBranch 33 = .ok (.invokestatic 293, 3) := by decide +kernel
theorem dX9_writeBranch_36 : decode cX9_writeBranch 36 = .ok (.aload_n 0, 1) := by decide +kernel
theorem dX9_writeBranch_37 : decode cX9_writeBranch 37 = .ok (.getfield 43, 3) := by decide +kernel
theorem dX9_writeBranch_40 : decode cX9_writeBranch 40 = .ok (.invokevirtual 297, 3) := by decide +kernel
theorem dX9_writeBranch_43 : decode cX9_writeBranch 43 = .ok (.ireturn, 1) := by decide +kernel
set_option maxHeartbeats 2000000 in
set_option maxRecDepth 20000 in
theorem k_X9_writeBranch (l : Launch) (hfl : l.stackTraces = false) (D : va_G) (aT : Nat → ClassId) (x0 : Nat) (v0 : Nat) (h0 : Nat) (t0 : Nat) (p0 : Nat) (o0 : Nat) (a0 : Nat) (a1 : Nat) (a5 : Nat) (a10 : Nat) (a2 : Nat) (a3 : Nat) (a4 : Nat) (a6 : Nat) (a7 : Nat) (a8 : Nat) (a9 : Nat) (x : Int32) : CxG l yX9_writeBranch cX9_writeBranch 3 (some (.int)) 7 1 6 112 D aT [.ref x0, .int x] [(x0, .inr (12, [.ref a0, .ref v0, .ref h0, .ref t0, .ref p0, .ref o0, .int (nI 0), .int (-1), .int (-1)])), (a0, .inr (10, [.ref a1, .ref a5, .ref a10, .int (nI 0), .int (nI 0), .int (nI 0), .int (nI 0), .int (nI 0), .int (nI 0), .int (nI 0), .int (nI 0)])), (a1, .inr (6, [.ref a2, .ref a3, .ref a4, .int (nI 0)])), (a2, .inl (aT 0, 6, .inl (fun _ => nI 0))), (a3, .inl (aT 0, 6, .inl (fun _ => nI 0))), (a4, .inl (aT 0, 6, .inl (fun _ => nI 0))), (a5, .inr (8, [.ref a6, .ref a7, .ref a8, .ref a9, .int (nI 0), .int (nI 0)])), (a6, .inl (aT 0, 12, .inl (fun _ => nI 0))), (a7, .inl (aT 0, 12, .inl (fun _ => nI 0))), (a8, .inl (aT 0, 12, .inl (fun _ => nI 0))), (a9, .inl (aT 0, 12, .inl (fun _ => nI 0))), (a10, .inl (aT 0, 4, .inl (fun _ => nI 0)))] (qI D aT (fun _ _ => False)) (fun E => E = "java/util/NoSuchElementException") := by
  refine CxG.of RX9 (by decide +kernel) rfl (Nat.le_of_ble_eq_true rfl) ?_
  intro p e s m below meth c A ls C hml hl hA hr hlocks hex hnm hZ hW
  have hl : lv_has ls 3 [(0, .ref x0), (1, .int x)] := hl
  have hx := C.1
  have hb := C.2.1
  refine lv_aload_n hx hb dX9_writeBranch_0 rfl (lv_at hl 0 rfl) ?_
  refine cx_get C hW 0 0 rfl rfl (by decide) inX9 gw_346 rfl rfl dX9_writeBranch_1 ?_
  refine cx_getN C hZ hW 1 1 rfl rfl (by decide) inX7 nw_182 rfl rfl dX9_writeBranch_4 ?_
  refine lv_iload_n hx hb dX9_writeBranch_7 rfl (lv_at hl 1 rfl) ?_
  refine cx_calli (Wr := [(x0, .inr (12, [.ref a0, .ref v0, .ref h0, .ref t0, .ref p0, .ref o0, .int (nI 0), .int (-1), .int (-1)])), (a0, .inr (10, [.ref a1, .ref a5, .ref a10, .int (nI 0), .int (nI 0), .int (nI 0), .int (nI 0), .int (nI 0), .int (nI 0), .int (nI 0), .int (nI 0)])), (a1, .inr (6, [.ref a2, .ref a3, .ref a4, .int (nI 0)])), (a2, .inl (aT 0, 6, .inl (fun _ => nI 0))), (a3, .inl (aT 0, 6, .inl (fun _ => nI 0))), (a4, .inl (aT 0, 6, .inl (fun _ => nI 0))), (a10, .inl (aT 0, 4, .inl (fun _ => nI 0)))]) (cx_runV C hml hl.1 hZ hW hA (As := [.int x]) (rest := []) (k_X5_require l hfl D aT a5 a6 a7 a8 a9 x) gV_X9_X5_require_131 hV_X5_require rfl ⟨Nat.le_of_ble_eq_true rfl, Nat.le_of_ble_eq_true rfl⟩ ⟨Nat.le_of_ble_eq_true rfl, Nat.le_of_ble_eq_true rfl⟩ [6, 7, 8, 9, 10] rfl (by decide) 6 8 rfl rfl rfl rfl (Nat.le_of_ble_eq_true rfl) dX9_writeBranch_8) hW hA [6, 7, 8, 9, 10] [0, 1, 2, 3, 4, 5, 11] rfl rfl (by decide) (by decide) (fun E ce q9 H9 locs9 hE hS9 h7 h8 h9 => cx_out hex hlocks hS9 h7 h8 h9 ⟨Nat.le_of_ble_eq_true rfl, Nat.le_of_ble_eq_true rfl⟩ (hE)) (fun r_8 W_8 H locs hq hW => ?_)
  exact hq.elim
theorem dX9_motionAtRank_0 : decode cX9_motionAtRank 0 = .ok (.aload_n 0, 1) := by decide +kernel
theorem dX9_motionAtRank_1 : decode cX9_motionAtRank 1 = .ok (.iload_n 1, 1) := by decide +kernel
theorem dX9_motionAtRank_2 : decode cX9_motionAtRank 2 = .ok (.invokevirtual 147, 3) := by decide +kernel
theorem dX9_motionAtRank_5 : decode cX9_motionAtRank 5 = .ok (.aload_n 0, 1) := by decide +kernel
theorem dX9_motionAtRank_6 : decode cX9_motionAtRank 6 = .ok (.getfield 10, 3) := by decide +kernel
theorem dX9_motionAtRank_9 : decode cX9_motionAtRank 9 = .ok (.getfield 127, 3) := by decide +kernel
theorem dX9_motionAtRank_12 : decode cX9_motionAtRank 12 = .ok (.getfield 150, 3) := by decide +kernel
theorem dX9_motionAtRank_15 : decode cX9_motionAtRank 15 = .ok (.aload_n 0, 1) := by decide +kernel
theorem dX9_motionAtRank_16 : decode cX9_motionAtRank 16 = .ok (.getfield 10, 3) := by decide +kernel
theorem dX9_motionAtRank_19 : decode cX9_motionAtRank 19 = .ok (.getfield 127, 3) := by decide +kernel
theorem dX9_motionAtRank_22 : decode cX9_motionAtRank 22 = .ok (.iload_n 1, 1) := by decide +kernel
theorem dX9_motionAtRank_23 : decode cX9_motionAtRank 23 = .ok (.invokevirtual 173, 3) := by decide +kernel
theorem dX9_motionAtRank_26 : decode cX9_motionAtRank 26 = .ok (.iaload, 1) := by decide +kernel
theorem dX9_motionAtRank_27 : decode cX9_motionAtRank 27 = .ok (.ireturn, 1) := by decide +kernel
set_option maxHeartbeats 2000000 in
set_option maxRecDepth 20000 in
theorem k_X9_motionAtRank (l : Launch) (hfl : l.stackTraces = false) (D : va_G) (aT : Nat → ClassId) (x0 : Nat) (v0 : Nat) (h0 : Nat) (t0 : Nat) (p0 : Nat) (o0 : Nat) (a0 : Nat) (a1 : Nat) (a5 : Nat) (a10 : Nat) (a2 : Nat) (a3 : Nat) (a4 : Nat) (a6 : Nat) (a7 : Nat) (a8 : Nat) (a9 : Nat) (x : Int32) : CxG l yX9_motionAtRank cX9_motionAtRank 2 (some (.int)) 7 1 6 111 D aT [.ref x0, .int x] [(x0, .inr (12, [.ref a0, .ref v0, .ref h0, .ref t0, .ref p0, .ref o0, .int (nI 0), .int (-1), .int (-1)])), (a0, .inr (10, [.ref a1, .ref a5, .ref a10, .int (nI 0), .int (nI 0), .int (nI 0), .int (nI 0), .int (nI 0), .int (nI 0), .int (nI 0), .int (nI 0)])), (a1, .inr (6, [.ref a2, .ref a3, .ref a4, .int (nI 0)])), (a2, .inl (aT 0, 6, .inl (fun _ => nI 0))), (a3, .inl (aT 0, 6, .inl (fun _ => nI 0))), (a4, .inl (aT 0, 6, .inl (fun _ => nI 0))), (a5, .inr (8, [.ref a6, .ref a7, .ref a8, .ref a9, .int (nI 0), .int (nI 0)])), (a6, .inl (aT 0, 12, .inl (fun _ => nI 0))), (a7, .inl (aT 0, 12, .inl (fun _ => nI 0))), (a8, .inl (aT 0, 12, .inl (fun _ => nI 0))), (a9, .inl (aT 0, 12, .inl (fun _ => nI 0))), (a10, .inl (aT 0, 4, .inl (fun _ => nI 0)))] (qI D aT (fun _ _ => False)) (fun E => E = "java/lang/IndexOutOfBoundsException") := by
  refine CxG.of RX9 (by decide +kernel) rfl (Nat.le_of_ble_eq_true rfl) ?_
  intro p e s m below meth c A ls C hml hl hA hr hlocks hex hnm hZ hW
  have hl : lv_has ls 2 [(0, .ref x0), (1, .int x)] := hl
  have hx := C.1
  have hb := C.2.1
  refine lv_aload_n hx hb dX9_motionAtRank_0 rfl (lv_at hl 0 rfl) ?_
  refine lv_iload_n hx hb dX9_motionAtRank_1 rfl (lv_at hl 1 rfl) ?_
  refine cx_callv (Wr := []) (cx_runV C hml hl.1 hZ hW hA (As := [.int x]) (rest := []) (k_X9_requirePosition l hfl D aT x0 v0 h0 t0 p0 o0 a0 a1 a5 a10 a2 a3 a4 a6 a7 a8 a9 x) gV_X9_X9_requirePosition_147 hV_X9_requirePosition rfl ⟨Nat.le_of_ble_eq_true rfl, Nat.le_of_ble_eq_true rfl⟩ ⟨Nat.le_of_ble_eq_true rfl, Nat.le_of_ble_eq_true rfl⟩ [0, 1, 2, 3, 4, 5, 6, 7, 8, 9, 10, 11] rfl (by decide) 0 12 rfl rfl rfl rfl (Nat.le_of_ble_eq_true rfl) dX9_motionAtRank_2) hW hA [0, 1, 2, 3, 4, 5, 6, 7, 8, 9, 10, 11] [] rfl rfl (by decide) (by decide) (fun E ce q9 H9 locs9 hE hS9 h7 h8 h9 => cx_out hex hlocks hS9 h7 h8 h9 ⟨Nat.le_of_ble_eq_true rfl, Nat.le_of_ble_eq_true rfl⟩ (hE)) (fun W_2 H locs hq hW => ?_)
  exact hq.elim
theorem dX9_commonMotion_0 : decode cX9_commonMotion 0 = .ok (.aload_n 0, 1) := by decide +kernel
theorem dX9_commonMotion_1 : decode cX9_commonMotion 1 = .ok (.getfield 10, 3) := by decide +kernel
theorem dX9_commonMotion_4 : decode cX9_commonMotion 4 = .ok (.getfield 127, 3) := by decide +kernel
theorem dX9_commonMotion_7 : decode cX9_commonMotion 7 = .ok (.iload_n 1, 1) := by decide +kernel
theorem dX9_commonMotion_8 : decode cX9_commonMotion 8 = .ok (.invokevirtual 131, 3) := by decide +kernel
theorem dX9_commonMotion_11 : decode cX9_commonMotion 11 = .ok (.istore_n 3, 1) := by decide +kernel
theorem dX9_commonMotion_12 : decode cX9_commonMotion 12 = .ok (.aload_n 0, 1) := by decide +kernel
theorem dX9_commonMotion_13 : decode cX9_commonMotion 13 = .ok (.getfield 10, 3) := by decide +kernel
theorem dX9_commonMotion_16 : decode cX9_commonMotion 16 = .ok (.getfield 127, 3) := by decide +kernel
theorem dX9_commonMotion_19 : decode cX9_commonMotion 19 = .ok (.iload_n 2, 1) := by decide +kernel
theorem dX9_commonMotion_20 : decode cX9_commonMotion 20 = .ok (.invokevirtual 131, 3) := by decide +kernel
theorem dX9_commonMotion_23 : decode cX9_commonMotion 23 = .ok (.istore 4, 2) := by decide +kernel
theorem dX9_commonMotion_25 : decode cX9_commonMotion 25 = .ok (.aload_n 0, 1) := by decide +kernel
theorem dX9_commonMotion_26 : decode cX9_commonMotion 26 = .ok (.aload_n 0, 1) := by decide +kernel
theorem dX9_commonMotion_27 : decode cX9_commonMotion 27 = .ok (.getfield 29, 3) := by decide +kernel
theorem dX9_commonMotion_30 : decode cX9_commonMotion 30 = .ok (.aload_n 0, 1) := by decide +kernel
theorem dX9_commonMotion_31 : decode cX9_commonMotion 31 = .ok (.getfield 10, 3) := by decide +kernel
theorem dX9_commonMotion_34 : decode cX9_commonMotion 34 = .ok (.getfield 127, 3) := by decide +kernel
theorem dX9_commonMotion_37 : decode cX9_commonMotion 37 = .ok (.iload_n 3, 1) := by decide +kernel
theorem dX9_commonMotion_38 : decode cX9_commonMotion 38 = .ok (.iload 4, 2) := by decide +kernel
theorem dX9_commonMotion_40 : decode cX9_commonMotion 40 = .ok (.invokevirtual 174, 3) := by decide +kernel
theorem dX9_commonMotion_43 : decode cX9_commonMotion 43 = .ok (.invokevirtual 178, 3) := by decide +kernel
theorem dX9_commonMotion_46 : decode cX9_commonMotion 46 = .ok (.ireturn, 1) := by decide +kernel
set_option maxHeartbeats 2000000 in
set_option maxRecDepth 20000 in
theorem k_X9_commonMotion (l : Launch) (hfl : l.stackTraces = false) (D : va_G) (aT : Nat → ClassId) (x0 : Nat) (v0 : Nat) (h0 : Nat) (t0 : Nat) (p0 : Nat) (o0 : Nat) (a0 : Nat) (a1 : Nat) (a5 : Nat) (a10 : Nat) (a2 : Nat) (a3 : Nat) (a4 : Nat) (a6 : Nat) (a7 : Nat) (a8 : Nat) (a9 : Nat) (x : Int32) (y : Int32) : CxG l yX9_commonMotion cX9_commonMotion 5 (some (.int)) 7 1 6 112 D aT [.ref x0, .int x, .int y] [(x0, .inr (12, [.ref a0, .ref v0, .ref h0, .ref t0, .ref p0, .ref o0, .int (nI 0), .int (-1), .int (-1)])), (a0, .inr (10, [.ref a1, .ref a5, .ref a10, .int (nI 0), .int (nI 0), .int (nI 0), .int (nI 0), .int (nI 0), .int (nI 0), .int (nI 0), .int (nI 0)])), (a1, .inr (6, [.ref a2, .ref a3, .ref a4, .int (nI 0)])), (a2, .inl (aT 0, 6, .inl (fun _ => nI 0))), (a3, .inl (aT 0, 6, .inl (fun _ => nI 0))), (a4, .inl (aT 0, 6, .inl (fun _ => nI 0))), (a5, .inr (8, [.ref a6, .ref a7, .ref a8, .ref a9, .int (nI 0), .int (nI 0)])), (a6, .inl (aT 0, 12, .inl (fun _ => nI 0))), (a7, .inl (aT 0, 12, .inl (fun _ => nI 0))), (a8, .inl (aT 0, 12, .inl (fun _ => nI 0))), (a9, .inl (aT 0, 12, .inl (fun _ => nI 0))), (a10, .inl (aT 0, 4, .inl (fun _ => nI 0)))] (qI D aT (fun _ _ => False)) (fun E => E = "java/util/NoSuchElementException") := by
  refine CxG.of RX9 (by decide +kernel) rfl (Nat.le_of_ble_eq_true rfl) ?_
  intro p e s m below meth c A ls C hml hl hA hr hlocks hex hnm hZ hW
  have hl : lv_has ls 5 [(0, .ref x0), (1, .int x), (2, .int y)] := hl
  have hx := C.1
  have hb := C.2.1
  refine lv_aload_n hx hb dX9_commonMotion_0 rfl (lv_at hl 0 rfl) ?_
  refine cx_get C hW 0 0 rfl rfl (by decide) inX9 gw_346 rfl rfl dX9_commonMotion_1 ?_
  refine cx_getN C hZ hW 1 1 rfl rfl (by decide) inX7 nw_182 rfl rfl dX9_commonMotion_4 ?_
  refine lv_iload_n hx hb dX9_commonMotion_7 rfl (lv_at hl 1 rfl) ?_
  refine cx_calli (Wr := [(x0, .inr (12, [.ref a0, .ref v0, .ref h0, .ref t0, .ref p0, .ref o0, .int (nI 0), .int (-1), .int (-1)])), (a0, .inr (10, [.ref a1, .ref a5, .ref a10, .int (nI 0), .int (nI 0), .int (nI 0), .int (nI 0), .int (nI 0), .int (nI 0), .int (nI 0), .int (nI 0)])), (a1, .inr (6, [.ref a2, .ref a3, .ref a4, .int (nI 0)])), (a2, .inl (aT 0, 6, .inl (fun _ => nI 0))), (a3, .inl (aT 0, 6, .inl (fun _ => nI 0))), (a4, .inl (aT 0, 6, .inl (fun _ => nI 0))), (a10, .inl (aT 0, 4, .inl (fun _ => nI 0)))]) (cx_runV C hml hl.1 hZ hW hA (As := [.int x]) (rest := []) (k_X5_require l hfl D aT a5 a6 a7 a8 a9 x) gV_X9_X5_require_131 hV_X5_require rfl ⟨Nat.le_of_ble_eq_true rfl, Nat.le_of_ble_eq_true rfl⟩ ⟨Nat.le_of_ble_eq_true rfl, Nat.le_of_ble_eq_true rfl⟩ [6, 7, 8, 9, 10] rfl (by decide) 6 8 rfl rfl rfl rfl (Nat.le_of_ble_eq_true rfl) dX9_commonMotion_8) hW hA [6, 7, 8, 9, 10] [0, 1, 2, 3, 4, 5, 11] rfl rfl (by decide) (by decide) (fun E ce q9 H9 locs9 hE hS9 h7 h8 h9 => cx_out hex hlocks hS9 h7 h8 h9 ⟨Nat.le_of_ble_eq_true rfl, Nat.le_of_ble_eq_true rfl⟩ (hE)) (fun r_8 W_8 H locs hq hW => ?_)
  exact hq.elim
theorem dX9_commonMotionByRows_0 : decode cX9_commonMotionByRows 0 = .ok (.aload_n 0, 1) := by decide +kernel
theorem dX9_commonMotionByRows_1 : decode cX9_commonMotionByRows 1 = .ok (.getfield 10, 3) := by decide +kernel
theorem dX9_commonMotionByRows_4 : decode cX9_commonMotionByRows 4 = .ok (.getfield 127, 3) := by decide +kernel
theorem dX9_commonMotionByRows_7 : decode cX9_commonMotionByRows 7 = .ok (.iload_n 1, 1) := by decide +kernel
theorem dX9_commonMotionByRows_8 : decode cX9_commonMotionByRows 8 = .ok (.invokevirtual 131, 3) := by decide +kernel
theorem dX9_commonMotionByRows_11 : decode cX9_commonMotionByRows 11 = .ok (.istore_n 3, 1) := by decide +kernel
theorem dX9_commonMotionByRows_12 : decode cX9_commonMotionByRows 12 = .ok (.aload_n 0, 1) := by decide +kernel
theorem dX9_commonMotionByRows_13 : decode cX9_commonMotionByRows 13 = .ok (.getfield 10, 3) := by decide +kernel
theorem dX9_commonMotionByRows_16 : decode cX9_commonMotionByRows 16 = .ok (.getfield 127, 3) := by decide +kernel
theorem dX9_commonMotionByRows_19 : decode cX9_commonMotionByRows 19 = .ok (.iload_n 2, 1) := by decide +kernel
theorem dX9_commonMotionByRows_20 : decode cX9_commonMotionByRows 20 = .ok (.invokevirtual 131, 3) := by decide +kernel
theorem dX9_commonMotionByRows_23 : decode cX9_commonMotionByRows 23 = .ok (.istore 4, 2) := by decide +kernel
theorem dX9_commonMotionByRows_25 : decode cX9_commonMotionByRows 25 = .ok (.aload_n 0, 1) := by decide +kernel
theorem dX9_commonMotionByRows_26 : decode cX9_commonMotionByRows 26 = .ok (.aload_n 0, 1) := by decide +kernel
theorem dX9_commonMotionByRows_27 : decode cX9_commonMotionByRows 27 = .ok (.getfield 29, 3) := by decide +kernel
theorem dX9_commonMotionByRows_30 : decode cX9_commonMotionByRows 30 = .ok (.aload_n 0, 1) := by decide +kernel
theorem dX9_commonMotionByRows_31 : decode cX9_commonMotionByRows 31 = .ok (.getfield 10, 3) := by decide +kernel
theorem dX9_commonMotionByRows_34 : decode cX9_commonMotionByRows 34 = .ok (.getfield 127, 3) := by decide +kernel
theorem dX9_commonMotionByRows_37 : decode cX9_commonMotionByRows 37 = .ok (.iload_n 3, 1) := by decide +kernel
theorem dX9_commonMotionByRows_38 : decode cX9_commonMotionByRows 38 = .ok (.iload 4, 2) := by decide +kernel
theorem dX9_commonMotionByRows_40 : decode cX9_commonMotionByRows 40 = .ok (.invokevirtual 181, 3) := by decide +kernel
theorem dX9_commonMotionByRows_43 : decode cX9_commonMotionByRows 43 = .ok (.invokevirtual 178, 3) := by decide +kernel
theorem dX9_commonMotionByRows_46 : decode cX9_commonMotionByRows 46 = .ok (.ireturn, 1) := by decide +kernel
set_option maxHeartbeats 2000000 in
set_option maxRecDepth 20000 in
theorem k_X9_commonMotionByRows (l : Launch) (hfl : l.stackTraces = false) (D : va_G) (aT : Nat → ClassId) (x0 : Nat) (v0 : Nat) (h0 : Nat) (t0 : Nat) (p0 : Nat) (o0 : Nat) (a0 : Nat) (a1 : Nat) (a5 : Nat) (a10 : Nat) (a2 : Nat) (a3 : Nat) (a4 : Nat) (a6 : Nat) (a7 : Nat) (a8 : Nat) (a9 : Nat) (x : Int32) (y : Int32) : CxG l yX9_commonMotionByRows cX9_commonMotionByRows 5 (some (.int)) 7 1 6 112 D aT [.ref x0, .int x, .int y] [(x0, .inr (12, [.ref a0, .ref v0, .ref h0, .ref t0, .ref p0, .ref o0, .int (nI 0), .int (-1), .int (-1)])), (a0, .inr (10, [.ref a1, .ref a5, .ref a10, .int (nI 0), .int (nI 0), .int (nI 0), .int (nI 0), .int (nI 0), .int (nI 0), .int (nI 0), .int (nI 0)])), (a1, .inr (6, [.ref a2, .ref a3, .ref a4, .int (nI 0)])), (a2, .inl (aT 0, 6, .inl (fun _ => nI 0))), (a3, .inl (aT 0, 6, .inl (fun _ => nI 0))), (a4, .inl (aT 0, 6, .inl (fun _ => nI 0))), (a5, .inr (8, [.ref a6, .ref a7, .ref a8, .ref a9, .int (nI 0), .int (nI 0)])), (a6, .inl (aT 0, 12, .inl (fun _ => nI 0))), (a7, .inl (aT 0, 12, .inl (fun _ => nI 0))), (a8, .inl (aT 0, 12, .inl (fun _ => nI 0))), (a9, .inl (aT 0, 12, .inl (fun _ => nI 0))), (a10, .inl (aT 0, 4, .inl (fun _ => nI 0)))] (qI D aT (fun _ _ => False)) (fun E => E = "java/util/NoSuchElementException") := by
  refine CxG.of RX9 (by decide +kernel) rfl (Nat.le_of_ble_eq_true rfl) ?_
  intro p e s m below meth c A ls C hml hl hA hr hlocks hex hnm hZ hW
  have hl : lv_has ls 5 [(0, .ref x0), (1, .int x), (2, .int y)] := hl
  have hx := C.1
  have hb := C.2.1
  refine lv_aload_n hx hb dX9_commonMotionByRows_0 rfl (lv_at hl 0 rfl) ?_
  refine cx_get C hW 0 0 rfl rfl (by decide) inX9 gw_346 rfl rfl dX9_commonMotionByRows_1 ?_
  refine cx_getN C hZ hW 1 1 rfl rfl (by decide) inX7 nw_182 rfl rfl dX9_commonMotionByRows_4 ?_
  refine lv_iload_n hx hb dX9_commonMotionByRows_7 rfl (lv_at hl 1 rfl) ?_
  refine cx_calli (Wr := [(x0, .inr (12, [.ref a0, .ref v0, .ref h0, .ref t0, .ref p0, .ref o0, .int (nI 0), .int (-1), .int (-1)])), (a0, .inr (10, [.ref a1, .ref a5, .ref a10, .int (nI 0), .int (nI 0), .int (nI 0), .int (nI 0), .int (nI 0), .int (nI 0), .int (nI 0), .int (nI 0)])), (a1, .inr (6, [.ref a2, .ref a3, .ref a4, .int (nI 0)])), (a2, .inl (aT 0, 6, .inl (fun _ => nI 0))), (a3, .inl (aT 0, 6, .inl (fun _ => nI 0))), (a4, .inl (aT 0, 6, .inl (fun _ => nI 0))), (a10, .inl (aT 0, 4, .inl (fun _ => nI 0)))]) (cx_runV C hml hl.1 hZ hW hA (As := [.int x]) (rest := []) (k_X5_require l hfl D aT a5 a6 a7 a8 a9 x) gV_X9_X5_require_131 hV_X5_require rfl ⟨Nat.le_of_ble_eq_true rfl, Nat.le_of_ble_eq_true rfl⟩ ⟨Nat.le_of_ble_eq_true rfl, Nat.le_of_ble_eq_true rfl⟩ [6, 7, 8, 9, 10] rfl (by decide) 6 8 rfl rfl rfl rfl (Nat.le_of_ble_eq_true rfl) dX9_commonMotionByRows_8) hW hA [6, 7, 8, 9, 10] [0, 1, 2, 3, 4, 5, 11] rfl rfl (by decide) (by decide) (fun E ce q9 H9 locs9 hE hS9 h7 h8 h9 => cx_out hex hlocks hS9 h7 h8 h9 ⟨Nat.le_of_ble_eq_true rfl, Nat.le_of_ble_eq_true rfl⟩ (hE)) (fun r_8 W_8 H locs hq hW => ?_)
  exact hq.elim
theorem dX9_pathSize_0 : decode cX9_pathSize 0 = .ok (.aload_n 0, 1) := by decide +kernel
theorem dX9_pathSize_1 : decode cX9_pathSize 1 = .ok (.getfield 10, 3) := by decide +kernel
theorem dX9_pathSize_4 : decode cX9_pathSize 4 = .ok (.getfield 127, 3) := by decide +kernel
theorem dX9_pathSize_7 : decode cX9_pathSize 7 = .ok (.astore_n 3, 1) := by decide +kernel
theorem dX9_pathSize_8 : decode cX9_pathSize 8 = .ok (.aload_n 3, 1) := by decide +kernel
theorem dX9_pathSize_9 : decode cX9_pathSize 9 = .ok (.iload_n 1, 1) := by decide +kernel
theorem dX9_pathSize_10 : decode cX9_pathSize 10 = .ok (.invokevirtual 131, 3) := by decide +kernel
theorem dX9_pathSize_13 : decode cX9_pathSize 13 = .ok (.istore 4, 2) := by decide +kernel
theorem dX9_pathSize_15 : decode cX9_pathSize 15 = .ok (.aload_n 3, 1) := by decide +kernel
theorem dX9_pathSize_16 : decode cX9_pathSize 16 = .ok (.iload_n 2, 1) := by decide +kernel
theorem dX9_pathSize_17 : decode cX9_pathSize 17 = .ok (.invokevirtual 131, 3) := by decide +kernel
theorem dX9_pathSize_20 : decode cX9_pathSize 20 = .ok (.istore 5, 2) := by decide +kernel
theorem dX9_pathSize_22 : decode cX9_pathSize 22 = .ok (.aload_n 0, 1) := by decide +kernel
theorem dX9_pathSize_23 : decode cX9_pathSize 23 = .ok (.getfield 29, 3) := by decide +kernel
theorem dX9_pathSize_26 : decode cX9_pathSize 26 = .ok (.aload_n 3, 1) := by decide +kernel
theorem dX9_pathSize_27 : decode cX9_pathSize 27 = .ok (.iload 4, 2) := by decide +kernel
theorem dX9_pathSize_29 : decode cX9_pathSize 29 = .ok (.iload 5, 2) := by decide +kernel
theorem dX9_pathSize_31 : decode cX9_pathSize 31 = .ok (.invokevirtual 174, 3) := by decide +kernel
theorem dX9_pathSize_34 : decode cX9_pathSize 34 = .ok (.istore 6, 2) := by decide +kernel
theorem dX9_pathSize_36 : decode cX9_pathSize 36 = .ok (.iload 6, 2) := by decide +kernel
theorem dX9_pathSize_38 : decode cX9_pathSize 38 = .ok (.ifCond .ge 13, 3) := by decide +kernel
theorem dX9_pathSize_41 : decode cX9_pathSize 41 = .ok (.new 184, 3) := by decide +kernel
theorem dX9_pathSize_44 : decode cX9_pathSize 44 = .ok (.dup, 1) := by decide +kernel
theorem dX9_pathSize_45 : decode cX9_pathSize 45 = .ok (.ldc 186, 2) := by decide +kernel
theorem dX9_pathSize_47 : decode cX9_pathSize 47 = .ok (.invokespecial 188, 3) := by decide +kernel
theorem dX9_pathSize_50 : decode cX9_pathSize 50 = .ok (.athrow, 1) := by decide +kernel
theorem dX9_pathSize_51 : decode cX9_pathSize 51 = .ok (.aload_n 3, 1) := by decide +kernel
theorem dX9_pathSize_52 : decode cX9_pathSize 52 = .ok (.iload 4, 2) := by decide +kernel
theorem dX9_pathSize_54 : decode cX9_pathSize 54 = .ok (.invokevirtual 161, 3) := by decide +kernel
theorem dX9_pathSize_57 : decode cX9_pathSize 57 = .ok (.aload_n 3, 1) := by decide +kernel
theorem dX9_pathSize_58 : decode cX9_pathSize 58 = .ok (.iload 5, 2) := by decide +kernel
theorem dX9_pathSize_60 : decode cX9_pathSize 60 = .ok (.invokevirtual 161, 3) := by decide +kernel
theorem dX9_pathSize_63 : decode cX9_pathSize 63 = .ok (.iadd, 1) := by decide +kernel
theorem dX9_pathSize_64 : decode cX9_pathSize 64 = .ok (.iconst 2, 1) := by decide +kernel
theorem dX9_pathSize_65 : decode cX9_pathSize 65 = .ok (.aload_n 3, 1) := by decide +kernel
theorem dX9_pathSize_66 : decode cX9_pathSize 66 = .ok (.iload 6, 2) := by decide +kernel
theorem dX9_pathSize_68 : decode cX9_pathSize 68 = .ok (.invokevirtual 161, 3) := by decide +kernel
theorem dX9_pathSize_71 : decode cX9_pathSize 71 = .ok (.imul, 1) := by decide +kernel
theorem dX9_pathSize_72 : decode cX9_pathSize 72 = .ok (.isub, 1) := by decide +kernel
theorem dX9_pathSize_73 : decode cX9_pathSize 73 = .ok (.iconst 1, 1) := by decide +kernel
theorem dX9_pathSize_74 : decode cX9_pathSize 74 = .ok (.iadd, 1) := by decide +kernel
theorem dX9_pathSize_75 : decode cX9_pathSize 75 = .ok (.ireturn, 1) := by decide +kernel
set_option maxHeartbeats 2000000 in
set_option maxRecDepth 20000 in
theorem k_X9_pathSize (l : Launch) (hfl : l.stackTraces = false) (D : va_G) (aT : Nat → ClassId) (x0 : Nat) (v0 : Nat) (h0 : Nat) (t0 : Nat) (p0 : Nat) (o0 : Nat) (a0 : Nat) (a1 : Nat) (a5 : Nat) (a10 : Nat) (a2 : Nat) (a3 : Nat) (a4 : Nat) (a6 : Nat) (a7 : Nat) (a8 : Nat) (a9 : Nat) (x : Int32) (y : Int32) : CxG l yX9_pathSize cX9_pathSize 7 (some (.int)) 7 1 6 112 D aT [.ref x0, .int x, .int y] [(x0, .inr (12, [.ref a0, .ref v0, .ref h0, .ref t0, .ref p0, .ref o0, .int (nI 0), .int (-1), .int (-1)])), (a0, .inr (10, [.ref a1, .ref a5, .ref a10, .int (nI 0), .int (nI 0), .int (nI 0), .int (nI 0), .int (nI 0), .int (nI 0), .int (nI 0), .int (nI 0)])), (a1, .inr (6, [.ref a2, .ref a3, .ref a4, .int (nI 0)])), (a2, .inl (aT 0, 6, .inl (fun _ => nI 0))), (a3, .inl (aT 0, 6, .inl (fun _ => nI 0))), (a4, .inl (aT 0, 6, .inl (fun _ => nI 0))), (a5, .inr (8, [.ref a6, .ref a7, .ref a8, .ref a9, .int (nI 0), .int (nI 0)])), (a6, .inl (aT 0, 12, .inl (fun _ => nI 0))), (a7, .inl (aT 0, 12, .inl (fun _ => nI 0))), (a8, .inl (aT 0, 12, .inl (fun _ => nI 0))), (a9, .inl (aT 0, 12, .inl (fun _ => nI 0))), (a10, .inl (aT 0, 4, .inl (fun _ => nI 0)))] (qI D aT (fun _ _ => False)) (fun E => E = "java/util/NoSuchElementException") := by
  refine CxG.of RX9 (by decide +kernel) rfl (Nat.le_of_ble_eq_true rfl) ?_
  intro p e s m below meth c A ls C hml hl hA hr hlocks hex hnm hZ hW
  have hl : lv_has ls 7 [(0, .ref x0), (1, .int x), (2, .int y)] := hl
  have hx := C.1
  have hb := C.2.1
  refine lv_aload_n hx hb dX9_pathSize_0 rfl (lv_at hl 0 rfl) ?_
  refine cx_get C hW 0 0 rfl rfl (by decide) inX9 gw_346 rfl rfl dX9_pathSize_1 ?_
  refine cx_getN C hZ hW 1 1 rfl rfl (by decide) inX7 nw_182 rfl rfl dX9_pathSize_4 ?_
  refine lv_astore_n (lv' := [(3, .ref a5), (0, .ref x0), (1, .int x), (2, .int y)]) hx hb dX9_pathSize_7 rfl hl (by decide) rfl (fun ls hl => ?_)
  refine lv_aload_n hx hb dX9_pathSize_8 rfl (lv_at hl 0 rfl) ?_
  refine lv_iload_n hx hb dX9_pathSize_9 rfl (lv_at hl 2 rfl) ?_
  refine cx_calli (Wr := [(x0, .inr (12, [.ref a0, .ref v0, .ref h0, .ref t0, .ref p0, .ref o0, .int (nI 0), .int (-1), .int (-1)])), (a0, .inr (10, [.ref a1, .ref a5, .ref a10, .int (nI 0), .int (nI 0), .int (nI 0), .int (nI 0), .int (nI 0), .int (nI 0), .int (nI 0), .int (nI 0)])), (a1, .inr (6, [.ref a2, .ref a3, .ref a4, .int (nI 0)])), (a2, .inl (aT 0, 6, .inl (fun _ => nI 0))), (a3, .inl (aT 0, 6, .inl (fun _ => nI 0))), (a4, .inl (aT 0, 6, .inl (fun _ => nI 0))), (a10, .inl (aT 0, 4, .inl (fun _ => nI 0)))]) (cx_runV C hml hl.1 hZ hW hA (As := [.int x]) (rest := []) (k_X5_require l hfl D aT a5 a6 a7 a8 a9 x) gV_X9_X5_require_131 hV_X5_require rfl ⟨Nat.le_of_ble_eq_true rfl, Nat.le_of_ble_eq_true rfl⟩ ⟨Nat.le_of_ble_eq_true rfl, Nat.le_of_ble_eq_true rfl⟩ [6, 7, 8, 9, 10] rfl (by decide) 6 8 rfl rfl rfl rfl (Nat.le_of_ble_eq_true rfl) dX9_pathSize_10) hW hA [6, 7, 8, 9, 10] [0, 1, 2, 3, 4, 5, 11] rfl rfl (by decide) (by decide) (fun E ce q9 H9 locs9 hE hS9 h7 h8 h9 => cx_out hex hlocks hS9 h7 h8 h9 ⟨Nat.le_of_ble_eq_true rfl, Nat.le_of_ble_eq_true rfl⟩ (hE)) (fun r_10 W_10 H locs hq hW => ?_)
  exact hq.elim
theorem dX9_bestWorth_0 : decode cX9_bestWorth 0 = .ok (.aload_n 0, 1) := by decide +kernel
theorem dX9_bestWorth_1 : decode cX9_bestWorth 1 = .ok (.getfield 29, 3) := by decide +kernel
theorem dX9_bestWorth_4 : decode cX9_bestWorth 4 = .ok (.aload_n 0, 1) := by decide +kernel
theorem dX9_bestWorth_5 : decode cX9_bestWorth 5 = .ok (.getfield 10, 3) := by decide +kernel
theorem dX9_bestWorth_8 : decode cX9_bestWorth 8 = .ok (.getfield 127, 3) := by decide +kernel
theorem dX9_bestWorth_11 : decode cX9_bestWorth 11 = .ok (.invokevirtual 196, 3) := by decide +kernel
theorem dX9_bestWorth_14 : decode cX9_bestWorth 14 = .ok (.l2i, 1) := by decide +kernel
theorem dX9_bestWorth_15 : decode cX9_bestWorth 15 = .ok (.ireturn, 1) := by decide +kernel
theorem gV_X9_X8_bestByBranches_196 : GoodIn gw (wsV RX9 196 RX8 yX8_bestByBranches (Cond.code yX8_bestByBranches cX8_bestByBranches 8 (some .long) :: gw)) := gdV gw_435 gw_436 gw_437 gw_72 gw_438
theorem hV_X8_bestByBranches : yX8_bestByBranches.cls = RX8 ∧ yX8_bestByBranches.cls ≠ "java/lang/invoke/MethodHandle" ∧ yX8_bestByBranches.cls ≠ "java/lang/invoke/VarHandle" ∧ (parseMethodDescriptor yX8_bestByBranches.desc).map (fun d => d.parameters.length) = some 1 := ⟨rfl, by decide +kernel, by decide +kernel, by decide +kernel⟩
set_option maxHeartbeats 2000000 in
set_option maxRecDepth 20000 in
theorem k_X9_bestWorth (l : Launch) (hfl : l.stackTraces = false) (D : va_G) (aT : Nat → ClassId) (x0 : Nat) (v0 : Nat) (h0 : Nat) (t0 : Nat) (p0 : Nat) (o0 : Nat) (a0 : Nat) (a1 : Nat) (a5 : Nat) (a10 : Nat) (a2 : Nat) (a3 : Nat) (a4 : Nat) (a6 : Nat) (a7 : Nat) (a8 : Nat) (a9 : Nat) (t1 : Nat) (t2 : Nat) (t3 : Nat) (t4 : Nat) (t5 : Nat) (t6 : Nat) (r1 : Nat → Int32) (r2 : Nat → Int32) (r3 : Nat → Int32) (r4 : Nat → Int32) (r5 : Nat → Int64) (r6 : Nat → Int64) : CxG l yX9_bestWorth cX9_bestWorth 1 (some (.int)) 2 0 0 51 D aT [.ref x0] [(x0, .inr (12, [.ref a0, .ref v0, .ref h0, .ref t0, .ref p0, .ref o0, .int (nI 0), .int (-1), .int (-1)])), (a0, .inr (10, [.ref a1, .ref a5, .ref a10, .int (nI 0), .int (nI 0), .int (nI 0), .int (nI 0), .int (nI 0), .int (nI 0), .int (nI 0), .int (nI 0)])), (a1, .inr (6, [.ref a2, .ref a3, .ref a4, .int (nI 0)])), (a2, .inl (aT 0, 6, .inl (fun _ => nI 0))), (a3, .inl (aT 0, 6, .inl (fun _ => nI 0))), (a4, .inl (aT 0, 6, .inl (fun _ => nI 0))), (a5, .inr (8, [.ref a6, .ref a7, .ref a8, .ref a9, .int (nI 0), .int (nI 0)])), (a6, .inl (aT 0, 12, .inl (fun _ => nI 0))), (a7, .inl (aT 0, 12, .inl (fun _ => nI 0))), (a8, .inl (aT 0, 12, .inl (fun _ => nI 0))), (a9, .inl (aT 0, 12, .inl (fun _ => nI 0))), (a10, .inl (aT 0, 4, .inl (fun _ => nI 0))), (t0, .inr (11, [.ref t1, .ref t2, .ref t3, .ref t4, .ref t5, .ref t6])), (t1, .inl (aT 0, 12, .inl r1)), (t2, .inl (aT 0, 12, .inl r2)), (t3, .inl (aT 0, 12, .inl r3)), (t4, .inl (aT 0, 12, .inl r4)), (t5, .inl (aT 2, 12, .inr (.inl r5))), (t6, .inl (aT 2, 12, .inr (.inl r6)))] (qI D aT (fun r W1 => r = nI 0)) (fun _ => False) := by
  refine CxG.of RX9 (by decide +kernel) rfl (Nat.le_of_ble_eq_true rfl) ?_
  intro p e s m below meth c A ls C hml hl hA hr hlocks hex hnm hZ hW
  have hl : lv_has ls 1 [(0, .ref x0)] := hl
  have hx := C.1
  have hb := C.2.1
  refine lv_aload_n hx hb dX9_bestWorth_0 rfl (lv_at hl 0 rfl) ?_
  refine cx_get C hW 0 3 rfl rfl (by decide) inX9 gw_349 rfl rfl dX9_bestWorth_1 ?_
  refine lv_aload_n hx hb dX9_bestWorth_4 rfl (lv_at hl 0 rfl) ?_
  refine cx_get C hW 0 0 rfl rfl (by decide) inX9 gw_346 rfl rfl dX9_bestWorth_5 ?_
  refine cx_getN C hZ hW 1 1 rfl rfl (by decide) inX7 nw_182 rfl rfl dX9_bestWorth_8 ?_
  refine cx_calll (Wr := [(x0, .inr (12, [.ref a0, .ref v0, .ref h0, .ref t0, .ref p0, .ref o0, .int (nI 0), .int (-1), .int (-1)])), (a0, .inr (10, [.ref a1, .ref a5, .ref a10, .int (nI 0), .int (nI 0), .int (nI 0), .int (nI 0), .int (nI 0), .int (nI 0), .int (nI 0), .int (nI 0)])), (a1, .inr (6, [.ref a2, .ref a3, .ref a4, .int (nI 0)])), (a2, .inl (aT 0, 6, .inl (fun _ => nI 0))), (a3, .inl (aT 0, 6, .inl (fun _ => nI 0))), (a4, .inl (aT 0, 6, .inl (fun _ => nI 0))), (a10, .inl (aT 0, 4, .inl (fun _ => nI 0)))]) (cx_runV C hml hl.1 hZ hW hA (As := [.ref a5]) (rest := []) (k_X8_bestByBranches l hfl D aT t0 t1 t2 t3 t4 t5 t6 r1 r2 r3 r4 r5 r6 a5 a6 a7 a8 a9) gV_X9_X8_bestByBranches_196 hV_X8_bestByBranches rfl ⟨Nat.le_of_ble_eq_true rfl, Nat.le_of_ble_eq_true rfl⟩ ⟨Nat.le_of_ble_eq_true rfl, Nat.le_of_ble_eq_true rfl⟩ [12, 13, 14, 15, 16, 17, 18, 6, 7, 8, 9, 10] rfl (by decide) 12 11 rfl rfl rfl rfl (Nat.le_of_ble_eq_true rfl) dX9_bestWorth_11) hW hA [12, 13, 14, 15, 16, 17, 18, 6, 7, 8, 9, 10] [0, 1, 2, 3, 4, 5, 11] rfl rfl (by decide) (by decide) (fun _ _ _ _ _ h9 => h9.elim) (fun r_11 W_11 H locs hq hW => ?_)
  obtain ⟨rfl, g1_11, g2_11, g3_11, g4_11, g5_11, g6_11, rfl⟩ := hq
  have hW : CxB D [(x0, .inr (12, [.ref a0, .ref v0, .ref h0, .ref t0, .ref p0, .ref o0, .int (nI 0), .int (-1), .int (-1)])), (a0, .inr (10, [.ref a1, .ref a5, .ref a10, .int (nI 0), .int (nI 0), .int (nI 0), .int (nI 0), .int (nI 0), .int (nI 0), .int (nI 0), .int (nI 0)])), (a1, .inr (6, [.ref a2, .ref a3, .ref a4, .int (nI 0)])), (a2, .inl (aT 0, 6, .inl (fun _ => nI 0))), (a3, .inl (aT 0, 6, .inl (fun _ => nI 0))), (a4, .inl (aT 0, 6, .inl (fun _ => nI 0))), (a10, .inl (aT 0, 4, .inl (fun _ => nI 0))), (t0, .inr (11, [.ref t1, .ref t2, .ref t3, .ref t4, .ref t5, .ref t6])), (t1, .inl (aT 0, 12, .inl g1_11)), (t2, .inl (aT 0, 12, .inl g2_11)), (t3, .inl (aT 0, 12, .inl g3_11)), (t4, .inl (aT 0, 12, .inl g4_11)), (t5, .inl (aT 2, 12, .inr (.inl g5_11))), (t6, .inl (aT 2, 12, .inr (.inl g6_11))), (a5, .inr (8, [.ref a6, .ref a7, .ref a8, .ref a9, .int (nI 0), .int (nI 0)])), (a6, .inl (aT 0, 12, .inl (fun _ => nI 0))), (a7, .inl (aT 0, 12, .inl (fun _ => nI 0))), (a8, .inl (aT 0, 12, .inl (fun _ => nI 0))), (a9, .inl (aT 0, 12, .inl (fun _ => nI 0)))] A s.heap H _ := hW
  refine lv_l2i (v := nI 0) hx hb dX9_bestWorth_14 (by decide) ?_
  exact cx_iret C hr hlocks rfl hW ⟨Nat.le_of_ble_eq_true rfl, Nat.le_of_ble_eq_true rfl⟩ (rfl) dX9_bestWorth_15
theorem dX9_bestWorthBySets_0 : decode cX9_bestWorthBySets 0 = .ok (.aload_n 0, 1) := by decide +kernel
theorem dX9_bestWorthBySets_1 : decode cX9_bestWorthBySets 1 = .ok (.getfield 29, 3) := by decide +kernel
theorem dX9_bestWorthBySets_4 : decode cX9_bestWorthBySets 4 = .ok (.aload_n 0, 1) := by decide +kernel
theorem dX9_bestWorthBySets_5 : decode cX9_bestWorthBySets 5 = .ok (.getfield 10, 3) := by decide +kernel
theorem dX9_bestWorthBySets_8 : decode cX9_bestWorthBySets 8 = .ok (.getfield 127, 3) := by decide +kernel
theorem dX9_bestWorthBySets_11 : decode cX9_bestWorthBySets 11 = .ok (.invokevirtual 200, 3) := by decide +kernel
theorem dX9_bestWorthBySets_14 : decode cX9_bestWorthBySets 14 = .ok (.l2i, 1) := by decide +kernel
theorem dX9_bestWorthBySets_15 : decode cX9_bestWorthBySets 15 = .ok (.ireturn, 1) := by decide +kernel
theorem gV_X9_X8_bestBySets_200 : GoodIn gw (wsV RX9 200 RX8 yX8_bestBySets (Cond.code yX8_bestBySets cX8_bestBySets 6 (some .long) :: gw)) := gdV gw_449 gw_450 gw_451 gw_72 gw_452
theorem hV_X8_bestBySets : yX8_bestBySets.cls = RX8 ∧ yX8_bestBySets.cls ≠ "java/lang/invoke/MethodHandle" ∧ yX8_bestBySets.cls ≠ "java/lang/invoke/VarHandle" ∧ (parseMethodDescriptor yX8_bestBySets.desc).map (fun d => d.parameters.length) = some 1 := ⟨rfl, by decide +kernel, by decide +kernel, by decide +kernel⟩
set_option maxHeartbeats 2000000 in
set_option maxRecDepth 20000 in
theorem k_X9_bestWorthBySets (l : Launch) (hfl : l.stackTraces = false) (D : va_G) (aT : Nat → ClassId) (x0 : Nat) (v0 : Nat) (h0 : Nat) (t0 : Nat) (p0 : Nat) (o0 : Nat) (a0 : Nat) (a1 : Nat) (a5 : Nat) (a10 : Nat) (a2 : Nat) (a3 : Nat) (a4 : Nat) (a6 : Nat) (a7 : Nat) (a8 : Nat) (a9 : Nat) (t1 : Nat) (t2 : Nat) (t3 : Nat) (t4 : Nat) (t5 : Nat) (t6 : Nat) (r1 : Nat → Int32) (r2 : Nat → Int32) (r3 : Nat → Int32) (r4 : Nat → Int32) (r5 : Nat → Int64) (r6 : Nat → Int64) : CxG l yX9_bestWorthBySets cX9_bestWorthBySets 1 (some (.int)) 2 0 0 65 D aT [.ref x0] [(x0, .inr (12, [.ref a0, .ref v0, .ref h0, .ref t0, .ref p0, .ref o0, .int (nI 0), .int (-1), .int (-1)])), (a0, .inr (10, [.ref a1, .ref a5, .ref a10, .int (nI 0), .int (nI 0), .int (nI 0), .int (nI 0), .int (nI 0), .int (nI 0), .int (nI 0), .int (nI 0)])), (a1, .inr (6, [.ref a2, .ref a3, .ref a4, .int (nI 0)])), (a2, .inl (aT 0, 6, .inl (fun _ => nI 0))), (a3, .inl (aT 0, 6, .inl (fun _ => nI 0))), (a4, .inl (aT 0, 6, .inl (fun _ => nI 0))), (a5, .inr (8, [.ref a6, .ref a7, .ref a8, .ref a9, .int (nI 0), .int (nI 0)])), (a6, .inl (aT 0, 12, .inl (fun _ => nI 0))), (a7, .inl (aT 0, 12, .inl (fun _ => nI 0))), (a8, .inl (aT 0, 12, .inl (fun _ => nI 0))), (a9, .inl (aT 0, 12, .inl (fun _ => nI 0))), (a10, .inl (aT 0, 4, .inl (fun _ => nI 0))), (t0, .inr (11, [.ref t1, .ref t2, .ref t3, .ref t4, .ref t5, .ref t6])), (t1, .inl (aT 0, 12, .inl r1)), (t2, .inl (aT 0, 12, .inl r2)), (t3, .inl (aT 0, 12, .inl r3)), (t4, .inl (aT 0, 12, .inl r4)), (t5, .inl (aT 2, 12, .inr (.inl r5))), (t6, .inl (aT 2, 12, .inr (.inl r6)))] (qI D aT (fun r W1 => r = nI 0)) (fun _ => False) := by
  refine CxG.of RX9 (by decide +kernel) rfl (Nat.le_of_ble_eq_true rfl) ?_
  intro p e s m below meth c A ls C hml hl hA hr hlocks hex hnm hZ hW
  have hl : lv_has ls 1 [(0, .ref x0)] := hl
  have hx := C.1
  have hb := C.2.1
  refine lv_aload_n hx hb dX9_bestWorthBySets_0 rfl (lv_at hl 0 rfl) ?_
  refine cx_get C hW 0 3 rfl rfl (by decide) inX9 gw_349 rfl rfl dX9_bestWorthBySets_1 ?_
  refine lv_aload_n hx hb dX9_bestWorthBySets_4 rfl (lv_at hl 0 rfl) ?_
  refine cx_get C hW 0 0 rfl rfl (by decide) inX9 gw_346 rfl rfl dX9_bestWorthBySets_5 ?_
  refine cx_getN C hZ hW 1 1 rfl rfl (by decide) inX7 nw_182 rfl rfl dX9_bestWorthBySets_8 ?_
  refine cx_calll (Wr := [(x0, .inr (12, [.ref a0, .ref v0, .ref h0, .ref t0, .ref p0, .ref o0, .int (nI 0), .int (-1), .int (-1)])), (a0, .inr (10, [.ref a1, .ref a5, .ref a10, .int (nI 0), .int (nI 0), .int (nI 0), .int (nI 0), .int (nI 0), .int (nI 0), .int (nI 0), .int (nI 0)])), (a1, .inr (6, [.ref a2, .ref a3, .ref a4, .int (nI 0)])), (a2, .inl (aT 0, 6, .inl (fun _ => nI 0))), (a3, .inl (aT 0, 6, .inl (fun _ => nI 0))), (a4, .inl (aT 0, 6, .inl (fun _ => nI 0))), (a10, .inl (aT 0, 4, .inl (fun _ => nI 0)))]) (cx_runV C hml hl.1 hZ hW hA (As := [.ref a5]) (rest := []) (k_X8_bestBySets l hfl D aT t0 t1 t2 t3 t4 t5 t6 r1 r2 r3 r4 r5 r6 a5 a6 a7 a8 a9) gV_X9_X8_bestBySets_200 hV_X8_bestBySets rfl ⟨Nat.le_of_ble_eq_true rfl, Nat.le_of_ble_eq_true rfl⟩ ⟨Nat.le_of_ble_eq_true rfl, Nat.le_of_ble_eq_true rfl⟩ [12, 13, 14, 15, 16, 17, 18, 6, 7, 8, 9, 10] rfl (by decide) 12 11 rfl rfl rfl rfl (Nat.le_of_ble_eq_true rfl) dX9_bestWorthBySets_11) hW hA [12, 13, 14, 15, 16, 17, 18, 6, 7, 8, 9, 10] [0, 1, 2, 3, 4, 5, 11] rfl rfl (by decide) (by decide) (fun _ _ _ _ _ h9 => h9.elim) (fun r_11 W_11 H locs hq hW => ?_)
  obtain ⟨rfl, g1_11, g2_11, g3_11, g4_11, g5_11, g6_11, rfl⟩ := hq
  have hW : CxB D [(x0, .inr (12, [.ref a0, .ref v0, .ref h0, .ref t0, .ref p0, .ref o0, .int (nI 0), .int (-1), .int (-1)])), (a0, .inr (10, [.ref a1, .ref a5, .ref a10, .int (nI 0), .int (nI 0), .int (nI 0), .int (nI 0), .int (nI 0), .int (nI 0), .int (nI 0), .int (nI 0)])), (a1, .inr (6, [.ref a2, .ref a3, .ref a4, .int (nI 0)])), (a2, .inl (aT 0, 6, .inl (fun _ => nI 0))), (a3, .inl (aT 0, 6, .inl (fun _ => nI 0))), (a4, .inl (aT 0, 6, .inl (fun _ => nI 0))), (a10, .inl (aT 0, 4, .inl (fun _ => nI 0))), (t0, .inr (11, [.ref t1, .ref t2, .ref t3, .ref t4, .ref t5, .ref t6])), (t1, .inl (aT 0, 12, .inl g1_11)), (t2, .inl (aT 0, 12, .inl g2_11)), (t3, .inl (aT 0, 12, .inl g3_11)), (t4, .inl (aT 0, 12, .inl g4_11)), (t5, .inl (aT 2, 12, .inr (.inl g5_11))), (t6, .inl (aT 2, 12, .inr (.inl g6_11))), (a5, .inr (8, [.ref a6, .ref a7, .ref a8, .ref a9, .int (nI 0), .int (nI 0)])), (a6, .inl (aT 0, 12, .inl (fun _ => nI 0))), (a7, .inl (aT 0, 12, .inl (fun _ => nI 0))), (a8, .inl (aT 0, 12, .inl (fun _ => nI 0))), (a9, .inl (aT 0, 12, .inl (fun _ => nI 0)))] A s.heap H _ := hW
  refine lv_l2i (v := nI 0) hx hb dX9_bestWorthBySets_14 (by decide) ?_
  exact cx_iret C hr hlocks rfl hW ⟨Nat.le_of_ble_eq_true rfl, Nat.le_of_ble_eq_true rfl⟩ (rfl) dX9_bestWorthBySets_15
theorem dX9_goodSets_0 : decode cX9_goodSets 0 = .ok (.aload_n 0, 1) := by decide +kernel
theorem dX9_goodSets_1 : decode cX9_goodSets 1 = .ok (.getfield 29, 3) := by decide +kernel
theorem dX9_goodSets_4 : decode cX9_goodSets 4 = .ok (.aload_n 0, 1) := by decide +kernel
theorem dX9_goodSets_5 : decode cX9_goodSets 5 = .ok (.getfield 10, 3) := by decide +kernel
theorem dX9_goodSets_8 : decode cX9_goodSets 8 = .ok (.getfield 127, 3) := by decide +kernel
theorem dX9_goodSets_11 : decode cX9_goodSets 11 = .ok (.invokevirtual 203, 3) := by decide +kernel
theorem dX9_goodSets_14 : decode cX9_goodSets 14 = .ok (.ireturn, 1) := by decide +kernel
theorem gV_X9_X8_countGoodSets_203 : GoodIn gw (wsV RX9 203 RX8 yX8_countGoodSets (Cond.code yX8_countGoodSets cX8_countGoodSets 8 (some .int) :: gw)) := gdV gw_463 gw_464 gw_465 gw_72 gw_466
theorem hV_X8_countGoodSets : yX8_countGoodSets.cls = RX8 ∧ yX8_countGoodSets.cls ≠ "java/lang/invoke/MethodHandle" ∧ yX8_countGoodSets.cls ≠ "java/lang/invoke/VarHandle" ∧ (parseMethodDescriptor yX8_countGoodSets.desc).map (fun d => d.parameters.length) = some 1 := ⟨rfl, by decide +kernel, by decide +kernel, by decide +kernel⟩
set_option maxHeartbeats 2000000 in
set_option maxRecDepth 20000 in
theorem k_X9_goodSets (l : Launch) (hfl : l.stackTraces = false) (D : va_G) (aT : Nat → ClassId) (x0 : Nat) (v0 : Nat) (h0 : Nat) (t0 : Nat) (p0 : Nat) (o0 : Nat) (a0 : Nat) (a1 : Nat) (a5 : Nat) (a10 : Nat) (a2 : Nat) (a3 : Nat) (a4 : Nat) (a6 : Nat) (a7 : Nat) (a8 : Nat) (a9 : Nat) (t1 : Nat) (t2 : Nat) (t3 : Nat) (t4 : Nat) (t5 : Nat) (t6 : Nat) (r1 : Nat → Int32) (r2 : Nat → Int32) (r3 : Nat → Int32) (r4 : Nat → Int32) (r5 : Nat → Int64) (r6 : Nat → Int64) : CxG l yX9_goodSets cX9_goodSets 1 (some (.int)) 2 0 0 51 D aT [.ref x0] [(x0, .inr (12, [.ref a0, .ref v0, .ref h0, .ref t0, .ref p0, .ref o0, .int (nI 0), .int (-1), .int (-1)])), (a0, .inr (10, [.ref a1, .ref a5, .ref a10, .int (nI 0), .int (nI 0), .int (nI 0), .int (nI 0), .int (nI 0), .int (nI 0), .int (nI 0), .int (nI 0)])), (a1, .inr (6, [.ref a2, .ref a3, .ref a4, .int (nI 0)])), (a2, .inl (aT 0, 6, .inl (fun _ => nI 0))), (a3, .inl (aT 0, 6, .inl (fun _ => nI 0))), (a4, .inl (aT 0, 6, .inl (fun _ => nI 0))), (a5, .inr (8, [.ref a6, .ref a7, .ref a8, .ref a9, .int (nI 0), .int (nI 0)])), (a6, .inl (aT 0, 12, .inl (fun _ => nI 0))), (a7, .inl (aT 0, 12, .inl (fun _ => nI 0))), (a8, .inl (aT 0, 12, .inl (fun _ => nI 0))), (a9, .inl (aT 0, 12, .inl (fun _ => nI 0))), (a10, .inl (aT 0, 4, .inl (fun _ => nI 0))), (t0, .inr (11, [.ref t1, .ref t2, .ref t3, .ref t4, .ref t5, .ref t6])), (t1, .inl (aT 0, 12, .inl r1)), (t2, .inl (aT 0, 12, .inl r2)), (t3, .inl (aT 0, 12, .inl r3)), (t4, .inl (aT 0, 12, .inl r4)), (t5, .inl (aT 2, 12, .inr (.inl r5))), (t6, .inl (aT 2, 12, .inr (.inl r6)))] (qI D aT (fun r W1 => r = nI 1)) (fun _ => False) := by
  refine CxG.of RX9 (by decide +kernel) rfl (Nat.le_of_ble_eq_true rfl) ?_
  intro p e s m below meth c A ls C hml hl hA hr hlocks hex hnm hZ hW
  have hl : lv_has ls 1 [(0, .ref x0)] := hl
  have hx := C.1
  have hb := C.2.1
  refine lv_aload_n hx hb dX9_goodSets_0 rfl (lv_at hl 0 rfl) ?_
  refine cx_get C hW 0 3 rfl rfl (by decide) inX9 gw_349 rfl rfl dX9_goodSets_1 ?_
  refine lv_aload_n hx hb dX9_goodSets_4 rfl (lv_at hl 0 rfl) ?_
  refine cx_get C hW 0 0 rfl rfl (by decide) inX9 gw_346 rfl rfl dX9_goodSets_5 ?_
  refine cx_getN C hZ hW 1 1 rfl rfl (by decide) inX7 nw_182 rfl rfl dX9_goodSets_8 ?_
  refine cx_calli (Wr := [(x0, .inr (12, [.ref a0, .ref v0, .ref h0, .ref t0, .ref p0, .ref o0, .int (nI 0), .int (-1), .int (-1)])), (a0, .inr (10, [.ref a1, .ref a5, .ref a10, .int (nI 0), .int (nI 0), .int (nI 0), .int (nI 0), .int (nI 0), .int (nI 0), .int (nI 0), .int (nI 0)])), (a1, .inr (6, [.ref a2, .ref a3, .ref a4, .int (nI 0)])), (a2, .inl (aT 0, 6, .inl (fun _ => nI 0))), (a3, .inl (aT 0, 6, .inl (fun _ => nI 0))), (a4, .inl (aT 0, 6, .inl (fun _ => nI 0))), (a10, .inl (aT 0, 4, .inl (fun _ => nI 0)))]) (cx_runV C hml hl.1 hZ hW hA (As := [.ref a5]) (rest := []) (k_X8_countGoodSets l hfl D aT t0 t1 t2 t3 t4 t5 t6 r1 r2 r3 r4 r5 r6 a5 a6 a7 a8 a9) gV_X9_X8_countGoodSets_203 hV_X8_countGoodSets rfl ⟨Nat.le_of_ble_eq_true rfl, Nat.le_of_ble_eq_true rfl⟩ ⟨Nat.le_of_ble_eq_true rfl, Nat.le_of_ble_eq_true rfl⟩ [12, 13, 14, 15, 16, 17, 18, 6, 7, 8, 9, 10] rfl (by decide) 12 11 rfl rfl rfl rfl (Nat.le_of_ble_eq_true rfl) dX9_goodSets_11) hW hA [12, 13, 14, 15, 16, 17, 18, 6, 7, 8, 9, 10] [0, 1, 2, 3, 4, 5, 11] rfl rfl (by decide) (by decide) (fun _ _ _ _ _ h9 => h9.elim) (fun r_11 W_11 H locs hq hW => ?_)
  obtain ⟨rfl, g1_11, g2_11, g3_11, g4_11, g5_11, g6_11, rfl⟩ := hq
  have hW : CxB D [(x0, .inr (12, [.ref a0, .ref v0, .ref h0, .ref t0, .ref p0, .ref o0, .int (nI 0), .int (-1), .int (-1)])), (a0, .inr (10, [.ref a1, .ref a5, .ref a10, .int (nI 0), .int (nI 0), .int (nI 0), .int (nI 0), .int (nI 0), .int (nI 0), .int (nI 0), .int (nI 0)])), (a1, .inr (6, [.ref a2, .ref a3, .ref a4, .int (nI 0)])), (a2, .inl (aT 0, 6, .inl (fun _ => nI 0))), (a3, .inl (aT 0, 6, .inl (fun _ => nI 0))), (a4, .inl (aT 0, 6, .inl (fun _ => nI 0))), (a10, .inl (aT 0, 4, .inl (fun _ => nI 0))), (t0, .inr (11, [.ref t1, .ref t2, .ref t3, .ref t4, .ref t5, .ref t6])), (t1, .inl (aT 0, 12, .inl g1_11)), (t2, .inl (aT 0, 12, .inl g2_11)), (t3, .inl (aT 0, 12, .inl g3_11)), (t4, .inl (aT 0, 12, .inl g4_11)), (t5, .inl (aT 2, 12, .inr (.inl g5_11))), (t6, .inl (aT 2, 12, .inr (.inl g6_11))), (a5, .inr (8, [.ref a6, .ref a7, .ref a8, .ref a9, .int (nI 0), .int (nI 0)])), (a6, .inl (aT 0, 12, .inl (fun _ => nI 0))), (a7, .inl (aT 0, 12, .inl (fun _ => nI 0))), (a8, .inl (aT 0, 12, .inl (fun _ => nI 0))), (a9, .inl (aT 0, 12, .inl (fun _ => nI 0)))] A s.heap H _ := hW
  exact cx_iret C hr hlocks rfl hW ⟨Nat.le_of_ble_eq_true rfl, Nat.le_of_ble_eq_true rfl⟩ (rfl) dX9_goodSets_14
theorem dX9_season_0 : decode cX9_season 0 = .ok (.aload_n 0, 1) := by decide +kernel
theorem dX9_season_1 : decode cX9_season 1 = .ok (.getfield 10, 3) := by decide +kernel
theorem dX9_season_4 : decode cX9_season 4 = .ok (.getfield 90, 3) := by decide +kernel
theorem dX9_season_7 : decode cX9_season 7 = .ok (.ireturn, 1) := by decide +kernel
set_option maxHeartbeats 2000000 in
set_option maxRecDepth 20000 in
theorem k_X9_season (l : Launch) (hfl : l.stackTraces = false) (D : va_G) (aT : Nat → ClassId) (x0 : Nat) (v0 : Nat) (h0 : Nat) (t0 : Nat) (p0 : Nat) (o0 : Nat) (a0 : Nat) (a1 : Nat) (a5 : Nat) (a10 : Nat) (a2 : Nat) (a3 : Nat) (a4 : Nat) (a6 : Nat) (a7 : Nat) (a8 : Nat) (a9 : Nat) : CxG l yX9_season cX9_season 1 (some (.int)) 0 0 0 0 D aT [.ref x0] [(x0, .inr (12, [.ref a0, .ref v0, .ref h0, .ref t0, .ref p0, .ref o0, .int (nI 0), .int (-1), .int (-1)])), (a0, .inr (10, [.ref a1, .ref a5, .ref a10, .int (nI 0), .int (nI 0), .int (nI 0), .int (nI 0), .int (nI 0), .int (nI 0), .int (nI 0), .int (nI 0)])), (a1, .inr (6, [.ref a2, .ref a3, .ref a4, .int (nI 0)])), (a2, .inl (aT 0, 6, .inl (fun _ => nI 0))), (a3, .inl (aT 0, 6, .inl (fun _ => nI 0))), (a4, .inl (aT 0, 6, .inl (fun _ => nI 0))), (a5, .inr (8, [.ref a6, .ref a7, .ref a8, .ref a9, .int (nI 0), .int (nI 0)])), (a6, .inl (aT 0, 12, .inl (fun _ => nI 0))), (a7, .inl (aT 0, 12, .inl (fun _ => nI 0))), (a8, .inl (aT 0, 12, .inl (fun _ => nI 0))), (a9, .inl (aT 0, 12, .inl (fun _ => nI 0))), (a10, .inl (aT 0, 4, .inl (fun _ => nI 0)))] (qI D aT (fun r W1 => r = nI 0)) (fun _ => False) := by
  refine CxG.of RX9 (by decide +kernel) rfl (Nat.le_of_ble_eq_true rfl) ?_
  intro p e s m below meth c A ls C hml hl hA hr hlocks hex hnm hZ hW
  have hl : lv_has ls 1 [(0, .ref x0)] := hl
  have hx := C.1
  have hb := C.2.1
  refine lv_aload_n hx hb dX9_season_0 rfl (lv_at hl 0 rfl) ?_
  refine cx_get C hW 0 0 rfl rfl (by decide) inX9 gw_346 rfl rfl dX9_season_1 ?_
  refine cx_getN C hZ hW 1 3 rfl rfl (by decide) inX7 nw_186 rfl rfl dX9_season_4 ?_
  exact cx_iret C hr hlocks rfl hW ⟨Nat.le_of_ble_eq_true rfl, Nat.le_of_ble_eq_true rfl⟩ (rfl) dX9_season_7
theorem dX9_adoptedWeight_0 : decode cX9_adoptedWeight 0 = .ok (.aload_n 0, 1) := by decide +kernel
theorem dX9_adoptedWeight_1 : decode cX9_adoptedWeight 1 = .ok (.getfield 10, 3) := by decide +kernel
theorem dX9_adoptedWeight_4 : decode cX9_adoptedWeight 4 = .ok (.getfield 215, 3) := by decide +kernel
theorem dX9_adoptedWeight_7 : decode cX9_adoptedWeight 7 = .ok (.ireturn, 1) := by decide +kernel
set_option maxHeartbeats 2000000 in
set_option maxRecDepth 20000 in
theorem k_X9_adoptedWeight (l : Launch) (hfl : l.stackTraces = false) (D : va_G) (aT : Nat → ClassId) (x0 : Nat) (v0 : Nat) (h0 : Nat) (t0 : Nat) (p0 : Nat) (o0 : Nat) (a0 : Nat) (a1 : Nat) (a5 : Nat) (a10 : Nat) (a2 : Nat) (a3 : Nat) (a4 : Nat) (a6 : Nat) (a7 : Nat) (a8 : Nat) (a9 : Nat) : CxG l yX9_adoptedWeight cX9_adoptedWeight 1 (some (.int)) 0 0 0 0 D aT [.ref x0] [(x0, .inr (12, [.ref a0, .ref v0, .ref h0, .ref t0, .ref p0, .ref o0, .int (nI 0), .int (-1), .int (-1)])), (a0, .inr (10, [.ref a1, .ref a5, .ref a10, .int (nI 0), .int (nI 0), .int (nI 0), .int (nI 0), .int (nI 0), .int (nI 0), .int (nI 0), .int (nI 0)])), (a1, .inr (6, [.ref a2, .ref a3, .ref a4, .int (nI 0)])), (a2, .inl (aT 0, 6, .inl (fun _ => nI 0))), (a3, .inl (aT 0, 6, .inl (fun _ => nI 0))), (a4, .inl (aT 0, 6, .inl (fun _ => nI 0))), (a5, .inr (8, [.ref a6, .ref a7, .ref a8, .ref a9, .int (nI 0), .int (nI 0)])), (a6, .inl (aT 0, 12, .inl (fun _ => nI 0))), (a7, .inl (aT 0, 12, .inl (fun _ => nI 0))), (a8, .inl (aT 0, 12, .inl (fun _ => nI 0))), (a9, .inl (aT 0, 12, .inl (fun _ => nI 0))), (a10, .inl (aT 0, 4, .inl (fun _ => nI 0)))] (qI D aT (fun r W1 => r = nI 0)) (fun _ => False) := by
  refine CxG.of RX9 (by decide +kernel) rfl (Nat.le_of_ble_eq_true rfl) ?_
  intro p e s m below meth c A ls C hml hl hA hr hlocks hex hnm hZ hW
  have hl : lv_has ls 1 [(0, .ref x0)] := hl
  have hx := C.1
  have hb := C.2.1
  refine lv_aload_n hx hb dX9_adoptedWeight_0 rfl (lv_at hl 0 rfl) ?_
  refine cx_get C hW 0 0 rfl rfl (by decide) inX9 gw_346 rfl rfl dX9_adoptedWeight_1 ?_
  refine cx_getN C hZ hW 1 10 rfl rfl (by decide) inX7 nw_196 rfl rfl dX9_adoptedWeight_4 ?_
  exact cx_iret C hr hlocks rfl hW ⟨Nat.le_of_ble_eq_true rfl, Nat.le_of_ble_eq_true rfl⟩ (rfl) dX9_adoptedWeight_7
theorem dX9_weightTotal_0 : decode cX9_weightTotal 0 = .ok (.aload_n 0, 1) := by decide +kernel
theorem dX9_weightTotal_1 : decode cX9_weightTotal 1 = .ok (.getfield 10, 3) := by decide +kernel
theorem dX9_weightTotal_4 : decode cX9_weightTotal 4 = .ok (.getfield 127, 3) := by decide +kernel
theorem dX9_weightTotal_7 : decode cX9_weightTotal 7 = .ok (.invokevirtual 218, 3) := by decide +kernel
theorem dX9_weightTotal_10 : decode cX9_weightTotal 10 = .ok (.ireturn, 1) := by decide +kernel
theorem gV_X9_X5_totalWeight_218 : GoodIn gw (wsV RX9 218 RX5 yX5_totalWeight (Cond.code yX5_totalWeight cX5_totalWeight 3 (some .int) :: gw)) := gdV gw_479 gw_480 gw_481 gw_70 gw_482
theorem hV_X5_totalWeight : yX5_totalWeight.cls = RX5 ∧ yX5_totalWeight.cls ≠ "java/lang/invoke/MethodHandle" ∧ yX5_totalWeight.cls ≠ "java/lang/invoke/VarHandle" ∧ (parseMethodDescriptor yX5_totalWeight.desc).map (fun d => d.parameters.length) = some 0 := ⟨rfl, by decide +kernel, by decide +kernel, by decide +kernel⟩
set_option maxHeartbeats 2000000 in
set_option maxRecDepth 20000 in
theorem k_X9_weightTotal (l : Launch) (hfl : l.stackTraces = false) (D : va_G) (aT : Nat → ClassId) (x0 : Nat) (v0 : Nat) (h0 : Nat) (t0 : Nat) (p0 : Nat) (o0 : Nat) (a0 : Nat) (a1 : Nat) (a5 : Nat) (a10 : Nat) (a2 : Nat) (a3 : Nat) (a4 : Nat) (a6 : Nat) (a7 : Nat) (a8 : Nat) (a9 : Nat) : CxG l yX9_weightTotal cX9_weightTotal 1 (some (.int)) 1 0 0 22 D aT [.ref x0] [(x0, .inr (12, [.ref a0, .ref v0, .ref h0, .ref t0, .ref p0, .ref o0, .int (nI 0), .int (-1), .int (-1)])), (a0, .inr (10, [.ref a1, .ref a5, .ref a10, .int (nI 0), .int (nI 0), .int (nI 0), .int (nI 0), .int (nI 0), .int (nI 0), .int (nI 0), .int (nI 0)])), (a1, .inr (6, [.ref a2, .ref a3, .ref a4, .int (nI 0)])), (a2, .inl (aT 0, 6, .inl (fun _ => nI 0))), (a3, .inl (aT 0, 6, .inl (fun _ => nI 0))), (a4, .inl (aT 0, 6, .inl (fun _ => nI 0))), (a5, .inr (8, [.ref a6, .ref a7, .ref a8, .ref a9, .int (nI 0), .int (nI 0)])), (a6, .inl (aT 0, 12, .inl (fun _ => nI 0))), (a7, .inl (aT 0, 12, .inl (fun _ => nI 0))), (a8, .inl (aT 0, 12, .inl (fun _ => nI 0))), (a9, .inl (aT 0, 12, .inl (fun _ => nI 0))), (a10, .inl (aT 0, 4, .inl (fun _ => nI 0)))] (qI D aT (fun r W1 => r = nI 0)) (fun _ => False) := by
  refine CxG.of RX9 (by decide +kernel) rfl (Nat.le_of_ble_eq_true rfl) ?_
  intro p e s m below meth c A ls C hml hl hA hr hlocks hex hnm hZ hW
  have hl : lv_has ls 1 [(0, .ref x0)] := hl
  have hx := C.1
  have hb := C.2.1
  refine lv_aload_n hx hb dX9_weightTotal_0 rfl (lv_at hl 0 rfl) ?_
  refine cx_get C hW 0 0 rfl rfl (by decide) inX9 gw_346 rfl rfl dX9_weightTotal_1 ?_
  refine cx_getN C hZ hW 1 1 rfl rfl (by decide) inX7 nw_182 rfl rfl dX9_weightTotal_4 ?_
  refine cx_calli (Wr := [(x0, .inr (12, [.ref a0, .ref v0, .ref h0, .ref t0, .ref p0, .ref o0, .int (nI 0), .int (-1), .int (-1)])), (a0, .inr (10, [.ref a1, .ref a5, .ref a10, .int (nI 0), .int (nI 0), .int (nI 0), .int (nI 0), .int (nI 0), .int (nI 0), .int (nI 0), .int (nI 0)])), (a1, .inr (6, [.ref a2, .ref a3, .ref a4, .int (nI 0)])), (a2, .inl (aT 0, 6, .inl (fun _ => nI 0))), (a3, .inl (aT 0, 6, .inl (fun _ => nI 0))), (a4, .inl (aT 0, 6, .inl (fun _ => nI 0))), (a10, .inl (aT 0, 4, .inl (fun _ => nI 0)))]) (cx_runV C hml hl.1 hZ hW hA (As := []) (rest := []) (k_X5_totalWeight l hfl D aT a5 a6 a7 a8 a9) gV_X9_X5_totalWeight_218 hV_X5_totalWeight rfl ⟨Nat.le_of_ble_eq_true rfl, Nat.le_of_ble_eq_true rfl⟩ ⟨Nat.le_of_ble_eq_true rfl, Nat.le_of_ble_eq_true rfl⟩ [6, 7, 8, 9, 10] rfl (by decide) 6 8 rfl rfl rfl rfl (Nat.le_of_ble_eq_true rfl) dX9_weightTotal_7) hW hA [6, 7, 8, 9, 10] [0, 1, 2, 3, 4, 5, 11] rfl rfl (by decide) (by decide) (fun _ _ _ _ _ h9 => h9.elim) (fun r_7 W_7 H locs hq hW => ?_)
  obtain ⟨rfl, rfl⟩ := hq
  have hW : CxB D [(x0, .inr (12, [.ref a0, .ref v0, .ref h0, .ref t0, .ref p0, .ref o0, .int (nI 0), .int (-1), .int (-1)])), (a0, .inr (10, [.ref a1, .ref a5, .ref a10, .int (nI 0), .int (nI 0), .int (nI 0), .int (nI 0), .int (nI 0), .int (nI 0), .int (nI 0), .int (nI 0)])), (a1, .inr (6, [.ref a2, .ref a3, .ref a4, .int (nI 0)])), (a2, .inl (aT 0, 6, .inl (fun _ => nI 0))), (a3, .inl (aT 0, 6, .inl (fun _ => nI 0))), (a4, .inl (aT 0, 6, .inl (fun _ => nI 0))), (a10, .inl (aT 0, 4, .inl (fun _ => nI 0))), (a5, .inr (8, [.ref a6, .ref a7, .ref a8, .ref a9, .int (nI 0), .int (nI 0)])), (a6, .inl (aT 0, 12, .inl (fun _ => nI 0))), (a7, .inl (aT 0, 12, .inl (fun _ => nI 0))), (a8, .inl (aT 0, 12, .inl (fun _ => nI 0))), (a9, .inl (aT 0, 12, .inl (fun _ => nI 0)))] A s.heap H _ := hW
  exact cx_iret C hr hlocks rfl hW ⟨Nat.le_of_ble_eq_true rfl, Nat.le_of_ble_eq_true rfl⟩ (rfl) dX9_weightTotal_10
theorem dX9_weightByAccounts_0 : decode cX9_weightByAccounts 0 = .ok (.aload_n 0, 1) := by decide +kernel
theorem dX9_weightByAccounts_1 : decode cX9_weightByAccounts 1 = .ok (.getfield 10, 3) := by decide +kernel
theorem dX9_weightByAccounts_4 : decode cX9_weightByAccounts 4 = .ok (.invokevirtual 222, 3) := by decide +kernel
theorem dX9_weightByAccounts_7 : decode cX9_weightByAccounts 7 = .ok (.ireturn, 1) := by decide +kernel
theorem gV_X9_X7_accountedWeight_222 : GoodIn gw (wsV RX9 222 RX7 yX7_accountedWeight (Cond.code yX7_accountedWeight cX7_accountedWeight 1 (some .int) :: gw)) := gdV gw_487 gw_488 gw_489 gw_68 gw_490
theorem hV_X7_accountedWeight : yX7_accountedWeight.cls = RX7 ∧ yX7_accountedWeight.cls ≠ "java/lang/invoke/MethodHandle" ∧ yX7_accountedWeight.cls ≠ "java/lang/invoke/VarHandle" ∧ (parseMethodDescriptor yX7_accountedWeight.desc).map (fun d => d.parameters.length) = some 0 := ⟨rfl, by decide +kernel, by decide +kernel, by decide +kernel⟩
set_option maxHeartbeats 2000000 in
set_option maxRecDepth 20000 in
theorem k_X9_weightByAccounts (l : Launch) (hfl : l.stackTraces = false) (D : va_G) (aT : Nat → ClassId) (x0 : Nat) (v0 : Nat) (h0 : Nat) (t0 : Nat) (p0 : Nat) (o0 : Nat) (a0 : Nat) (a1 : Nat) (a5 : Nat) (a10 : Nat) (a2 : Nat) (a3 : Nat) (a4 : Nat) (a6 : Nat) (a7 : Nat) (a8 : Nat) (a9 : Nat) : CxG l yX9_weightByAccounts cX9_weightByAccounts 1 (some (.int)) 1 0 0 20 D aT [.ref x0] [(x0, .inr (12, [.ref a0, .ref v0, .ref h0, .ref t0, .ref p0, .ref o0, .int (nI 0), .int (-1), .int (-1)])), (a0, .inr (10, [.ref a1, .ref a5, .ref a10, .int (nI 0), .int (nI 0), .int (nI 0), .int (nI 0), .int (nI 0), .int (nI 0), .int (nI 0), .int (nI 0)])), (a1, .inr (6, [.ref a2, .ref a3, .ref a4, .int (nI 0)])), (a2, .inl (aT 0, 6, .inl (fun _ => nI 0))), (a3, .inl (aT 0, 6, .inl (fun _ => nI 0))), (a4, .inl (aT 0, 6, .inl (fun _ => nI 0))), (a5, .inr (8, [.ref a6, .ref a7, .ref a8, .ref a9, .int (nI 0), .int (nI 0)])), (a6, .inl (aT 0, 12, .inl (fun _ => nI 0))), (a7, .inl (aT 0, 12, .inl (fun _ => nI 0))), (a8, .inl (aT 0, 12, .inl (fun _ => nI 0))), (a9, .inl (aT 0, 12, .inl (fun _ => nI 0))), (a10, .inl (aT 0, 4, .inl (fun _ => nI 0)))] (qI D aT (fun r W1 => r = nI 0)) (fun _ => False) := by
  refine CxG.of RX9 (by decide +kernel) rfl (Nat.le_of_ble_eq_true rfl) ?_
  intro p e s m below meth c A ls C hml hl hA hr hlocks hex hnm hZ hW
  have hl : lv_has ls 1 [(0, .ref x0)] := hl
  have hx := C.1
  have hb := C.2.1
  refine lv_aload_n hx hb dX9_weightByAccounts_0 rfl (lv_at hl 0 rfl) ?_
  refine cx_get C hW 0 0 rfl rfl (by decide) inX9 gw_346 rfl rfl dX9_weightByAccounts_1 ?_
  refine cx_calli (Wr := [(x0, .inr (12, [.ref a0, .ref v0, .ref h0, .ref t0, .ref p0, .ref o0, .int (nI 0), .int (-1), .int (-1)]))]) (cx_runV C hml hl.1 hZ hW hA (As := []) (rest := []) (k_X7_accountedWeight l hfl D aT a0 a1 a2 a3 a4 a5 a6 a7 a8 a9 a10) gV_X9_X7_accountedWeight_222 hV_X7_accountedWeight rfl ⟨Nat.le_of_ble_eq_true rfl, Nat.le_of_ble_eq_true rfl⟩ ⟨Nat.le_of_ble_eq_true rfl, Nat.le_of_ble_eq_true rfl⟩ [1, 2, 3, 4, 5, 6, 7, 8, 9, 10, 11] rfl (by decide) 1 10 rfl rfl rfl rfl (Nat.le_of_ble_eq_true rfl) dX9_weightByAccounts_4) hW hA [1, 2, 3, 4, 5, 6, 7, 8, 9, 10, 11] [0] rfl rfl (by decide) (by decide) (fun _ _ _ _ _ h9 => h9.elim) (fun r_4 W_4 H locs hq hW => ?_)
  obtain ⟨rfl, rfl⟩ := hq
  have hW : CxB D [(x0, .inr (12, [.ref a0, .ref v0, .ref h0, .ref t0, .ref p0, .ref o0, .int (nI 0), .int (-1), .int (-1)])), (a0, .inr (10, [.ref a1, .ref a5, .ref a10, .int (nI 0), .int (nI 0), .int (nI 0), .int (nI 0), .int (nI 0), .int (nI 0), .int (nI 0), .int (nI 0)])), (a1, .inr (6, [.ref a2, .ref a3, .ref a4, .int (nI 0)])), (a2, .inl (aT 0, 6, .inl (fun _ => nI 0))), (a3, .inl (aT 0, 6, .inl (fun _ => nI 0))), (a4, .inl (aT 0, 6, .inl (fun _ => nI 0))), (a5, .inr (8, [.ref a6, .ref a7, .ref a8, .ref a9, .int (nI 0), .int (nI 0)])), (a6, .inl (aT 0, 12, .inl (fun _ => nI 0))), (a7, .inl (aT 0, 12, .inl (fun _ => nI 0))), (a8, .inl (aT 0, 12, .inl (fun _ => nI 0))), (a9, .inl (aT 0, 12, .inl (fun _ => nI 0))), (a10, .inl (aT 0, 4, .inl (fun _ => nI 0)))] A s.heap H _ := hW
  exact cx_iret C hr hlocks rfl hW ⟨Nat.le_of_ble_eq_true rfl, Nat.le_of_ble_eq_true rfl⟩ (rfl) dX9_weightByAccounts_7
theorem dX9_minutesIn_0 : decode cX9_minutesIn 0 = .ok (.iload_n 1, 1) := by decide +kernel
theorem dX9_minutesIn_1 : decode cX9_minutesIn 1 = .ok (.ifCond .lt 8, 3) := by decide +kernel
theorem dX9_minutesIn_4 : decode cX9_minutesIn 4 = .ok (.iload_n 1, 1) := by decide +kernel
theorem dX9_minutesIn_5 : decode cX9_minutesIn 5 = .ok (.iconst 4, 1) := by decide +kernel
theorem dX9_minutesIn_6 : decode cX9_minutesIn 6 = .ok (.if_icmp .lt 13, 3) := by decide +kernel
theorem dX9_minutesIn_9 : decode cX9_minutesIn 9 = .ok (.new 207, 3) := by decide +kernel
theorem dX9_minutesIn_12 : decode cX9_minutesIn 12 = .ok (.dup, 1) := by decide +kernel
theorem dX9_minutesIn_13 : decode cX9_minutesIn 13 = .ok (.ldc 209, 2) := by decide +kernel
theorem dX9_minutesIn_15 : decode cX9_minutesIn 15 = .ok (.invokespecial 211, 3) := by decide +kernel
theorem dX9_minutesIn_18 : decode cX9_minutesIn 18 = .ok (.athrow, 1) := by decide +kernel
theorem dX9_minutesIn_19 : decode cX9_minutesIn 19 = .ok (.aload_n 0, 1) := by decide +kernel
theorem dX9_minutesIn_20 : decode cX9_minutesIn 20 = .ok (.getfield 10, 3) := by decide +kernel
theorem dX9_minutesIn_23 : decode cX9_minutesIn 23 = .ok (.getfield 212, 3) := by decide +kernel
theorem dX9_minutesIn_26 : decode cX9_minutesIn 26 = .ok (.iload_n 1, 1) := by decide +kernel
theorem dX9_minutesIn_27 : decode cX9_minutesIn 27 = .ok (.iaload, 1) := by decide +kernel
theorem dX9_minutesIn_28 : decode cX9_minutesIn 28 = .ok (.ireturn, 1) := by decide +kernel
set_option maxHeartbeats 2000000 in
set_option maxRecDepth 20000 in
theorem k_X9_minutesIn (l : Launch) (hfl : l.stackTraces = false) (D : va_G) (aT : Nat → ClassId) (x0 : Nat) (v0 : Nat) (h0 : Nat) (t0 : Nat) (p0 : Nat) (o0 : Nat) (a0 : Nat) (a1 : Nat) (a5 : Nat) (a10 : Nat) (a2 : Nat) (a3 : Nat) (a4 : Nat) (a6 : Nat) (a7 : Nat) (a8 : Nat) (a9 : Nat) (x : Int32) : CxG l yX9_minutesIn cX9_minutesIn 2 (some (.int)) 6 1 6 90 D aT [.ref x0, .int x] [(x0, .inr (12, [.ref a0, .ref v0, .ref h0, .ref t0, .ref p0, .ref o0, .int (nI 0), .int (-1), .int (-1)])), (a0, .inr (10, [.ref a1, .ref a5, .ref a10, .int (nI 0), .int (nI 0), .int (nI 0), .int (nI 0), .int (nI 0), .int (nI 0), .int (nI 0), .int (nI 0)])), (a1, .inr (6, [.ref a2, .ref a3, .ref a4, .int (nI 0)])), (a2, .inl (aT 0, 6, .inl (fun _ => nI 0))), (a3, .inl (aT 0, 6, .inl (fun _ => nI 0))), (a4, .inl (aT 0, 6, .inl (fun _ => nI 0))), (a5, .inr (8, [.ref a6, .ref a7, .ref a8, .ref a9, .int (nI 0), .int (nI 0)])), (a6, .inl (aT 0, 12, .inl (fun _ => nI 0))), (a7, .inl (aT 0, 12, .inl (fun _ => nI 0))), (a8, .inl (aT 0, 12, .inl (fun _ => nI 0))), (a9, .inl (aT 0, 12, .inl (fun _ => nI 0))), (a10, .inl (aT 0, 4, .inl (fun _ => nI 0)))] (qI D aT (fun r W1 => rgB 0 3 x = true ∧ r = nI 0)) (fun E => rgB 0 3 x = false ∧ E = "java/lang/IllegalArgumentException") := by
  refine CxG.of RX9 (by decide +kernel) rfl (Nat.le_of_ble_eq_true rfl) ?_
  intro p e s m below meth c A ls C hml hl hA hr hlocks hex hnm hZ hW
  have hl : lv_has ls 2 [(0, .ref x0), (1, .int x)] := hl
  have hx := C.1
  have hb := C.2.1
  refine lv_iload_n hx hb dX9_minutesIn_0 rfl (lv_at hl 1 rfl) ?_
  refine lv_if_lt hx hb (x := x) (tgt := 9) dX9_minutesIn_1 (by decide) (fun c_1 => ?_) (fun c_1 => ?_)
  · exact cx_throw C hfl hex hml hl.1 hlocks hZ hW at_X9_IllegalArgumentException (List.mem_of_getElem? (i := 14) rfl) gw_1051 gw_86 (by decide +kernel) dX9_minutesIn_9 dX9_minutesIn_12 dX9_minutesIn_13 dX9_minutesIn_15 dX9_minutesIn_18 ⟨Nat.le_of_ble_eq_true rfl, Nat.le_of_ble_eq_true rfl, Nat.le_of_ble_eq_true rfl, Nat.le_of_ble_eq_true rfl⟩ ⟨Nat.le_of_ble_eq_true rfl, Nat.le_of_ble_eq_true rfl⟩ (⟨rg_lo (a := 0) (b := nI 3) (by decide) (by decide) c_1, rfl⟩)
  · refine lv_iload_n hx hb dX9_minutesIn_4 rfl (lv_at hl 1 rfl) ?_
    refine lv_iconst (v := nI 4) hx hb dX9_minutesIn_5 (by decide) ?_
    refine lv_icmp_lt hx hb (x := x) (y := (nI 4)) (tgt := 19) dX9_minutesIn_6 (by decide) (fun c_6 => ?_) (fun c_6 => ?_)
    · obtain ⟨v, hv4, rfl⟩ := i_nat (by decide) c_1 c_6
      refine lv_aload_n hx hb dX9_minutesIn_19 rfl (lv_at hl 0 rfl) ?_
      refine cx_get C hW 0 0 rfl rfl (by decide) inX9 gw_346 rfl rfl dX9_minutesIn_20 ?_
      refine cx_getN C hZ hW 1 2 rfl rfl (by decide) inX7 nw_184 rfl rfl dX9_minutesIn_23 ?_
      refine lv_iload_n hx hb dX9_minutesIn_26 rfl (lv_at hl 1 rfl) ?_
      refine cx_ald C hW 11 0 (j := v) rfl rfl rfl (hv4) (by decide) dX9_minutesIn_27 ?_
      exact cx_iret C hr hlocks rfl hW ⟨Nat.le_of_ble_eq_true rfl, Nat.le_of_ble_eq_true rfl⟩ (⟨mi_in hv4, rfl⟩) dX9_minutesIn_28
    · exact cx_throw C hfl hex hml hl.1 hlocks hZ hW at_X9_IllegalArgumentException (List.mem_of_getElem? (i := 14) rfl) gw_1051 gw_86 (by decide +kernel) dX9_minutesIn_9 dX9_minutesIn_12 dX9_minutesIn_13 dX9_minutesIn_15 dX9_minutesIn_18 ⟨Nat.le_of_ble_eq_true rfl, Nat.le_of_ble_eq_true rfl, Nat.le_of_ble_eq_true rfl, Nat.le_of_ble_eq_true rfl⟩ ⟨Nat.le_of_ble_eq_true rfl, Nat.le_of_ble_eq_true rfl⟩ (⟨mi_hi c_6, rfl⟩)
theorem dX9_meanLeaves_0 : decode cX9_meanLeaves 0 = .ok (.aload_n 0, 1) := by decide +kernel
theorem dX9_meanLeaves_1 : decode cX9_meanLeaves 1 = .ok (.getfield 10, 3) := by decide +kernel
theorem dX9_meanLeaves_4 : decode cX9_meanLeaves 4 = .ok (.getfield 93, 3) := by decide +kernel
theorem dX9_meanLeaves_7 : decode cX9_meanLeaves 7 = .ok (.getfield 97, 3) := by decide +kernel
theorem dX9_meanLeaves_10 : decode cX9_meanLeaves 10 = .ok (.ifCond .ne 13, 3) := by decide +kernel
theorem dX9_meanLeaves_13 : decode cX9_meanLeaves 13 = .ok (.new 225, 3) := by decide +kernel
theorem dX9_meanLeaves_16 : decode cX9_meanLeaves 16 = .ok (.dup, 1) := by decide +kernel
theorem dX9_meanLeaves_17 : decode cX9_meanLeaves 17 = .ok (.ldc 227, 2) := by decide +kernel
theorem dX9_meanLeaves_19 : decode cX9_meanLeaves 19 = .ok (.invokespecial 229, 3) := by decide +kernel
theorem dX9_meanLeaves_22 : decode cX9_meanLeaves 22 = .ok (.athrow, 1) := by decide +kernel
theorem dX9_meanLeaves_23 : decode cX9_meanLeaves 23 = .ok (.aload_n 0, 1) := by decide +kernel
theorem dX9_meanLeaves_24 : decode cX9_meanLeaves 24 = .ok (.getfield 10, 3) := by decide +kernel
theorem dX9_meanLeaves_27 : decode cX9_meanLeaves 27 = .ok (.getfield 93, 3) := by decide +kernel
theorem dX9_meanLeaves_30 : decode cX9_meanLeaves 30 = .ok (.invokevirtual 230, 3) := by decide +kernel
theorem dX9_meanLeaves_33 : decode cX9_meanLeaves 33 = .ok (.i2d, 1) := by decide +kernel
theorem dX9_meanLeaves_34 : decode cX9_meanLeaves 34 = .ok (.aload_n 0, 1) := by decide +kernel
theorem dX9_meanLeaves_35 : decode cX9_meanLeaves 35 = .ok (.getfield 10, 3) := by decide +kernel
theorem dX9_meanLeaves_38 : decode cX9_meanLeaves 38 = .ok (.getfield 93, 3) := by decide +kernel
theorem dX9_meanLeaves_41 : decode cX9_meanLeaves 41 = .ok (.getfield 97, 3) := by decide +kernel
theorem dX9_meanLeaves_44 : decode cX9_meanLeaves 44 = .ok (.i2d, 1) := by decide +kernel
theorem dX9_meanLeaves_45 : decode cX9_meanLeaves 45 = .ok (.ddiv, 1) := by decide +kernel
theorem dX9_meanLeaves_46 : decode cX9_meanLeaves 46 = .ok (.dreturn, 1) := by decide +kernel
set_option maxHeartbeats 2000000 in
set_option maxRecDepth 20000 in
theorem k_X9_meanLeaves (l : Launch) (hfl : l.stackTraces = false) (D : va_G) (aT : Nat → ClassId) (x0 : Nat) (v0 : Nat) (h0 : Nat) (t0 : Nat) (p0 : Nat) (o0 : Nat) (a0 : Nat) (a1 : Nat) (a5 : Nat) (a10 : Nat) (a2 : Nat) (a3 : Nat) (a4 : Nat) (a6 : Nat) (a7 : Nat) (a8 : Nat) (a9 : Nat) : CxG l yX9_meanLeaves cX9_meanLeaves 1 (some (.double)) 6 1 6 90 D aT [.ref x0] [(x0, .inr (12, [.ref a0, .ref v0, .ref h0, .ref t0, .ref p0, .ref o0, .int (nI 0), .int (-1), .int (-1)])), (a0, .inr (10, [.ref a1, .ref a5, .ref a10, .int (nI 0), .int (nI 0), .int (nI 0), .int (nI 0), .int (nI 0), .int (nI 0), .int (nI 0), .int (nI 0)])), (a1, .inr (6, [.ref a2, .ref a3, .ref a4, .int (nI 0)])), (a2, .inl (aT 0, 6, .inl (fun _ => nI 0))), (a3, .inl (aT 0, 6, .inl (fun _ => nI 0))), (a4, .inl (aT 0, 6, .inl (fun _ => nI 0))), (a5, .inr (8, [.ref a6, .ref a7, .ref a8, .ref a9, .int (nI 0), .int (nI 0)])), (a6, .inl (aT 0, 12, .inl (fun _ => nI 0))), (a7, .inl (aT 0, 12, .inl (fun _ => nI 0))), (a8, .inl (aT 0, 12, .inl (fun _ => nI 0))), (a9, .inl (aT 0, 12, .inl (fun _ => nI 0))), (a10, .inl (aT 0, 4, .inl (fun _ => nI 0)))] (qD D aT (fun _ _ => False)) (fun E => E = "java/lang/ArithmeticException") := by
  refine CxG.of RX9 (by decide +kernel) rfl (Nat.le_of_ble_eq_true rfl) ?_
  intro p e s m below meth c A ls C hml hl hA hr hlocks hex hnm hZ hW
  have hl : lv_has ls 1 [(0, .ref x0)] := hl
  have hx := C.1
  have hb := C.2.1
  refine lv_aload_n hx hb dX9_meanLeaves_0 rfl (lv_at hl 0 rfl) ?_
  refine cx_get C hW 0 0 rfl rfl (by decide) inX9 gw_346 rfl rfl dX9_meanLeaves_1 ?_
  refine cx_getN C hZ hW 1 0 rfl rfl (by decide) inX7 nw_180 rfl rfl dX9_meanLeaves_4 ?_
  refine cx_getN C hZ hW 2 3 rfl rfl (by decide) inX2 nw_130 rfl rfl dX9_meanLeaves_7 ?_
  refine lv_if_ne hx hb (x := (nI 0)) (tgt := 23) dX9_meanLeaves_10 (by decide) (fun c_10 => ?_) (fun c_10 => ?_)
  · exact absurd c_10 (by decide)
  · exact cx_throw C hfl hex hml hl.1 hlocks hZ hW at_X9_ArithmeticException (List.mem_of_getElem? (i := 15) rfl) gw_1075 gw_94 (by decide +kernel) dX9_meanLeaves_13 dX9_meanLeaves_16 dX9_meanLeaves_17 dX9_meanLeaves_19 dX9_meanLeaves_22 ⟨Nat.le_of_ble_eq_true rfl, Nat.le_of_ble_eq_true rfl, Nat.le_of_ble_eq_true rfl, Nat.le_of_ble_eq_true rfl⟩ ⟨Nat.le_of_ble_eq_true rfl, Nat.le_of_ble_eq_true rfl⟩ (rfl)
theorem dX9_carriedShare_0 : decode cX9_carriedShare 0 = .ok (.aload_n 0, 1) := by decide +kernel
theorem dX9_carriedShare_1 : decode cX9_carriedShare 1 = .ok (.getfield 10, 3) := by decide +kernel
theorem dX9_carriedShare_4 : decode cX9_carriedShare 4 = .ok (.getfield 233, 3) := by decide +kernel
theorem dX9_carriedShare_7 : decode cX9_carriedShare 7 = .ok (.ifCond .ne 13, 3) := by decide +kernel
theorem dX9_carriedShare_10 : decode cX9_carriedShare 10 = .ok (.new 225, 3) := by decide +kernel
theorem dX9_carriedShare_13 : decode cX9_carriedShare 13 = .ok (.dup, 1) := by decide +kernel
theorem dX9_carriedShare_14 : decode cX9_carriedShare 14 = .ok (.ldc 236, 2) := by decide +kernel
theorem dX9_carriedShare_16 : decode cX9_carriedShare 16 = .ok (.invokespecial 229, 3) := by decide +kernel
theorem dX9_carriedShare_19 : decode cX9_carriedShare 19 = .ok (.athrow, 1) := by decide +kernel
theorem dX9_carriedShare_20 : decode cX9_carriedShare 20 = .ok (.aload_n 0, 1) := by decide +kernel
theorem dX9_carriedShare_21 : decode cX9_carriedShare 21 = .ok (.getfield 10, 3) := by decide +kernel
theorem dX9_carriedShare_24 : decode cX9_carriedShare 24 = .ok (.getfield 238, 3) := by decide +kernel
theorem dX9_carriedShare_27 : decode cX9_carriedShare 27 = .ok (.i2f, 1) := by decide +kernel
theorem dX9_carriedShare_28 : decode cX9_carriedShare 28 = .ok (.aload_n 0, 1) := by decide +kernel
theorem dX9_carriedShare_29 : decode cX9_carriedShare 29 = .ok (.getfield 10, 3) := by decide +kernel
theorem dX9_carriedShare_32 : decode cX9_carriedShare 32 = .ok (.getfield 233, 3) := by decide +kernel
theorem dX9_carriedShare_35 : decode cX9_carriedShare 35 = .ok (.i2f, 1) := by decide +kernel
theorem dX9_carriedShare_36 : decode cX9_carriedShare 36 = .ok (.fdiv, 1) := by decide +kernel
theorem dX9_carriedShare_37 : decode cX9_carriedShare 37 = .ok (.freturn, 1) := by decide +kernel
set_option maxHeartbeats 2000000 in
set_option maxRecDepth 20000 in
theorem k_X9_carriedShare (l : Launch) (hfl : l.stackTraces = false) (D : va_G) (aT : Nat → ClassId) (x0 : Nat) (v0 : Nat) (h0 : Nat) (t0 : Nat) (p0 : Nat) (o0 : Nat) (a0 : Nat) (a1 : Nat) (a5 : Nat) (a10 : Nat) (a2 : Nat) (a3 : Nat) (a4 : Nat) (a6 : Nat) (a7 : Nat) (a8 : Nat) (a9 : Nat) : CxG l yX9_carriedShare cX9_carriedShare 1 (some (.float)) 6 1 6 90 D aT [.ref x0] [(x0, .inr (12, [.ref a0, .ref v0, .ref h0, .ref t0, .ref p0, .ref o0, .int (nI 0), .int (-1), .int (-1)])), (a0, .inr (10, [.ref a1, .ref a5, .ref a10, .int (nI 0), .int (nI 0), .int (nI 0), .int (nI 0), .int (nI 0), .int (nI 0), .int (nI 0), .int (nI 0)])), (a1, .inr (6, [.ref a2, .ref a3, .ref a4, .int (nI 0)])), (a2, .inl (aT 0, 6, .inl (fun _ => nI 0))), (a3, .inl (aT 0, 6, .inl (fun _ => nI 0))), (a4, .inl (aT 0, 6, .inl (fun _ => nI 0))), (a5, .inr (8, [.ref a6, .ref a7, .ref a8, .ref a9, .int (nI 0), .int (nI 0)])), (a6, .inl (aT 0, 12, .inl (fun _ => nI 0))), (a7, .inl (aT 0, 12, .inl (fun _ => nI 0))), (a8, .inl (aT 0, 12, .inl (fun _ => nI 0))), (a9, .inl (aT 0, 12, .inl (fun _ => nI 0))), (a10, .inl (aT 0, 4, .inl (fun _ => nI 0)))] (qF D aT (fun _ _ => False)) (fun E => E = "java/lang/ArithmeticException") := by
  refine CxG.of RX9 (by decide +kernel) rfl (Nat.le_of_ble_eq_true rfl) ?_
  intro p e s m below meth c A ls C hml hl hA hr hlocks hex hnm hZ hW
  have hl : lv_has ls 1 [(0, .ref x0)] := hl
  have hx := C.1
  have hb := C.2.1
  refine lv_aload_n hx hb dX9_carriedShare_0 rfl (lv_at hl 0 rfl) ?_
  refine cx_get C hW 0 0 rfl rfl (by decide) inX9 gw_346 rfl rfl dX9_carriedShare_1 ?_
  refine cx_getN C hZ hW 1 4 rfl rfl (by decide) inX7 nw_188 rfl rfl dX9_carriedShare_4 ?_
  refine lv_if_ne hx hb (x := (nI 0)) (tgt := 20) dX9_carriedShare_7 (by decide) (fun c_7 => ?_) (fun c_7 => ?_)
  · exact absurd c_7 (by decide)
  · exact cx_throw C hfl hex hml hl.1 hlocks hZ hW at_X9_ArithmeticException (List.mem_of_getElem? (i := 16) rfl) gw_1075 gw_94 (by decide +kernel) dX9_carriedShare_10 dX9_carriedShare_13 dX9_carriedShare_14 dX9_carriedShare_16 dX9_carriedShare_19 ⟨Nat.le_of_ble_eq_true rfl, Nat.le_of_ble_eq_true rfl, Nat.le_of_ble_eq_true rfl, Nat.le_of_ble_eq_true rfl⟩ ⟨Nat.le_of_ble_eq_true rfl, Nat.le_of_ble_eq_true rfl⟩ (rfl)
theorem dX9_isConsistent_0 : decode cX9_isConsistent 0 = .ok (.aload_n 0, 1) := by decide +kernel
theorem dX9_isConsistent_1 : decode cX9_isConsistent 1 = .ok (.getfield 10, 3) := by decide +kernel
theorem dX9_isConsistent_4 : decode cX9_isConsistent 4 = .ok (.getfield 127, 3) := by decide +kernel
theorem dX9_isConsistent_7 : decode cX9_isConsistent 7 = .ok (.astore_n 1, 1) := by decide +kernel
theorem dX9_isConsistent_8 : decode cX9_isConsistent 8 = .ok (.aload_n 1, 1) := by decide +kernel
theorem dX9_isConsistent_9 : decode cX9_isConsistent 9 = .ok (.invokevirtual 218, 3) := by decide +kernel
theorem dX9_isConsistent_12 : decode cX9_isConsistent 12 = .ok (.aload_n 0, 1) := by decide +kernel
theorem dX9_isConsistent_13 : decode cX9_isConsistent 13 = .ok (.getfield 10, 3) := by decide +kernel
theorem dX9_isConsistent_16 : decode cX9_isConsistent 16 = .ok (.invokevirtual 222, 3) := by decide +kernel
theorem dX9_isConsistent_19 : decode cX9_isConsistent 19 = .ok (.if_icmp .ne 49, 3) := by decide +kernel
theorem dX9_isConsistent_22 : decode cX9_isConsistent 22 = .ok (.aload_n 0, 1) := by decide +kernel
theorem dX9_isConsistent_23 : decode cX9_isConsistent 23 = .ok (.getfield 29, 3) := by decide +kernel
theorem dX9_isConsistent_26 : decode cX9_isConsistent 26 = .ok (.aload_n 1, 1) := by decide +kernel
theorem dX9_isConsistent_27 : decode cX9_isConsistent 27 = .ok (.invokevirtual 196, 3) := by decide +kernel
theorem dX9_isConsistent_30 : decode cX9_isConsistent 30 = .ok (.aload_n 0, 1) := by decide +kernel
theorem dX9_isConsistent_31 : decode cX9_isConsistent 31 = .ok (.getfield 29, 3) := by decide +kernel
theorem dX9_isConsistent_34 : decode cX9_isConsistent 34 = .ok (.aload_n 1, 1) := by decide +kernel
theorem dX9_isConsistent_35 : decode cX9_isConsistent 35 = .ok (.invokevirtual 200, 3) := by decide +kernel
theorem dX9_isConsistent_38 : decode cX9_isConsistent 38 = .ok (.lcmp, 1) := by decide +kernel
theorem dX9_isConsistent_39 : decode cX9_isConsistent 39 = .ok (.ifCond .ne 29, 3) := by decide +kernel
theorem dX9_isConsistent_42 : decode cX9_isConsistent 42 = .ok (.aload_n 0, 1) := by decide +kernel
theorem dX9_isConsistent_43 : decode cX9_isConsistent 43 = .ok (.getfield 29, 3) := by decide +kernel
theorem dX9_isConsistent_46 : decode cX9_isConsistent 46 = .ok (.aload_n 1, 1) := by decide +kernel
theorem dX9_isConsistent_47 : decode cX9_isConsistent 47 = .ok (.invokevirtual 241, 3) := by decide +kernel
theorem dX9_isConsistent_50 : decode cX9_isConsistent 50 = .ok (.ifCond .eq 18, 3) := by decide +kernel
theorem dX9_isConsistent_53 : decode cX9_isConsistent 53 = .ok (.aload_n 0, 1) := by decide +kernel
theorem dX9_isConsistent_54 : decode cX9_isConsistent 54 = .ok (.getfield 29, 3) := by decide +kernel
theorem dX9_isConsistent_57 : decode cX9_isConsistent 57 = .ok (.aload_n 1, 1) := by decide +kernel
theorem dX9_isConsistent_58 : decode cX9_isConsistent 58 = .ok (.invokevirtual 245, 3) := by decide +kernel
theorem dX9_isConsistent_61 : decode cX9_isConsistent 61 = .ok (.ifCond .eq 7, 3) := by decide +kernel
theorem dX9_isConsistent_64 : decode cX9_isConsistent 64 = .ok (.iconst 1, 1) := by decide +kernel
theorem dX9_isConsistent_65 : decode cX9_isConsistent 65 = .ok (.goto 4, 3) := by decide +kernel
theorem dX9_isConsistent_68 : decode cX9_isConsistent 68 = .ok (.iconst 0, 1) := by decide +kernel
theorem dX9_isConsistent_69 : decode cX9_isConsistent 69 = .ok (.ireturn, 1) := by decide +kernel
theorem gV_X9_X8_agreeOnPaths_241 : GoodIn gw (wsV RX9 241 RX8 yX8_agreeOnPaths (Cond.code yX8_agreeOnPaths cX8_agreeOnPaths 3 (some .boolean) :: gw)) := gdV gw_495 gw_496 gw_497 gw_72 gw_498
theorem hV_X8_agreeOnPaths : yX8_agreeOnPaths.cls = RX8 ∧ yX8_agreeOnPaths.cls ≠ "java/lang/invoke/MethodHandle" ∧ yX8_agreeOnPaths.cls ≠ "java/lang/invoke/VarHandle" ∧ (parseMethodDescriptor yX8_agreeOnPaths.desc).map (fun d => d.parameters.length) = some 1 := ⟨rfl, by decide +kernel, by decide +kernel, by decide +kernel⟩
theorem gV_X9_X8_agreeOnCommonMotions_245 : GoodIn gw (wsV RX9 245 RX8 yX8_agreeOnCommonMotions (Cond.code yX8_agreeOnCommonMotions cX8_agreeOnCommonMotions 4 (some .boolean) :: gw)) := gdV gw_519 gw_520 gw_521 gw_72 gw_522
theorem hV_X8_agreeOnCommonMotions : yX8_agreeOnCommonMotions.cls = RX8 ∧ yX8_agreeOnCommonMotions.cls ≠ "java/lang/invoke/MethodHandle" ∧ yX8_agreeOnCommonMotions.cls ≠ "java/lang/invoke/VarHandle" ∧ (parseMethodDescriptor yX8_agreeOnCommonMotions.desc).map (fun d => d.parameters.length) = some 1 := ⟨rfl, by decide +kernel, by decide +kernel, by decide +kernel⟩
set_option maxHeartbeats 2000000 in
set_option maxRecDepth 20000 in
theorem k_X9_isConsistent (l : Launch) (hfl : l.stackTraces = false) (D : va_G) (aT : Nat → ClassId) (x0 : Nat) (v0 : Nat) (h0 : Nat) (t0 : Nat) (p0 : Nat) (o0 : Nat) (a0 : Nat) (a1 : Nat) (a5 : Nat) (a10 : Nat) (a2 : Nat) (a3 : Nat) (a4 : Nat) (a6 : Nat) (a7 : Nat) (a8 : Nat) (a9 : Nat) (t1 : Nat) (t2 : Nat) (t3 : Nat) (t4 : Nat) (t5 : Nat) (t6 : Nat) (r1 : Nat → Int32) (r2 : Nat → Int32) (r3 : Nat → Int32) (r4 : Nat → Int32) (r5 : Nat → Int64) (r6 : Nat → Int64) : CxG l yX9_isConsistent cX9_isConsistent 2 (some (.boolean)) 2 0 0 65 D aT [.ref x0] [(x0, .inr (12, [.ref a0, .ref v0, .ref h0, .ref t0, .ref p0, .ref o0, .int (nI 0), .int (-1), .int (-1)])), (a0, .inr (10, [.ref a1, .ref a5, .ref a10, .int (nI 0), .int (nI 0), .int (nI 0), .int (nI 0), .int (nI 0), .int (nI 0), .int (nI 0), .int (nI 0)])), (a1, .inr (6, [.ref a2, .ref a3, .ref a4, .int (nI 0)])), (a2, .inl (aT 0, 6, .inl (fun _ => nI 0))), (a3, .inl (aT 0, 6, .inl (fun _ => nI 0))), (a4, .inl (aT 0, 6, .inl (fun _ => nI 0))), (a5, .inr (8, [.ref a6, .ref a7, .ref a8, .ref a9, .int (nI 0), .int (nI 0)])), (a6, .inl (aT 0, 12, .inl (fun _ => nI 0))), (a7, .inl (aT 0, 12, .inl (fun _ => nI 0))), (a8, .inl (aT 0, 12, .inl (fun _ => nI 0))), (a9, .inl (aT 0, 12, .inl (fun _ => nI 0))), (a10, .inl (aT 0, 4, .inl (fun _ => nI 0))), (t0, .inr (11, [.ref t1, .ref t2, .ref t3, .ref t4, .ref t5, .ref t6])), (t1, .inl (aT 0, 12, .inl r1)), (t2, .inl (aT 0, 12, .inl r2)), (t3, .inl (aT 0, 12, .inl r3)), (t4, .inl (aT 0, 12, .inl r4)), (t5, .inl (aT 2, 12, .inr (.inl r5))), (t6, .inl (aT 2, 12, .inr (.inl r6)))] (qI D aT (fun r W1 => r = nI 1)) (fun _ => False) := by
  refine CxG.of RX9 (by decide +kernel) rfl (Nat.le_of_ble_eq_true rfl) ?_
  intro p e s m below meth c A ls C hml hl hA hr hlocks hex hnm hZ hW
  have hl : lv_has ls 2 [(0, .ref x0)] := hl
  have hx := C.1
  have hb := C.2.1
  refine lv_aload_n hx hb dX9_isConsistent_0 rfl (lv_at hl 0 rfl) ?_
  refine cx_get C hW 0 0 rfl rfl (by decide) inX9 gw_346 rfl rfl dX9_isConsistent_1 ?_
  refine cx_getN C hZ hW 1 1 rfl rfl (by decide) inX7 nw_182 rfl rfl dX9_isConsistent_4 ?_
  refine lv_astore_n (lv' := [(1, .ref a5), (0, .ref x0)]) hx hb dX9_isConsistent_7 rfl hl (by decide) rfl (fun ls hl => ?_)
  refine lv_aload_n hx hb dX9_isConsistent_8 rfl (lv_at hl 0 rfl) ?_
  refine cx_calli (Wr := [(x0, .inr (12, [.ref a0, .ref v0, .ref h0, .ref t0, .ref p0, .ref o0, .int (nI 0), .int (-1), .int (-1)])), (a0, .inr (10, [.ref a1, .ref a5, .ref a10, .int (nI 0), .int (nI 0), .int (nI 0), .int (nI 0), .int (nI 0), .int (nI 0), .int (nI 0), .int (nI 0)])), (a1, .inr (6, [.ref a2, .ref a3, .ref a4, .int (nI 0)])), (a2, .inl (aT 0, 6, .inl (fun _ => nI 0))), (a3, .inl (aT 0, 6, .inl (fun _ => nI 0))), (a4, .inl (aT 0, 6, .inl (fun _ => nI 0))), (a10, .inl (aT 0, 4, .inl (fun _ => nI 0))), (t0, .inr (11, [.ref t1, .ref t2, .ref t3, .ref t4, .ref t5, .ref t6])), (t1, .inl (aT 0, 12, .inl r1)), (t2, .inl (aT 0, 12, .inl r2)), (t3, .inl (aT 0, 12, .inl r3)), (t4, .inl (aT 0, 12, .inl r4)), (t5, .inl (aT 2, 12, .inr (.inl r5))), (t6, .inl (aT 2, 12, .inr (.inl r6)))]) (cx_runV C hml hl.1 hZ hW hA (As := []) (rest := []) (k_X5_totalWeight l hfl D aT a5 a6 a7 a8 a9) gV_X9_X5_totalWeight_218 hV_X5_totalWeight rfl ⟨Nat.le_of_ble_eq_true rfl, Nat.le_of_ble_eq_true rfl⟩ ⟨Nat.le_of_ble_eq_true rfl, Nat.le_of_ble_eq_true rfl⟩ [6, 7, 8, 9, 10] rfl (by decide) 6 8 rfl rfl rfl rfl (Nat.le_of_ble_eq_true rfl) dX9_isConsistent_9) hW hA [6, 7, 8, 9, 10] [0, 1, 2, 3, 4, 5, 11, 12, 13, 14, 15, 16, 17, 18] rfl rfl (by decide) (by decide) (fun _ _ _ _ _ h9 => h9.elim) (fun r_9 W_9 H locs hq hW => ?_)
  obtain ⟨rfl, rfl⟩ := hq
  have hW : CxB D [(x0, .inr (12, [.ref a0, .ref v0, .ref h0, .ref t0, .ref p0, .ref o0, .int (nI 0), .int (-1), .int (-1)])), (a0, .inr (10, [.ref a1, .ref a5, .ref a10, .int (nI 0), .int (nI 0), .int (nI 0), .int (nI 0), .int (nI 0), .int (nI 0), .int (nI 0), .int (nI 0)])), (a1, .inr (6, [.ref a2, .ref a3, .ref a4, .int (nI 0)])), (a2, .inl (aT 0, 6, .inl (fun _ => nI 0))), (a3, .inl (aT 0, 6, .inl (fun _ => nI 0))), (a4, .inl (aT 0, 6, .inl (fun _ => nI 0))), (a10, .inl (aT 0, 4, .inl (fun _ => nI 0))), (t0, .inr (11, [.ref t1, .ref t2, .ref t3, .ref t4, .ref t5, .ref t6])), (t1, .inl (aT 0, 12, .inl r1)), (t2, .inl (aT 0, 12, .inl r2)), (t3, .inl (aT 0, 12, .inl r3)), (t4, .inl (aT 0, 12, .inl r4)), (t5, .inl (aT 2, 12, .inr (.inl r5))), (t6, .inl (aT 2, 12, .inr (.inl r6))), (a5, .inr (8, [.ref a6, .ref a7, .ref a8, .ref a9, .int (nI 0), .int (nI 0)])), (a6, .inl (aT 0, 12, .inl (fun _ => nI 0))), (a7, .inl (aT 0, 12, .inl (fun _ => nI 0))), (a8, .inl (aT 0, 12, .inl (fun _ => nI 0))), (a9, .inl (aT 0, 12, .inl (fun _ => nI 0)))] A s.heap H _ := hW
  refine lv_aload_n hx hb dX9_isConsistent_12 rfl (lv_at hl 1 rfl) ?_
  refine cx_get C hW 0 0 rfl rfl (by decide) inX9 gw_346 rfl rfl dX9_isConsistent_13 ?_
  refine cx_calli (Wr := [(x0, .inr (12, [.ref a0, .ref v0, .ref h0, .ref t0, .ref p0, .ref o0, .int (nI 0), .int (-1), .int (-1)])), (t0, .inr (11, [.ref t1, .ref t2, .ref t3, .ref t4, .ref t5, .ref t6])), (t1, .inl (aT 0, 12, .inl r1)), (t2, .inl (aT 0, 12, .inl r2)), (t3, .inl (aT 0, 12, .inl r3)), (t4, .inl (aT 0, 12, .inl r4)), (t5, .inl (aT 2, 12, .inr (.inl r5))), (t6, .inl (aT 2, 12, .inr (.inl r6)))]) (cx_runV C hml hl.1 hZ hW hA (As := []) (rest := [.int (nI 0)]) (k_X7_accountedWeight l hfl D aT a0 a1 a2 a3 a4 a5 a6 a7 a8 a9 a10) gV_X9_X7_accountedWeight_222 hV_X7_accountedWeight rfl ⟨Nat.le_of_ble_eq_true rfl, Nat.le_of_ble_eq_true rfl⟩ ⟨Nat.le_of_ble_eq_true rfl, Nat.le_of_ble_eq_true rfl⟩ [1, 2, 3, 4, 5, 14, 15, 16, 17, 18, 6] rfl (by decide) 1 10 rfl rfl rfl rfl (Nat.le_of_ble_eq_true rfl) dX9_isConsistent_16) hW hA [1, 2, 3, 4, 5, 14, 15, 16, 17, 18, 6] [0, 7, 8, 9, 10, 11, 12, 13] rfl rfl (by decide) (by decide) (fun _ _ _ _ _ h9 => h9.elim) (fun r_16 W_16 H locs hq hW => ?_)
  obtain ⟨rfl, rfl⟩ := hq
  have hW : CxB D [(x0, .inr (12, [.ref a0, .ref v0, .ref h0, .ref t0, .ref p0, .ref o0, .int (nI 0), .int (-1), .int (-1)])), (t0, .inr (11, [.ref t1, .ref t2, .ref t3, .ref t4, .ref t5, .ref t6])), (t1, .inl (aT 0, 12, .inl r1)), (t2, .inl (aT 0, 12, .inl r2)), (t3, .inl (aT 0, 12, .inl r3)), (t4, .inl (aT 0, 12, .inl r4)), (t5, .inl (aT 2, 12, .inr (.inl r5))), (t6, .inl (aT 2, 12, .inr (.inl r6))), (a0, .inr (10, [.ref a1, .ref a5, .ref a10, .int (nI 0), .int (nI 0), .int (nI 0), .int (nI 0), .int (nI 0), .int (nI 0), .int (nI 0), .int (nI 0)])), (a1, .inr (6, [.ref a2, .ref a3, .ref a4, .int (nI 0)])), (a2, .inl (aT 0, 6, .inl (fun _ => nI 0))), (a3, .inl (aT 0, 6, .inl (fun _ => nI 0))), (a4, .inl (aT 0, 6, .inl (fun _ => nI 0))), (a5, .inr (8, [.ref a6, .ref a7, .ref a8, .ref a9, .int (nI 0), .int (nI 0)])), (a6, .inl (aT 0, 12, .inl (fun _ => nI 0))), (a7, .inl (aT 0, 12, .inl (fun _ => nI 0))), (a8, .inl (aT 0, 12, .inl (fun _ => nI 0))), (a9, .inl (aT 0, 12, .inl (fun _ => nI 0))), (a10, .inl (aT 0, 4, .inl (fun _ => nI 0)))] A s.heap H _ := hW
  refine lv_icmp_ne hx hb (x := (nI 0)) (y := (nI 0)) (tgt := 68) dX9_isConsistent_19 (by decide) (fun c_19 => ?_) (fun c_19 => ?_)
  · exact absurd c_19 (by decide)
  · refine lv_aload_n hx hb dX9_isConsistent_22 rfl (lv_at hl 1 rfl) ?_
    refine cx_get C hW 0 3 rfl rfl (by decide) inX9 gw_349 rfl rfl dX9_isConsistent_23 ?_
    refine lv_aload_n hx hb dX9_isConsistent_26 rfl (lv_at hl 0 rfl) ?_
    refine cx_calll (Wr := [(x0, .inr (12, [.ref a0, .ref v0, .ref h0, .ref t0, .ref p0, .ref o0, .int (nI 0), .int (-1), .int (-1)])), (a0, .inr (10, [.ref a1, .ref a5, .ref a10, .int (nI 0), .int (nI 0), .int (nI 0), .int (nI 0), .int (nI 0), .int (nI 0), .int (nI 0), .int (nI 0)])), (a1, .inr (6, [.ref a2, .ref a3, .ref a4, .int (nI 0)])), (a2, .inl (aT 0, 6, .inl (fun _ => nI 0))), (a3, .inl (aT 0, 6, .inl (fun _ => nI 0))), (a4, .inl (aT 0, 6, .inl (fun _ => nI 0))), (a10, .inl (aT 0, 4, .inl (fun _ => nI 0)))]) (cx_runV C hml hl.1 hZ hW hA (As := [.ref a5]) (rest := []) (k_X8_bestByBranches l hfl D aT t0 t1 t2 t3 t4 t5 t6 r1 r2 r3 r4 r5 r6 a5 a6 a7 a8 a9) gV_X9_X8_bestByBranches_196 hV_X8_bestByBranches rfl ⟨Nat.le_of_ble_eq_true rfl, Nat.le_of_ble_eq_true rfl⟩ ⟨Nat.le_of_ble_eq_true rfl, Nat.le_of_ble_eq_true rfl⟩ [1, 2, 3, 4, 5, 6, 7, 13, 14, 15, 16, 17] rfl (by decide) 1 11 rfl rfl rfl rfl (Nat.le_of_ble_eq_true rfl) dX9_isConsistent_27) hW hA [1, 2, 3, 4, 5, 6, 7, 13, 14, 15, 16, 17] [0, 8, 9, 10, 11, 12, 18] rfl rfl (by decide) (by decide) (fun _ _ _ _ _ h9 => h9.elim) (fun r_27 W_27 H locs hq hW => ?_)
    obtain ⟨rfl, g1_27, g2_27, g3_27, g4_27, g5_27, g6_27, rfl⟩ := hq
    have hW : CxB D [(x0, .inr (12, [.ref a0, .ref v0, .ref h0, .ref t0, .ref p0, .ref o0, .int (nI 0), .int (-1), .int (-1)])), (a0, .inr (10, [.ref a1, .ref a5, .ref a10, .int (nI 0), .int (nI 0), .int (nI 0), .int (nI 0), .int (nI 0), .int (nI 0), .int (nI 0), .int (nI 0)])), (a1, .inr (6, [.ref a2, .ref a3, .ref a4, .int (nI 0)])), (a2, .inl (aT 0, 6, .inl (fun _ => nI 0))), (a3, .inl (aT 0, 6, .inl (fun _ => nI 0))), (a4, .inl (aT 0, 6, .inl (fun _ => nI 0))), (a10, .inl (aT 0, 4, .inl (fun _ => nI 0))), (t0, .inr (11, [.ref t1, .ref t2, .ref t3, .ref t4, .ref t5, .ref t6])), (t1, .inl (aT 0, 12, .inl g1_27)), (t2, .inl (aT 0, 12, .inl g2_27)), (t3, .inl (aT 0, 12, .inl g3_27)), (t4, .inl (aT 0, 12, .inl g4_27)), (t5, .inl (aT 2, 12, .inr (.inl g5_27))), (t6, .inl (aT 2, 12, .inr (.inl g6_27))), (a5, .inr (8, [.ref a6, .ref a7, .ref a8, .ref a9, .int (nI 0), .int (nI 0)])), (a6, .inl (aT 0, 12, .inl (fun _ => nI 0))), (a7, .inl (aT 0, 12, .inl (fun _ => nI 0))), (a8, .inl (aT 0, 12, .inl (fun _ => nI 0))), (a9, .inl (aT 0, 12, .inl (fun _ => nI 0)))] A s.heap H _ := hW
    refine lv_aload_n hx hb dX9_isConsistent_30 rfl (lv_at hl 1 rfl) ?_
    refine cx_get C hW 0 3 rfl rfl (by decide) inX9 gw_349 rfl rfl dX9_isConsistent_31 ?_
    refine lv_aload_n hx hb dX9_isConsistent_34 rfl (lv_at hl 0 rfl) ?_
    refine cx_calll (Wr := [(x0, .inr (12, [.ref a0, .ref v0, .ref h0, .ref t0, .ref p0, .ref o0, .int (nI 0), .int (-1), .int (-1)])), (a0, .inr (10, [.ref a1, .ref a5, .ref a10, .int (nI 0), .int (nI 0), .int (nI 0), .int (nI 0), .int (nI 0), .int (nI 0), .int (nI 0), .int (nI 0)])), (a1, .inr (6, [.ref a2, .ref a3, .ref a4, .int (nI 0)])), (a2, .inl (aT 0, 6, .inl (fun _ => nI 0))), (a3, .inl (aT 0, 6, .inl (fun _ => nI 0))), (a4, .inl (aT 0, 6, .inl (fun _ => nI 0))), (a10, .inl (aT 0, 4, .inl (fun _ => nI 0)))]) (cx_runV C hml hl.1 hZ hW hA (As := [.ref a5]) (rest := [.long 0]) (k_X8_bestBySets l hfl D aT t0 t1 t2 t3 t4 t5 t6 g1_27 g2_27 g3_27 g4_27 g5_27 g6_27 a5 a6 a7 a8 a9) gV_X9_X8_bestBySets_200 hV_X8_bestBySets rfl ⟨Nat.le_of_ble_eq_true rfl, Nat.le_of_ble_eq_true rfl⟩ ⟨Nat.le_of_ble_eq_true rfl, Nat.le_of_ble_eq_true rfl⟩ [7, 8, 9, 10, 11, 12, 13, 14, 15, 16, 17, 18] rfl (by decide) 7 11 rfl rfl rfl rfl (Nat.le_of_ble_eq_true rfl) dX9_isConsistent_35) hW hA [7, 8, 9, 10, 11, 12, 13, 14, 15, 16, 17, 18] [0, 1, 2, 3, 4, 5, 6] rfl rfl (by decide) (by decide) (fun _ _ _ _ _ h9 => h9.elim) (fun r_35 W_35 H locs hq hW => ?_)
    obtain ⟨rfl, g1_35, g2_35, g3_35, g4_35, g5_35, g6_35, rfl⟩ := hq
    have hW : CxB D [(x0, .inr (12, [.ref a0, .ref v0, .ref h0, .ref t0, .ref p0, .ref o0, .int (nI 0), .int (-1), .int (-1)])), (a0, .inr (10, [.ref a1, .ref a5, .ref a10, .int (nI 0), .int (nI 0), .int (nI 0), .int (nI 0), .int (nI 0), .int (nI 0), .int (nI 0), .int (nI 0)])), (a1, .inr (6, [.ref a2, .ref a3, .ref a4, .int (nI 0)])), (a2, .inl (aT 0, 6, .inl (fun _ => nI 0))), (a3, .inl (aT 0, 6, .inl (fun _ => nI 0))), (a4, .inl (aT 0, 6, .inl (fun _ => nI 0))), (a10, .inl (aT 0, 4, .inl (fun _ => nI 0))), (t0, .inr (11, [.ref t1, .ref t2, .ref t3, .ref t4, .ref t5, .ref t6])), (t1, .inl (aT 0, 12, .inl g1_35)), (t2, .inl (aT 0, 12, .inl g2_35)), (t3, .inl (aT 0, 12, .inl g3_35)), (t4, .inl (aT 0, 12, .inl g4_35)), (t5, .inl (aT 2, 12, .inr (.inl g5_35))), (t6, .inl (aT 2, 12, .inr (.inl g6_35))), (a5, .inr (8, [.ref a6, .ref a7, .ref a8, .ref a9, .int (nI 0), .int (nI 0)])), (a6, .inl (aT 0, 12, .inl (fun _ => nI 0))), (a7, .inl (aT 0, 12, .inl (fun _ => nI 0))), (a8, .inl (aT 0, 12, .inl (fun _ => nI 0))), (a9, .inl (aT 0, 12, .inl (fun _ => nI 0)))] A s.heap H _ := hW
    refine W.lcmp hx hb dX9_isConsistent_38 ?_
    refine r_eq (y := nI 0) (by decide) ?_
    refine lv_if_ne hx hb (x := (nI 0)) (tgt := 68) dX9_isConsistent_39 (by decide) (fun c_39 => ?_) (fun c_39 => ?_)
    · exact absurd c_39 (by decide)
    · refine lv_aload_n hx hb dX9_isConsistent_42 rfl (lv_at hl 1 rfl) ?_
      refine cx_get C hW 0 3 rfl rfl (by decide) inX9 gw_349 rfl rfl dX9_isConsistent_43 ?_
      refine lv_aload_n hx hb dX9_isConsistent_46 rfl (lv_at hl 0 rfl) ?_
      refine cx_calli (Wr := [(x0, .inr (12, [.ref a0, .ref v0, .ref h0, .ref t0, .ref p0, .ref o0, .int (nI 0), .int (-1), .int (-1)])), (a0, .inr (10, [.ref a1, .ref a5, .ref a10, .int (nI 0), .int (nI 0), .int (nI 0), .int (nI 0), .int (nI 0), .int (nI 0), .int (nI 0), .int (nI 0)])), (a1, .inr (6, [.ref a2, .ref a3, .ref a4, .int (nI 0)])), (a2, .inl (aT 0, 6, .inl (fun _ => nI 0))), (a3, .inl (aT 0, 6, .inl (fun _ => nI 0))), (a4, .inl (aT 0, 6, .inl (fun _ => nI 0))), (a10, .inl (aT 0, 4, .inl (fun _ => nI 0)))]) (cx_runV C hml hl.1 hZ hW hA (As := [.ref a5]) (rest := []) (k_X8_agreeOnPaths l hfl D aT t0 t1 t2 t3 t4 t5 t6 g1_35 g2_35 g3_35 g4_35 g5_35 g6_35 a5 a6 a7 a8 a9) gV_X9_X8_agreeOnPaths_241 hV_X8_agreeOnPaths rfl ⟨Nat.le_of_ble_eq_true rfl, Nat.le_of_ble_eq_true rfl⟩ ⟨Nat.le_of_ble_eq_true rfl, Nat.le_of_ble_eq_true rfl⟩ [7, 8, 9, 10, 11, 12, 13, 14, 15, 16, 17, 18] rfl (by decide) 7 11 rfl rfl rfl rfl (Nat.le_of_ble_eq_true rfl) dX9_isConsistent_47) hW hA [7, 8, 9, 10, 11, 12, 13, 14, 15, 16, 17, 18] [0, 1, 2, 3, 4, 5, 6] rfl rfl (by decide) (by decide) (fun _ _ _ _ _ h9 => h9.elim) (fun r_47 W_47 H locs hq hW => ?_)
      obtain ⟨rfl, g1_47, g2_47, g3_47, g4_47, g5_47, g6_47, rfl⟩ := hq
      have hW : CxB D [(x0, .inr (12, [.ref a0, .ref v0, .ref h0, .ref t0, .ref p0, .ref o0, .int (nI 0), .int (-1), .int (-1)])), (a0, .inr (10, [.ref a1, .ref a5, .ref a10, .int (nI 0), .int (nI 0), .int (nI 0), .int (nI 0), .int (nI 0), .int (nI 0), .int (nI 0), .int (nI 0)])), (a1, .inr (6, [.ref a2, .ref a3, .ref a4, .int (nI 0)])), (a2, .inl (aT 0, 6, .inl (fun _ => nI 0))), (a3, .inl (aT 0, 6, .inl (fun _ => nI 0))), (a4, .inl (aT 0, 6, .inl (fun _ => nI 0))), (a10, .inl (aT 0, 4, .inl (fun _ => nI 0))), (t0, .inr (11, [.ref t1, .ref t2, .ref t3, .ref t4, .ref t5, .ref t6])), (t1, .inl (aT 0, 12, .inl g1_47)), (t2, .inl (aT 0, 12, .inl g2_47)), (t3, .inl (aT 0, 12, .inl g3_47)), (t4, .inl (aT 0, 12, .inl g4_47)), (t5, .inl (aT 2, 12, .inr (.inl g5_47))), (t6, .inl (aT 2, 12, .inr (.inl g6_47))), (a5, .inr (8, [.ref a6, .ref a7, .ref a8, .ref a9, .int (nI 0), .int (nI 0)])), (a6, .inl (aT 0, 12, .inl (fun _ => nI 0))), (a7, .inl (aT 0, 12, .inl (fun _ => nI 0))), (a8, .inl (aT 0, 12, .inl (fun _ => nI 0))), (a9, .inl (aT 0, 12, .inl (fun _ => nI 0)))] A s.heap H _ := hW
      refine lv_if_eq hx hb (x := (nI 1)) (tgt := 68) dX9_isConsistent_50 (by decide) (fun c_50 => ?_) (fun c_50 => ?_)
      · exact absurd c_50 (by decide)
      · refine lv_aload_n hx hb dX9_isConsistent_53 rfl (lv_at hl 1 rfl) ?_
        refine cx_get C hW 0 3 rfl rfl (by decide) inX9 gw_349 rfl rfl dX9_isConsistent_54 ?_
        refine lv_aload_n hx hb dX9_isConsistent_57 rfl (lv_at hl 0 rfl) ?_
        refine cx_calli (Wr := [(x0, .inr (12, [.ref a0, .ref v0, .ref h0, .ref t0, .ref p0, .ref o0, .int (nI 0), .int (-1), .int (-1)])), (a0, .inr (10, [.ref a1, .ref a5, .ref a10, .int (nI 0), .int (nI 0), .int (nI 0), .int (nI 0), .int (nI 0), .int (nI 0), .int (nI 0), .int (nI 0)])), (a1, .inr (6, [.ref a2, .ref a3, .ref a4, .int (nI 0)])), (a2, .inl (aT 0, 6, .inl (fun _ => nI 0))), (a3, .inl (aT 0, 6, .inl (fun _ => nI 0))), (a4, .inl (aT 0, 6, .inl (fun _ => nI 0))), (a10, .inl (aT 0, 4, .inl (fun _ => nI 0)))]) (cx_runV C hml hl.1 hZ hW hA (As := [.ref a5]) (rest := []) (k_X8_agreeOnCommonMotions l hfl D aT t0 t1 t2 t3 t4 t5 t6 g1_47 g2_47 g3_47 g4_47 g5_47 g6_47 a5 a6 a7 a8 a9) gV_X9_X8_agreeOnCommonMotions_245 hV_X8_agreeOnCommonMotions rfl ⟨Nat.le_of_ble_eq_true rfl, Nat.le_of_ble_eq_true rfl⟩ ⟨Nat.le_of_ble_eq_true rfl, Nat.le_of_ble_eq_true rfl⟩ [7, 8, 9, 10, 11, 12, 13, 14, 15, 16, 17, 18] rfl (by decide) 7 11 rfl rfl rfl rfl (Nat.le_of_ble_eq_true rfl) dX9_isConsistent_58) hW hA [7, 8, 9, 10, 11, 12, 13, 14, 15, 16, 17, 18] [0, 1, 2, 3, 4, 5, 6] rfl rfl (by decide) (by decide) (fun _ _ _ _ _ h9 => h9.elim) (fun r_58 W_58 H locs hq hW => ?_)
        obtain ⟨rfl, g1_58, g2_58, g3_58, g4_58, g5_58, g6_58, rfl⟩ := hq
        have hW : CxB D [(x0, .inr (12, [.ref a0, .ref v0, .ref h0, .ref t0, .ref p0, .ref o0, .int (nI 0), .int (-1), .int (-1)])), (a0, .inr (10, [.ref a1, .ref a5, .ref a10, .int (nI 0), .int (nI 0), .int (nI 0), .int (nI 0), .int (nI 0), .int (nI 0), .int (nI 0), .int (nI 0)])), (a1, .inr (6, [.ref a2, .ref a3, .ref a4, .int (nI 0)])), (a2, .inl (aT 0, 6, .inl (fun _ => nI 0))), (a3, .inl (aT 0, 6, .inl (fun _ => nI 0))), (a4, .inl (aT 0, 6, .inl (fun _ => nI 0))), (a10, .inl (aT 0, 4, .inl (fun _ => nI 0))), (t0, .inr (11, [.ref t1, .ref t2, .ref t3, .ref t4, .ref t5, .ref t6])), (t1, .inl (aT 0, 12, .inl g1_58)), (t2, .inl (aT 0, 12, .inl g2_58)), (t3, .inl (aT 0, 12, .inl g3_58)), (t4, .inl (aT 0, 12, .inl g4_58)), (t5, .inl (aT 2, 12, .inr (.inl g5_58))), (t6, .inl (aT 2, 12, .inr (.inl g6_58))), (a5, .inr (8, [.ref a6, .ref a7, .ref a8, .ref a9, .int (nI 0), .int (nI 0)])), (a6, .inl (aT 0, 12, .inl (fun _ => nI 0))), (a7, .inl (aT 0, 12, .inl (fun _ => nI 0))), (a8, .inl (aT 0, 12, .inl (fun _ => nI 0))), (a9, .inl (aT 0, 12, .inl (fun _ => nI 0)))] A s.heap H _ := hW
        refine lv_if_eq hx hb (x := (nI 1)) (tgt := 68) dX9_isConsistent_61 (by decide) (fun c_61 => ?_) (fun c_61 => ?_)
        · exact absurd c_61 (by decide)
        · refine lv_iconst (v := nI 1) hx hb dX9_isConsistent_64 (by decide) ?_
          refine lv_goto (tgt := 69) hx hb dX9_isConsistent_65 (by decide) ?_
          exact cx_iret C hr hlocks (by decide) hW ⟨Nat.le_of_ble_eq_true rfl, Nat.le_of_ble_eq_true rfl⟩ (rfl) dX9_isConsistent_69
theorem dX9_append_0 : decode cX9_append 0 = .ok (.aload_n 0, 1) := by decide +kernel
theorem dX9_append_1 : decode cX9_append 1 = .ok (.getfield 36, 3) := by decide +kernel
theorem dX9_append_4 : decode cX9_append 4 = .ok (.invokevirtual 248, 3) := by decide +kernel
theorem dX9_append_7 : decode cX9_append 7 = .ok (.ifCond .eq 13, 3) := by decide +kernel
theorem dX9_append_10 : decode cX9_append 10 = .ok (.new 252, 3) := by decide +kernel
theorem dX9_append_13 : decode cX9_append 13 = .ok (.dup, 1) := by decide +kernel
theorem dX9_append_14 : decode cX9_append 14 = .ok (.ldc 254, 2) := by decide +kernel
theorem dX9_append_16 : decode cX9_append 16 = .ok (.invokespecial 256, 3) := by decide +kernel
theorem dX9_append_19 : decode cX9_append 19 = .ok (.athrow, 1) := by decide +kernel
theorem dX9_append_20 : decode cX9_append 20 = .ok (.aload_n 0, 1) := by decide +kernel
theorem dX9_append_21 : decode cX9_append 21 = .ok (.getfield 36, 3) := by decide +kernel
theorem dX9_append_24 : decode cX9_append 24 = .ok (.iload_n 1, 1) := by decide +kernel
theorem dX9_append_25 : decode cX9_append 25 = .ok (.invokevirtual 257, 3) := by decide +kernel
theorem dX9_append_28 : decode cX9_append 28 = .ok (.ireturn, 1) := by decide +kernel
theorem gV_X9_X6_isFull_248 : GoodIn gw (wsV RX9 248 RX6 yX6_isFull (Cond.code yX6_isFull cX6_isFull 1 (some .boolean) :: gw)) := gdV gw_1094 gw_1095 gw_1096 gw_73 gw_1097
theorem hV_X6_isFull : yX6_isFull.cls = RX6 ∧ yX6_isFull.cls ≠ "java/lang/invoke/MethodHandle" ∧ yX6_isFull.cls ≠ "java/lang/invoke/VarHandle" ∧ (parseMethodDescriptor yX6_isFull.desc).map (fun d => d.parameters.length) = some 0 := ⟨rfl, by decide +kernel, by decide +kernel, by decide +kernel⟩
theorem gV_X9_X6_put_257 : GoodIn gw (wsV RX9 257 RX6 yX6_put (Cond.code yX6_put cX6_put 2 (some .int) :: gw)) := gdV gw_1101 gw_1102 gw_1103 gw_73 gw_1104
theorem hV_X6_put : yX6_put.cls = RX6 ∧ yX6_put.cls ≠ "java/lang/invoke/MethodHandle" ∧ yX6_put.cls ≠ "java/lang/invoke/VarHandle" ∧ (parseMethodDescriptor yX6_put.desc).map (fun d => d.parameters.length) = some 1 := ⟨rfl, by decide +kernel, by decide +kernel, by decide +kernel⟩
set_option maxHeartbeats 2000000 in
set_option maxRecDepth 20000 in
theorem k_X9_append (l : Launch) (hfl : l.stackTraces = false) (D : va_G) (aT : Nat → ClassId) (x0 : Nat) (v0 : Nat) (h0 : Nat) (t0 : Nat) (p0 : Nat) (o0 : Nat) (a0 : Nat) (p1 : Nat) (p2 : Nat) (p3 : Nat) (k0 : Int32) (w : Option Nat) (x : Int32) : CxG l yX9_append cX9_append 2 (some (.int)) 1 0 0 21 D aT [.ref x0, .int x] [(x0, .inr (12, [.ref a0, .ref v0, .ref h0, .ref t0, .ref p0, .ref o0, .int (nI 0), .int (-1), .int (-1)])), (p0, .inr (9, [.ref p1, .ref p2, .ref p3, .int (nI 0), .int (nI 0)])), (p1, .inl (aT 1, 60, .inl (fun _ => nI 0))), (p2, .inl (aT 0, 3, .inl (fun _ => nI 0))), (p3, .inr (4, [.int k0, va_rf w, .int (nI 0)]))] (qI D aT (fun r W1 => r = nI 1)) (fun _ => False) := by
  refine CxG.of RX9 (by decide +kernel) rfl (Nat.le_of_ble_eq_true rfl) ?_
  intro p e s m below meth c A ls C hml hl hA hr hlocks hex hnm hZ hW
  have hl : lv_has ls 2 [(0, .ref x0), (1, .int x)] := hl
  have hx := C.1
  have hb := C.2.1
  refine lv_aload_n hx hb dX9_append_0 rfl (lv_at hl 0 rfl) ?_
  refine cx_get C hW 0 4 rfl rfl (by decide) inX9 gw_350 rfl rfl dX9_append_1 ?_
  refine cx_calli (Wr := [(x0, .inr (12, [.ref a0, .ref v0, .ref h0, .ref t0, .ref p0, .ref o0, .int (nI 0), .int (-1), .int (-1)]))]) (cx_runV C hml hl.1 hZ hW hA (As := []) (rest := []) (k_X6_isFull l hfl D aT p0 p1 p2 p3 w k0) gV_X9_X6_isFull_248 hV_X6_isFull rfl ⟨Nat.le_of_ble_eq_true rfl, Nat.le_of_ble_eq_true rfl⟩ ⟨Nat.le_of_ble_eq_true rfl, Nat.le_of_ble_eq_true rfl⟩ [1, 2, 3, 4] rfl (by decide) 1 9 rfl rfl rfl rfl (Nat.le_of_ble_eq_true rfl) dX9_append_4) hW hA [1, 2, 3, 4] [0] rfl rfl (by decide) (by decide) (fun _ _ _ _ _ h9 => h9.elim) (fun r_4 W_4 H locs hq hW => ?_)
  obtain ⟨rfl, rfl⟩ := hq
  have hW : CxB D [(x0, .inr (12, [.ref a0, .ref v0, .ref h0, .ref t0, .ref p0, .ref o0, .int (nI 0), .int (-1), .int (-1)])), (p0, .inr (9, [.ref p1, .ref p2, .ref p3, .int (nI 0), .int (nI 0)])), (p1, .inl (aT 1, 60, .inl (fun _ => nI 0))), (p2, .inl (aT 0, 3, .inl (fun _ => nI 0))), (p3, .inr (4, [.int k0, va_rf w, .int (nI 0)]))] A s.heap H _ := hW
  refine lv_if_eq hx hb (x := (nI 0)) (tgt := 20) dX9_append_7 (by decide) (fun c_7 => ?_) (fun c_7 => ?_)
  · refine lv_aload_n hx hb dX9_append_20 rfl (lv_at hl 0 rfl) ?_
    refine cx_get C hW 0 4 rfl rfl (by decide) inX9 gw_350 rfl rfl dX9_append_21 ?_
    refine lv_iload_n hx hb dX9_append_24 rfl (lv_at hl 1 rfl) ?_
    refine cx_calli (Wr := [(x0, .inr (12, [.ref a0, .ref v0, .ref h0, .ref t0, .ref p0, .ref o0, .int (nI 0), .int (-1), .int (-1)]))]) (cx_runV C hml hl.1 hZ hW hA (As := [.int x]) (rest := []) (k_X6_put l hfl D aT p0 p1 p2 p3 w k0 x) gV_X9_X6_put_257 hV_X6_put rfl ⟨Nat.le_of_ble_eq_true rfl, Nat.le_of_ble_eq_true rfl⟩ ⟨Nat.le_of_ble_eq_true rfl, Nat.le_of_ble_eq_true rfl⟩ [1, 2, 3, 4] rfl (by decide) 1 9 rfl rfl rfl rfl (Nat.le_of_ble_eq_true rfl) dX9_append_25) hW hA [1, 2, 3, 4] [0] rfl rfl (by decide) (by decide) (fun _ _ _ _ _ h9 => h9.elim) (fun r_25 W_25 H locs hq hW => ?_)
    obtain ⟨rfl, rfl⟩ := hq
    have hW : CxB D [(x0, .inr (12, [.ref a0, .ref v0, .ref h0, .ref t0, .ref p0, .ref o0, .int (nI 0), .int (-1), .int (-1)])), (p0, .inr (9, [.ref p1, .ref p2, .ref p3, .int (nI 1), .int (nI 0)])), (p1, .inl (aT 1, 60, .inl (upd (fun _ => nI 0) 0 (vp_nar .char (x))))), (p2, .inl (aT 0, 3, .inl (fun _ => nI 0))), (p3, .inr (4, [.int k0, va_rf w, .int (nI 0)]))] A s.heap H _ := hW
    exact cx_iret C hr hlocks rfl hW ⟨Nat.le_of_ble_eq_true rfl, Nat.le_of_ble_eq_true rfl⟩ (rfl) dX9_append_28
  · exact absurd (by decide) c_7
theorem dX9_run_0 : decode cX9_run 0 = .ok (.aload_n 0, 1) := by decide +kernel
theorem dX9_run_1 : decode cX9_run 1 = .ok (.getfield 36, 3) := by decide +kernel
theorem dX9_run_4 : decode cX9_run 4 = .ok (.invokevirtual 261, 3) := by decide +kernel
theorem dX9_run_7 : decode cX9_run 7 = .ok (.istore_n 1, 1) := by decide +kernel
theorem dX9_run_8 : decode cX9_run 8 = .ok (.aload_n 0, 1) := by decide +kernel
theorem dX9_run_9 : decode cX9_run 9 = .ok (.getfield 36, 3) := by decide +kernel
theorem dX9_run_12 : decode cX9_run 12 = .ok (.invokevirtual 264, 3) := by decide +kernel
theorem dX9_run_15 : decode cX9_run 15 = .ok (.iload_n 1, 1) := by decide +kernel
theorem dX9_run_16 : decode cX9_run 16 = .ok (.iconst (-1), 1) := by decide +kernel
theorem dX9_run_17 : decode cX9_run 17 = .ok (.if_icmp .eq 19, 3) := by decide +kernel
theorem dX9_run_20 : decode cX9_run 20 = .ok (.aload_n 0, 1) := by decide +kernel
theorem dX9_run_21 : decode cX9_run 21 = .ok (.iload_n 1, 1) := by decide +kernel
theorem dX9_run_22 : decode cX9_run 22 = .ok (.putfield 51, 3) := by decide +kernel
theorem dX9_run_25 : decode cX9_run 25 = .ok (.new 207, 3) := by decide +kernel
theorem dX9_run_28 : decode cX9_run 28 = .ok (.dup, 1) := by decide +kernel
theorem dX9_run_29 : decode cX9_run 29 = .ok (.ldc_w 267, 3) := by decide +kernel
theorem dX9_run_32 : decode cX9_run 32 = .ok (.invokespecial 211, 3) := by decide +kernel
theorem dX9_run_35 : decode cX9_run 35 = .ok (.athrow, 1) := by decide +kernel
theorem dX9_run_36 : decode cX9_run 36 = .ok (.aload_n 0, 1) := by decide +kernel
theorem dX9_run_37 : decode cX9_run 37 = .ok (.getfield 22, 3) := by decide +kernel
theorem dX9_run_40 : decode cX9_run 40 = .ok (.aload_n 0, 1) := by decide +kernel
theorem dX9_run_41 : decode cX9_run 41 = .ok (.getfield 10, 3) := by decide +kernel
theorem dX9_run_44 : decode cX9_run 44 = .ok (.invokevirtual 58, 3) := by decide +kernel
theorem dX9_run_47 : decode cX9_run 47 = .ok (.aload_n 0, 1) := by decide +kernel
theorem dX9_run_48 : decode cX9_run 48 = .ok (.invokevirtual 269, 3) := by decide +kernel
theorem dX9_run_51 : decode cX9_run 51 = .ok (.istore_n 2, 1) := by decide +kernel
theorem dX9_run_52 : decode cX9_run 52 = .ok (.iload_n 2, 1) := by decide +kernel
theorem dX9_run_53 : decode cX9_run 53 = .ok (.iconst (-1), 1) := by decide +kernel
theorem dX9_run_54 : decode cX9_run 54 = .ok (.if_icmp .eq 30, 3) := by decide +kernel
theorem dX9_run_57 : decode cX9_run 57 = .ok (.aload_n 0, 1) := by decide +kernel
theorem dX9_run_58 : decode cX9_run 58 = .ok (.getfield 22, 3) := by decide +kernel
theorem dX9_run_61 : decode cX9_run 61 = .ok (.aload_n 0, 1) := by decide +kernel
theorem dX9_run_62 : decode cX9_run 62 = .ok (.getfield 10, 3) := by decide +kernel
theorem dX9_run_65 : decode cX9_run 65 = .ok (.invokevirtual 272, 3) := by decide +kernel
theorem dX9_run_68 : decode cX9_run 68 = .ok (.aload_n 0, 1) := by decide +kernel
theorem dX9_run_69 : decode cX9_run 69 = .ok (.iload_n 2, 1) := by decide +kernel
theorem dX9_run_70 : decode cX9_run 70 = .ok (.putfield 55, 3) := by decide +kernel
theorem dX9_run_73 : decode cX9_run 73 = .ok (.new 184, 3) := by decide +kernel
theorem dX9_run_76 : decode cX9_run 76 = .ok (.dup, 1) := by decide +kernel
theorem dX9_run_77 : decode cX9_run 77 = .ok (.ldc_w 275, 3) := by decide +kernel
theorem dX9_run_80 : decode cX9_run 80 = .ok (.invokespecial 188, 3) := by decide +kernel
theorem dX9_run_83 : decode cX9_run 83 = .ok (.athrow, 1) := by decide +kernel
theorem dX9_run_84 : decode cX9_run 84 = .ok (.aload_n 0, 1) := by decide +kernel
theorem dX9_run_85 : decode cX9_run 85 = .ok (.getfield 22, 3) := by decide +kernel
theorem dX9_run_88 : decode cX9_run 88 = .ok (.invokevirtual 66, 3) := by decide +kernel
theorem dX9_run_91 : decode cX9_run 91 = .ok (.aload_n 0, 1) := by decide +kernel
theorem dX9_run_92 : decode cX9_run 92 = .ok (.getfield 36, 3) := by decide +kernel
theorem dX9_run_95 : decode cX9_run 95 = .ok (.getfield 277, 3) := by decide +kernel
theorem dX9_run_98 : decode cX9_run 98 = .ok (.invokevirtual 281, 3) := by decide +kernel
theorem dX9_run_101 : decode cX9_run 101 = .ok (.ireturn, 1) := by decide +kernel
theorem gV_X9_X6_parse_261 : GoodIn gw (wsV RX9 261 RX6 yX6_parse (Cond.code yX6_parse cX6_parse 2 (some .int) :: gw)) := gdV gw_1112 gw_1113 gw_1114 gw_73 gw_1115
theorem hV_X6_parse : yX6_parse.cls = RX6 ∧ yX6_parse.cls ≠ "java/lang/invoke/MethodHandle" ∧ yX6_parse.cls ≠ "java/lang/invoke/VarHandle" ∧ (parseMethodDescriptor yX6_parse.desc).map (fun d => d.parameters.length) = some 0 := ⟨rfl, by decide +kernel, by decide +kernel, by decide +kernel⟩
theorem gV_X9_X6_empty_264 : GoodIn gw (wsV RX9 264 RX6 yX6_empty (Cond.code yX6_empty cX6_empty 1 (none) :: gw)) := gdV gw_1275 gw_1276 gw_1277 gw_73 gw_1278
theorem hV_X6_empty : yX6_empty.cls = RX6 ∧ yX6_empty.cls ≠ "java/lang/invoke/MethodHandle" ∧ yX6_empty.cls ≠ "java/lang/invoke/VarHandle" ∧ (parseMethodDescriptor yX6_empty.desc).map (fun d => d.parameters.length) = some 0 := ⟨rfl, by decide +kernel, by decide +kernel, by decide +kernel⟩
set_option maxHeartbeats 2000000 in
set_option maxRecDepth 20000 in
theorem k_X9_run (l : Launch) (hfl : l.stackTraces = false) (D : va_G) (aT : Nat → ClassId) (x0 : Nat) (v0 : Nat) (h0 : Nat) (t0 : Nat) (p0 : Nat) (o0 : Nat) (a0 : Nat) (p1 : Nat) (p2 : Nat) (p3 : Nat) (k0 : Int32) (w : Option Nat) : CxG l yX9_run cX9_run 3 (some (.int)) 6 1 6 90 D aT [.ref x0] [(x0, .inr (12, [.ref a0, .ref v0, .ref h0, .ref t0, .ref p0, .ref o0, .int (nI 0), .int (-1), .int (-1)])), (p0, .inr (9, [.ref p1, .ref p2, .ref p3, .int (nI 0), .int (nI 0)])), (p1, .inl (aT 1, 60, .inl (fun _ => nI 0))), (p2, .inl (aT 0, 3, .inl (fun _ => nI 0))), (p3, .inr (4, [.int k0, va_rf w, .int (nI 0)]))] (qI D aT (fun _ _ => False)) (fun E => E = "java/lang/IllegalArgumentException") := by
  refine CxG.of RX9 (by decide +kernel) rfl (Nat.le_of_ble_eq_true rfl) ?_
  intro p e s m below meth c A ls C hml hl hA hr hlocks hex hnm hZ hW
  have hl : lv_has ls 3 [(0, .ref x0)] := hl
  have hx := C.1
  have hb := C.2.1
  refine lv_aload_n hx hb dX9_run_0 rfl (lv_at hl 0 rfl) ?_
  refine cx_get C hW 0 4 rfl rfl (by decide) inX9 gw_350 rfl rfl dX9_run_1 ?_
  refine cx_calli (Wr := [(x0, .inr (12, [.ref a0, .ref v0, .ref h0, .ref t0, .ref p0, .ref o0, .int (nI 0), .int (-1), .int (-1)]))]) (cx_runV C hml hl.1 hZ hW hA (As := []) (rest := []) (k_X6_parse l hfl D aT p0 p1 p2 p3 w k0) gV_X9_X6_parse_261 hV_X6_parse rfl ⟨Nat.le_of_ble_eq_true rfl, Nat.le_of_ble_eq_true rfl⟩ ⟨Nat.le_of_ble_eq_true rfl, Nat.le_of_ble_eq_true rfl⟩ [1, 2, 3, 4] rfl (by decide) 1 9 rfl rfl rfl rfl (Nat.le_of_ble_eq_true rfl) dX9_run_4) hW hA [1, 2, 3, 4] [0] rfl rfl (by decide) (by decide) (fun _ _ _ _ _ h9 => h9.elim) (fun r_4 W_4 H locs hq hW => ?_)
  obtain ⟨rfl, rfl⟩ := hq
  have hW : CxB D [(x0, .inr (12, [.ref a0, .ref v0, .ref h0, .ref t0, .ref p0, .ref o0, .int (nI 0), .int (-1), .int (-1)])), (p0, .inr (9, [.ref p1, .ref p2, .ref p3, .int (nI 0), .int (nI 0)])), (p1, .inl (aT 1, 60, .inl (fun _ => nI 0))), (p2, .inl (aT 0, 3, .inl (fun _ => nI 0))), (p3, .inr (4, [.int (k0 + nI 1), va_rf w, .int (nI 0)]))] A s.heap H _ := hW
  refine lv_istore_n (lv' := [(1, .int (nI 0)), (0, .ref x0)]) hx hb dX9_run_7 rfl hl (by decide) rfl (fun ls hl => ?_)
  refine lv_aload_n hx hb dX9_run_8 rfl (lv_at hl 1 rfl) ?_
  refine cx_get C hW 0 4 rfl rfl (by decide) inX9 gw_350 rfl rfl dX9_run_9 ?_
  refine cx_callv (Wr := [(x0, .inr (12, [.ref a0, .ref v0, .ref h0, .ref t0, .ref p0, .ref o0, .int (nI 0), .int (-1), .int (-1)]))]) (cx_runV C hml hl.1 hZ hW hA (As := []) (rest := []) (k_X6_empty l hfl D aT p0 p1 p2 p3 w (k0 + nI 1)) gV_X9_X6_empty_264 hV_X6_empty rfl ⟨Nat.le_of_ble_eq_true rfl, Nat.le_of_ble_eq_true rfl⟩ ⟨Nat.le_of_ble_eq_true rfl, Nat.le_of_ble_eq_true rfl⟩ [1, 2, 3, 4] rfl (by decide) 1 9 rfl rfl rfl rfl (Nat.le_of_ble_eq_true rfl) dX9_run_12) hW hA [1, 2, 3, 4] [0] rfl rfl (by decide) (by decide) (fun _ _ _ _ _ h9 => h9.elim) (fun W_12 H locs hq hW => ?_)
  subst hq
  have hW : CxB D [(x0, .inr (12, [.ref a0, .ref v0, .ref h0, .ref t0, .ref p0, .ref o0, .int (nI 0), .int (-1), .int (-1)])), (p0, .inr (9, [.ref p1, .ref p2, .ref p3, .int (nI 0), .int (nI 0)])), (p1, .inl (aT 1, 60, .inl (fun _ => nI 0))), (p2, .inl (aT 0, 3, .inl (fun _ => nI 0))), (p3, .inr (4, [.int (k0 + nI 1), va_rf w, .int (nI 0)]))] A s.heap H _ := hW
  refine lv_iload_n hx hb dX9_run_15 rfl (lv_at hl 0 rfl) ?_
  refine lv_iconst (v := (-1)) hx hb dX9_run_16 (by decide) ?_
  refine lv_icmp_eq hx hb (x := (nI 0)) (y := (-1)) (tgt := 36) dX9_run_17 (by decide) (fun c_17 => ?_) (fun c_17 => ?_)
  · exact absurd c_17 (by decide)
  · refine lv_aload_n hx hb dX9_run_20 rfl (lv_at hl 1 rfl) ?_
    refine lv_iload_n hx hb dX9_run_21 rfl (lv_at hl 0 rfl) ?_
    refine cx_put C hW 0 7 (W1 := [(x0, .inr (12, [.ref a0, .ref v0, .ref h0, .ref t0, .ref p0, .ref o0, .int (nI 0), .int (nI 0), .int (-1)])), (p0, .inr (9, [.ref p1, .ref p2, .ref p3, .int (nI 0), .int (nI 0)])), (p1, .inl (aT 1, 60, .inl (fun _ => nI 0))), (p2, .inl (aT 0, 3, .inl (fun _ => nI 0))), (p3, .inr (4, [.int (k0 + nI 1), va_rf w, .int (nI 0)]))]) rfl rfl (by decide) inX9 tyX9 tyX9_ok nmX9 gw_353 rfl rfl rfl rfl rfl (Nat.le_of_ble_eq_true rfl) rfl dX9_run_22 (fun H locs hW => ?_)
    exact cx_throwW C hfl hex hml hl.1 hlocks hZ hW at_X9_IllegalArgumentException (List.mem_of_getElem? (i := 18) rfl) gw_1051 gw_86 (by decide +kernel) dX9_run_25 dX9_run_28 dX9_run_29 dX9_run_32 dX9_run_35 ⟨Nat.le_of_ble_eq_true rfl, Nat.le_of_ble_eq_true rfl, Nat.le_of_ble_eq_true rfl, Nat.le_of_ble_eq_true rfl⟩ ⟨Nat.le_of_ble_eq_true rfl, Nat.le_of_ble_eq_true rfl⟩ (rfl)
theorem dX9_errorPosition_0 : decode cX9_errorPosition 0 = .ok (.aload_n 0, 1) := by decide +kernel
theorem dX9_errorPosition_1 : decode cX9_errorPosition 1 = .ok (.getfield 51, 3) := by decide +kernel
theorem dX9_errorPosition_4 : decode cX9_errorPosition 4 = .ok (.iconst (-1), 1) := by decide +kernel
theorem dX9_errorPosition_5 : decode cX9_errorPosition 5 = .ok (.if_icmp .ne 14, 3) := by decide +kernel
theorem dX9_errorPosition_8 : decode cX9_errorPosition 8 = .ok (.new 117, 3) := by decide +kernel
theorem dX9_errorPosition_11 : decode cX9_errorPosition 11 = .ok (.dup, 1) := by decide +kernel
theorem dX9_errorPosition_12 : decode cX9_errorPosition 12 = .ok (.ldc_w 286, 3) := by decide +kernel
theorem dX9_errorPosition_15 : decode cX9_errorPosition 15 = .ok (.invokespecial 121, 3) := by decide +kernel
theorem dX9_errorPosition_18 : decode cX9_errorPosition 18 = .ok (.athrow, 1) := by decide +kernel
theorem dX9_errorPosition_19 : decode cX9_errorPosition 19 = .ok (.aload_n 0, 1) := by decide +kernel
theorem dX9_errorPosition_20 : decode cX9_errorPosition 20 = .ok (.getfield 51, 3) := by decide +kernel
theorem dX9_errorPosition_23 : decode cX9_errorPosition 23 = .ok (.ireturn, 1) := by decide +kernel
set_option maxHeartbeats 2000000 in
set_option maxRecDepth 20000 in
theorem k_X9_errorPosition (l : Launch) (hfl : l.stackTraces = false) (D : va_G) (aT : Nat → ClassId) (x0 : Nat) (v0 : Nat) (h0 : Nat) (t0 : Nat) (p0 : Nat) (o0 : Nat) (a0 : Nat) : CxG l yX9_errorPosition cX9_errorPosition 1 (some (.int)) 6 1 6 90 D aT [.ref x0] [(x0, .inr (12, [.ref a0, .ref v0, .ref h0, .ref t0, .ref p0, .ref o0, .int (nI 0), .int (-1), .int (-1)]))] (qI D aT (fun _ _ => False)) (fun E => E = "java/util/NoSuchElementException") := by
  refine CxG.of RX9 (by decide +kernel) rfl (Nat.le_of_ble_eq_true rfl) ?_
  intro p e s m below meth c A ls C hml hl hA hr hlocks hex hnm hZ hW
  have hl : lv_has ls 1 [(0, .ref x0)] := hl
  have hx := C.1
  have hb := C.2.1
  refine lv_aload_n hx hb dX9_errorPosition_0 rfl (lv_at hl 0 rfl) ?_
  refine cx_get C hW 0 7 rfl rfl (by decide) inX9 gw_353 rfl rfl dX9_errorPosition_1 ?_
  refine lv_iconst (v := (-1)) hx hb dX9_errorPosition_4 (by decide) ?_
  refine lv_icmp_ne hx hb (x := (-1)) (y := (-1)) (tgt := 19) dX9_errorPosition_5 (by decide) (fun c_5 => ?_) (fun c_5 => ?_)
  · exact absurd c_5 (by decide)
  · exact cx_throwXW C hfl hex hml hl.1 hlocks hZ hW dx_NoSuchElementException_0 dx_NoSuchElementException_1 dx_NoSuchElementException_2 dx_NoSuchElementException_5 at_X9_NoSuchElementException (List.mem_of_getElem? (i := 20) rfl) gw_862 gw_88 (by decide +kernel) dX9_errorPosition_8 dX9_errorPosition_11 dX9_errorPosition_12 dX9_errorPosition_15 dX9_errorPosition_18 ⟨Nat.le_of_ble_eq_true rfl, Nat.le_of_ble_eq_true rfl, Nat.le_of_ble_eq_true rfl, Nat.le_of_ble_eq_true rfl⟩ ⟨Nat.le_of_ble_eq_true rfl, Nat.le_of_ble_eq_true rfl⟩ (rfl)
theorem dX9_failedCommand_0 : decode cX9_failedCommand 0 = .ok (.aload_n 0, 1) := by decide +kernel
theorem dX9_failedCommand_1 : decode cX9_failedCommand 1 = .ok (.getfield 55, 3) := by decide +kernel
theorem dX9_failedCommand_4 : decode cX9_failedCommand 4 = .ok (.iconst (-1), 1) := by decide +kernel
theorem dX9_failedCommand_5 : decode cX9_failedCommand 5 = .ok (.if_icmp .ne 14, 3) := by decide +kernel
theorem dX9_failedCommand_8 : decode cX9_failedCommand 8 = .ok (.new 117, 3) := by decide +kernel
theorem dX9_failedCommand_11 : decode cX9_failedCommand 11 = .ok (.dup, 1) := by decide +kernel
theorem dX9_failedCommand_12 : decode cX9_failedCommand 12 = .ok (.ldc_w 288, 3) := by decide +kernel
theorem dX9_failedCommand_15 : decode cX9_failedCommand 15 = .ok (.invokespecial 121, 3) := by decide +kernel
theorem dX9_failedCommand_18 : decode cX9_failedCommand 18 = .ok (.athrow, 1) := by decide +kernel
theorem dX9_failedCommand_19 : decode cX9_failedCommand 19 = .ok (.aload_n 0, 1) := by decide +kernel
theorem dX9_failedCommand_20 : decode cX9_failedCommand 20 = .ok (.getfield 55, 3) := by decide +kernel
theorem dX9_failedCommand_23 : decode cX9_failedCommand 23 = .ok (.ireturn, 1) := by decide +kernel
set_option maxHeartbeats 2000000 in
set_option maxRecDepth 20000 in
theorem k_X9_failedCommand (l : Launch) (hfl : l.stackTraces = false) (D : va_G) (aT : Nat → ClassId) (x0 : Nat) (v0 : Nat) (h0 : Nat) (t0 : Nat) (p0 : Nat) (o0 : Nat) (a0 : Nat) : CxG l yX9_failedCommand cX9_failedCommand 1 (some (.int)) 6 1 6 90 D aT [.ref x0] [(x0, .inr (12, [.ref a0, .ref v0, .ref h0, .ref t0, .ref p0, .ref o0, .int (nI 0), .int (-1), .int (-1)]))] (qI D aT (fun _ _ => False)) (fun E => E = "java/util/NoSuchElementException") := by
  refine CxG.of RX9 (by decide +kernel) rfl (Nat.le_of_ble_eq_true rfl) ?_
  intro p e s m below meth c A ls C hml hl hA hr hlocks hex hnm hZ hW
  have hl : lv_has ls 1 [(0, .ref x0)] := hl
  have hx := C.1
  have hb := C.2.1
  refine lv_aload_n hx hb dX9_failedCommand_0 rfl (lv_at hl 0 rfl) ?_
  refine cx_get C hW 0 8 rfl rfl (by decide) inX9 gw_354 rfl rfl dX9_failedCommand_1 ?_
  refine lv_iconst (v := (-1)) hx hb dX9_failedCommand_4 (by decide) ?_
  refine lv_icmp_ne hx hb (x := (-1)) (y := (-1)) (tgt := 19) dX9_failedCommand_5 (by decide) (fun c_5 => ?_) (fun c_5 => ?_)
  · exact absurd c_5 (by decide)
  · exact cx_throwXW C hfl hex hml hl.1 hlocks hZ hW dx_NoSuchElementException_0 dx_NoSuchElementException_1 dx_NoSuchElementException_2 dx_NoSuchElementException_5 at_X9_NoSuchElementException (List.mem_of_getElem? (i := 21) rfl) gw_862 gw_88 (by decide +kernel) dX9_failedCommand_8 dX9_failedCommand_11 dX9_failedCommand_12 dX9_failedCommand_15 dX9_failedCommand_18 ⟨Nat.le_of_ble_eq_true rfl, Nat.le_of_ble_eq_true rfl, Nat.le_of_ble_eq_true rfl, Nat.le_of_ble_eq_true rfl⟩ ⟨Nat.le_of_ble_eq_true rfl, Nat.le_of_ble_eq_true rfl⟩ (rfl)
theorem dX9_outputAt_0 : decode cX9_outputAt 0 = .ok (.iload_n 1, 1) := by decide +kernel
theorem dX9_outputAt_1 : decode cX9_outputAt 1 = .ok (.ifCond .lt 14, 3) := by decide +kernel
theorem dX9_outputAt_4 : decode cX9_outputAt 4 = .ok (.iload_n 1, 1) := by decide +kernel
theorem dX9_outputAt_5 : decode cX9_outputAt 5 = .ok (.aload_n 0, 1) := by decide +kernel
theorem dX9_outputAt_6 : decode cX9_outputAt 6 = .ok (.getfield 43, 3) := by decide +kernel
theorem dX9_outputAt_9 : decode cX9_outputAt 9 = .ok (.invokevirtual 297, 3) := by decide +kernel
theorem dX9_outputAt_12 : decode cX9_outputAt 12 = .ok (.if_icmp .lt 14, 3) := by decide +kernel
theorem dX9_outputAt_15 : decode cX9_outputAt 15 = .ok (.new 300, 3) := by decide +kernel
theorem dX9_outputAt_18 : decode cX9_outputAt 18 = .ok (.dup, 1) := by decide +kernel
theorem dX9_outputAt_19 : decode cX9_outputAt 19 = .ok (.ldc_w 302, 3) := by decide +kernel
theorem dX9_outputAt_22 : decode cX9_outputAt 22 = .ok (.invokespecial 304, 3) := by decide +kernel
theorem dX9_outputAt_25 : decode cX9_outputAt 25 = .ok (.athrow, 1) := by decide +kernel
theorem dX9_outputAt_26 : decode cX9_outputAt 26 = .ok (.aload_n 0, 1) := by decide +kernel
theorem dX9_outputAt_27 : decode cX9_outputAt 27 = .ok (.getfield 43, 3) := by decide +kernel
theorem dX9_outputAt_30 : decode cX9_outputAt 30 = .ok (.iload_n 1, 1) := by decide +kernel
theorem dX9_outputAt_31 : decode cX9_outputAt 31 = .ok (.invokevirtual 305, 3) := by decide +kernel
theorem dX9_outputAt_34 : decode cX9_outputAt 34 = .ok (.ireturn, 1) := by decide +kernel
theorem gV_X9_J4_length_8abf5_297 : GoodIn gw (wsV RX9 297 RJ4 yJ4_length_8abf5 (Cond.code yJ4_length_8abf5 cJ4_length_8abf5 1 (some .int) :: gw)) := gdV gw_1578 gw_1488 gw_2111 gw_78 gw_1489
theorem hV_J4_length_8abf5 : yJ4_length_8abf5.cls = RJ4 ∧ yJ4_length_8abf5.cls ≠ "java/lang/invoke/MethodHandle" ∧ yJ4_length_8abf5.cls ≠ "java/lang/invoke/VarHandle" ∧ (parseMethodDescriptor yJ4_length_8abf5.desc).map (fun d => d.parameters.length) = some 0 := ⟨rfl, by decide +kernel, by decide +kernel, by decide +kernel⟩
set_option maxHeartbeats 2000000 in
set_option maxRecDepth 20000 in
theorem k_X9_outputAt (l : Launch) (hfl : l.stackTraces = false) (D : va_G) (aT : Nat → ClassId) (x0 : Nat) (v0 : Nat) (h0 : Nat) (t0 : Nat) (p0 : Nat) (o0 : Nat) (a0 : Nat) (o1 : Nat) (x : Int32) : CxG l yX9_outputAt cX9_outputAt 2 (some (.char)) 6 1 6 90 D aT [.ref x0, .int x] [(x0, .inr (12, [.ref a0, .ref v0, .ref h0, .ref t0, .ref p0, .ref o0, .int (nI 0), .int (-1), .int (-1)])), (o0, .inr (1, [.ref o1, .int (nI 0), .int (nI 0), .int (nI 0)]))] (qI D aT (fun _ _ => False)) (fun E => E = "java/lang/IndexOutOfBoundsException") := by
  refine CxG.of RX9 (by decide +kernel) rfl (Nat.le_of_ble_eq_true rfl) ?_
  intro p e s m below meth c A ls C hml hl hA hr hlocks hex hnm hZ hW
  have hl : lv_has ls 2 [(0, .ref x0), (1, .int x)] := hl
  have hx := C.1
  have hb := C.2.1
  refine lv_iload_n hx hb dX9_outputAt_0 rfl (lv_at hl 1 rfl) ?_
  refine lv_if_lt hx hb (x := x) (tgt := 15) dX9_outputAt_1 (by decide) (fun c_1 => ?_) (fun c_1 => ?_)
  · exact cx_throwW C hfl hex hml hl.1 hlocks hZ hW at_X9_IndexOutOfBoundsException (List.mem_of_getElem? (i := 22) rfl) gw_835 gw_90 (by decide +kernel) dX9_outputAt_15 dX9_outputAt_18 dX9_outputAt_19 dX9_outputAt_22 dX9_outputAt_25 ⟨Nat.le_of_ble_eq_true rfl, Nat.le_of_ble_eq_true rfl, Nat.le_of_ble_eq_true rfl, Nat.le_of_ble_eq_true rfl⟩ ⟨Nat.le_of_ble_eq_true rfl, Nat.le_of_ble_eq_true rfl⟩ (rfl)
  · refine lv_iload_n hx hb dX9_outputAt_4 rfl (lv_at hl 1 rfl) ?_
    refine lv_aload_n hx hb dX9_outputAt_5 rfl (lv_at hl 0 rfl) ?_
    refine cx_get C hW 0 5 rfl rfl (by decide) inX9 gw_351 rfl rfl dX9_outputAt_6 ?_
    refine cx_calli (Wr := [(x0, .inr (12, [.ref a0, .ref v0, .ref h0, .ref t0, .ref p0, .ref o0, .int (nI 0), .int (-1), .int (-1)]))]) (cx_runV C hml hl.1 hZ hW hA (As := []) (rest := [.int x]) (k_J4_length_8abf5 l hfl D aT o0 o1) gV_X9_J4_length_8abf5_297 hV_J4_length_8abf5 rfl ⟨Nat.le_of_ble_eq_true rfl, Nat.le_of_ble_eq_true rfl⟩ ⟨Nat.le_of_ble_eq_true rfl, Nat.le_of_ble_eq_true rfl⟩ [1] rfl (by decide) 1 1 rfl rfl rfl rfl (Nat.le_of_ble_eq_true rfl) dX9_outputAt_9) hW hA [1] [0] rfl rfl (by decide) (by decide) (fun _ _ _ _ _ h9 => h9.elim) (fun r_9 W_9 H locs hq hW => ?_)
    obtain ⟨rfl, rfl⟩ := hq
    have hW : CxB D [(x0, .inr (12, [.ref a0, .ref v0, .ref h0, .ref t0, .ref p0, .ref o0, .int (nI 0), .int (-1), .int (-1)])), (o0, .inr (1, [.ref o1, .int (nI 0), .int (nI 0), .int (nI 0)]))] A s.heap H _ := hW
    refine lv_icmp_lt hx hb (x := x) (y := (nI 0)) (tgt := 26) dX9_outputAt_12 (by decide) (fun c_12 => ?_) (fun c_12 => ?_)
    · exact absurd c_12 c_1
    · exact cx_throwW C hfl hex hml hl.1 hlocks hZ hW at_X9_IndexOutOfBoundsException (List.mem_of_getElem? (i := 22) rfl) gw_835 gw_90 (by decide +kernel) dX9_outputAt_15 dX9_outputAt_18 dX9_outputAt_19 dX9_outputAt_22 dX9_outputAt_25 ⟨Nat.le_of_ble_eq_true rfl, Nat.le_of_ble_eq_true rfl, Nat.le_of_ble_eq_true rfl, Nat.le_of_ble_eq_true rfl⟩ ⟨Nat.le_of_ble_eq_true rfl, Nat.le_of_ble_eq_true rfl⟩ (rfl)
theorem dX9_undo_0 : decode cX9_undo 0 = .ok (.aload_n 0, 1) := by decide +kernel
theorem dX9_undo_1 : decode cX9_undo 1 = .ok (.getfield 22, 3) := by decide +kernel
theorem dX9_undo_4 : decode cX9_undo 4 = .ok (.getfield 308, 3) := by decide +kernel
theorem dX9_undo_7 : decode cX9_undo 7 = .ok (.ifCond .ne 14, 3) := by decide +kernel
theorem dX9_undo_10 : decode cX9_undo 10 = .ok (.new 252, 3) := by decide +kernel
theorem dX9_undo_13 : decode cX9_undo 13 = .ok (.dup, 1) := by decide +kernel
theorem dX9_undo_14 : decode cX9_undo 14 = .ok (.ldc_w 309, 3) := by decide +kernel
theorem dX9_undo_17 : decode cX9_undo 17 = .ok (.invokespecial 256, 3) := by decide +kernel
theorem dX9_undo_20 : decode cX9_undo 20 = .ok (.athrow, 1) := by decide +kernel
theorem dX9_undo_21 : decode cX9_undo 21 = .ok (.aload_n 0, 1) := by decide +kernel
theorem dX9_undo_22 : decode cX9_undo 22 = .ok (.getfield 22, 3) := by decide +kernel
theorem dX9_undo_25 : decode cX9_undo 25 = .ok (.aload_n 0, 1) := by decide +kernel
theorem dX9_undo_26 : decode cX9_undo 26 = .ok (.getfield 10, 3) := by decide +kernel
theorem dX9_undo_29 : decode cX9_undo 29 = .ok (.invokevirtual 311, 3) := by decide +kernel
theorem dX9_undo_32 : decode cX9_undo 32 = .ok (.ireturn, 1) := by decide +kernel
set_option maxHeartbeats 2000000 in
set_option maxRecDepth 20000 in
theorem k_X9_undo (l : Launch) (hfl : l.stackTraces = false) (D : va_G) (aT : Nat → ClassId) (x0 : Nat) (v0 : Nat) (h0 : Nat) (t0 : Nat) (p0 : Nat) (o0 : Nat) (a0 : Nat) (h1 : Nat) (f : Nat → Option Nat) : CxG l yX9_undo cX9_undo 1 (some (.int)) 6 1 6 90 D aT [.ref x0] [(x0, .inr (12, [.ref a0, .ref v0, .ref h0, .ref t0, .ref p0, .ref o0, .int (nI 0), .int (-1), .int (-1)])), (h0, .inr (7, [.ref h1, .int (nI 0)])), (h1, .inl (aT 5, 9, .inr (.inr (.inr (.inr f)))))] (qI D aT (fun _ _ => False)) (fun E => E = "java/lang/IllegalStateException") := by
  refine CxG.of RX9 (by decide +kernel) rfl (Nat.le_of_ble_eq_true rfl) ?_
  intro p e s m below meth c A ls C hml hl hA hr hlocks hex hnm hZ hW
  have hl : lv_has ls 1 [(0, .ref x0)] := hl
  have hx := C.1
  have hb := C.2.1
  refine lv_aload_n hx hb dX9_undo_0 rfl (lv_at hl 0 rfl) ?_
  refine cx_get C hW 0 2 rfl rfl (by decide) inX9 gw_348 rfl rfl dX9_undo_1 ?_
  refine cx_getN C hZ hW 1 1 rfl rfl (by decide) inX3 nw_231 rfl rfl dX9_undo_4 ?_
  refine lv_if_ne hx hb (x := (nI 0)) (tgt := 21) dX9_undo_7 (by decide) (fun c_7 => ?_) (fun c_7 => ?_)
  · exact absurd c_7 (by decide)
  · exact cx_throwW C hfl hex hml hl.1 hlocks hZ hW at_X9_IllegalStateException (List.mem_of_getElem? (i := 23) rfl) gw_1098 gw_87 (by decide +kernel) dX9_undo_10 dX9_undo_13 dX9_undo_14 dX9_undo_17 dX9_undo_20 ⟨Nat.le_of_ble_eq_true rfl, Nat.le_of_ble_eq_true rfl, Nat.le_of_ble_eq_true rfl, Nat.le_of_ble_eq_true rfl⟩ ⟨Nat.le_of_ble_eq_true rfl, Nat.le_of_ble_eq_true rfl⟩ (rfl)
theorem dX9_save_0 : decode cX9_save 0 = .ok (.aload_n 0, 1) := by decide +kernel
theorem dX9_save_1 : decode cX9_save 1 = .ok (.getfield 16, 3) := by decide +kernel
theorem dX9_save_4 : decode cX9_save 4 = .ok (.aload_n 0, 1) := by decide +kernel
theorem dX9_save_5 : decode cX9_save 5 = .ok (.getfield 10, 3) := by decide +kernel
theorem dX9_save_8 : decode cX9_save 8 = .ok (.invokevirtual 315, 3) := by decide +kernel
theorem dX9_save_11 : decode cX9_save 11 = .ok (.aload_n 0, 1) := by decide +kernel
theorem dX9_save_12 : decode cX9_save 12 = .ok (.iconst 1, 1) := by decide +kernel
theorem dX9_save_13 : decode cX9_save 13 = .ok (.putfield 47, 3) := by decide +kernel
theorem dX9_save_16 : decode cX9_save 16 = .ok (.return_, 1) := by decide +kernel
theorem gV_X9_X7_copyFrom_315 : GoodIn gw (wsV RX9 315 RX7 yX7_copyFrom (Cond.code yX7_copyFrom cX7_copyFrom 2 (none) :: gw)) := gdV gw_542 gw_383 gw_384 gw_68 gw_385
set_option maxHeartbeats 2000000 in
set_option maxRecDepth 20000 in
theorem k_X9_save (l : Launch) (hfl : l.stackTraces = false) (D : va_G) (aT : Nat → ClassId) (x0 : Nat) (v0 : Nat) (h0 : Nat) (t0 : Nat) (p0 : Nat) (o0 : Nat) (a0 : Nat) (a1 : Nat) (a5 : Nat) (a10 : Nat) (a2 : Nat) (a3 : Nat) (a4 : Nat) (a6 : Nat) (a7 : Nat) (a8 : Nat) (a9 : Nat) (v1 : Nat) (v5 : Nat) (v10 : Nat) (v2 : Nat) (v3 : Nat) (v4 : Nat) (v6 : Nat) (v7 : Nat) (v8 : Nat) (v9 : Nat) : CxG l yX9_save cX9_save 1 none 3 0 0 102 D aT [.ref x0] [(x0, .inr (12, [.ref a0, .ref v0, .ref h0, .ref t0, .ref p0, .ref o0, .int (nI 0), .int (-1), .int (-1)])), (a0, .inr (10, [.ref a1, .ref a5, .ref a10, .int (nI 0), .int (nI 0), .int (nI 0), .int (nI 0), .int (nI 0), .int (nI 0), .int (nI 0), .int (nI 0)])), (a1, .inr (6, [.ref a2, .ref a3, .ref a4, .int (nI 0)])), (a2, .inl (aT 0, 6, .inl (fun _ => nI 0))), (a3, .inl (aT 0, 6, .inl (fun _ => nI 0))), (a4, .inl (aT 0, 6, .inl (fun _ => nI 0))), (a5, .inr (8, [.ref a6, .ref a7, .ref a8, .ref a9, .int (nI 0), .int (nI 0)])), (a6, .inl (aT 0, 12, .inl (fun _ => nI 0))), (a7, .inl (aT 0, 12, .inl (fun _ => nI 0))), (a8, .inl (aT 0, 12, .inl (fun _ => nI 0))), (a9, .inl (aT 0, 12, .inl (fun _ => nI 0))), (a10, .inl (aT 0, 4, .inl (fun _ => nI 0))), (v0, .inr (10, [.ref v1, .ref v5, .ref v10, .int (nI 0), .int (nI 0), .int (nI 0), .int (nI 0), .int (nI 0), .int (nI 0), .int (nI 0), .int (nI 0)])), (v1, .inr (6, [.ref v2, .ref v3, .ref v4, .int (nI 0)])), (v2, .inl (aT 0, 6, .inl (fun _ => nI 0))), (v3, .inl (aT 0, 6, .inl (fun _ => nI 0))), (v4, .inl (aT 0, 6, .inl (fun _ => nI 0))), (v5, .inr (8, [.ref v6, .ref v7, .ref v8, .ref v9, .int (nI 0), .int (nI 0)])), (v6, .inl (aT 0, 12, .inl (fun _ => nI 0))), (v7, .inl (aT 0, 12, .inl (fun _ => nI 0))), (v8, .inl (aT 0, 12, .inl (fun _ => nI 0))), (v9, .inl (aT 0, 12, .inl (fun _ => nI 0))), (v10, .inl (aT 0, 4, .inl (fun _ => nI 0)))] (qV D aT (fun W1 => True)) (fun _ => False) := by
  refine CxG.of RX9 (by decide +kernel) rfl (Nat.le_of_ble_eq_true rfl) ?_
  intro p e s m below meth c A ls C hml hl hA hr hlocks hex hnm hZ hW
  have hl : lv_has ls 1 [(0, .ref x0)] := hl
  have hx := C.1
  have hb := C.2.1
  refine lv_aload_n hx hb dX9_save_0 rfl (lv_at hl 0 rfl) ?_
  refine cx_get C hW 0 1 rfl rfl (by decide) inX9 gw_347 rfl rfl dX9_save_1 ?_
  refine lv_aload_n hx hb dX9_save_4 rfl (lv_at hl 0 rfl) ?_
  refine cx_get C hW 0 0 rfl rfl (by decide) inX9 gw_346 rfl rfl dX9_save_5 ?_
  refine cx_callv (Wr := [(x0, .inr (12, [.ref a0, .ref v0, .ref h0, .ref t0, .ref p0, .ref o0, .int (nI 0), .int (-1), .int (-1)]))]) (cx_runV C hml hl.1 hZ hW hA (As := [.ref a0]) (rest := []) (k_X7_copyFrom l hfl D aT a0 a1 a2 a3 a4 a5 a6 a7 a8 a9 a10 (fun _ => nI 0) (fun _ => nI 0) (fun _ => nI 0) (fun _ => nI 0) (fun _ => nI 0) (fun _ => nI 0) (fun _ => nI 0) (fun _ => nI 0) (nI 0) (nI 0) (nI 0) (nI 0) (nI 0) (nI 0) (nI 0) (nI 0) (nI 0) (nI 0) (nI 0) v0 v1 v2 v3 v4 v5 v6 v7 v8 v9 v10 (fun _ => nI 0) (fun _ => nI 0) (fun _ => nI 0) (fun _ => nI 0) (fun _ => nI 0) (fun _ => nI 0) (fun _ => nI 0) (fun _ => nI 0) (nI 0) (nI 0) (nI 0) (nI 0) (nI 0) (nI 0) (nI 0) (nI 0) (nI 0) (nI 0) (nI 0)) gV_X9_X7_copyFrom_315 hV_X7_copyFrom rfl ⟨Nat.le_of_ble_eq_true rfl, Nat.le_of_ble_eq_true rfl⟩ ⟨Nat.le_of_ble_eq_true rfl, Nat.le_of_ble_eq_true rfl⟩ [1, 2, 3, 4, 5, 6, 7, 8, 9, 10, 11, 12, 13, 14, 15, 16, 17, 18, 19, 20, 21, 22] rfl (by decide) 12 10 rfl rfl rfl rfl (Nat.le_of_ble_eq_true rfl) dX9_save_8) hW hA [1, 2, 3, 4, 5, 6, 7, 8, 9, 10, 11, 12, 13, 14, 15, 16, 17, 18, 19, 20, 21, 22] [0] rfl rfl (by decide) (by decide) (fun _ _ _ _ _ h9 => h9.elim) (fun W_8 H locs hq hW => ?_)
  subst hq
  have hW : CxB D [(x0, .inr (12, [.ref a0, .ref v0, .ref h0, .ref t0, .ref p0, .ref o0, .int (nI 0), .int (-1), .int (-1)])), (a0, .inr (10, [.ref a1, .ref a5, .ref a10, .int (nI 0), .int (nI 0), .int (nI 0), .int (nI 0), .int (nI 0), .int (nI 0), .int (nI 0), .int (nI 0)])), (a10, .inl (aT 0, 4, .inl (fun _ => nI 0))), (v0, .inr (10, [.ref v1, .ref v5, .ref v10, .int (nI 0), .int (nI 0), .int (nI 0), .int (nI 0), .int (nI 0), .int (nI 0), .int (nI 0), .int (nI 0)])), (v10, .inl (aT 0, 4, .inl (va_cpy (fun _ => nI 0) (fun _ => nI 0) 0 0 4))), (a1, .inr (6, [.ref a2, .ref a3, .ref a4, .int (nI 0)])), (a2, .inl (aT 0, 6, .inl (fun _ => nI 0))), (a3, .inl (aT 0, 6, .inl (fun _ => nI 0))), (a4, .inl (aT 0, 6, .inl (fun _ => nI 0))), (v1, .inr (6, [.ref v2, .ref v3, .ref v4, .int (nI 0)])), (v2, .inl (aT 0, 6, .inl (va_cpy (fun _ => nI 0) (fun _ => nI 0) 0 0 6))), (v3, .inl (aT 0, 6, .inl (va_cpy (fun _ => nI 0) (fun _ => nI 0) 0 0 6))), (v4, .inl (aT 0, 6, .inl (va_cpy (fun _ => nI 0) (fun _ => nI 0) 0 0 6))), (a5, .inr (8, [.ref a6, .ref a7, .ref a8, .ref a9, .int (nI 0), .int (nI 0)])), (a6, .inl (aT 0, 12, .inl (fun _ => nI 0))), (a7, .inl (aT 0, 12, .inl (fun _ => nI 0))), (a8, .inl (aT 0, 12, .inl (fun _ => nI 0))), (a9, .inl (aT 0, 12, .inl (fun _ => nI 0))), (v5, .inr (8, [.ref v6, .ref v7, .ref v8, .ref v9, .int (nI 0), .int (nI 0)])), (v6, .inl (aT 0, 12, .inl (va_cpy (fun _ => nI 0) (fun _ => nI 0) 0 0 12))), (v7, .inl (aT 0, 12, .inl (va_cpy (fun _ => nI 0) (fun _ => nI 0) 0 0 12))), (v8, .inl (aT 0, 12, .inl (va_cpy (fun _ => nI 0) (fun _ => nI 0) 0 0 12))), (v9, .inl (aT 0, 12, .inl (va_cpy (fun _ => nI 0) (fun _ => nI 0) 0 0 12)))] A s.heap H _ := hW
  refine lv_aload_n hx hb dX9_save_11 rfl (lv_at hl 0 rfl) ?_
  refine lv_iconst (v := nI 1) hx hb dX9_save_12 (by decide) ?_
  refine cx_put C hW 0 6 (W1 := [(x0, .inr (12, [.ref a0, .ref v0, .ref h0, .ref t0, .ref p0, .ref o0, .int (nI 1), .int (-1), .int (-1)])), (a0, .inr (10, [.ref a1, .ref a5, .ref a10, .int (nI 0), .int (nI 0), .int (nI 0), .int (nI 0), .int (nI 0), .int (nI 0), .int (nI 0), .int (nI 0)])), (a10, .inl (aT 0, 4, .inl (fun _ => nI 0))), (v0, .inr (10, [.ref v1, .ref v5, .ref v10, .int (nI 0), .int (nI 0), .int (nI 0), .int (nI 0), .int (nI 0), .int (nI 0), .int (nI 0), .int (nI 0)])), (v10, .inl (aT 0, 4, .inl (va_cpy (fun _ => nI 0) (fun _ => nI 0) 0 0 4))), (a1, .inr (6, [.ref a2, .ref a3, .ref a4, .int (nI 0)])), (a2, .inl (aT 0, 6, .inl (fun _ => nI 0))), (a3, .inl (aT 0, 6, .inl (fun _ => nI 0))), (a4, .inl (aT 0, 6, .inl (fun _ => nI 0))), (v1, .inr (6, [.ref v2, .ref v3, .ref v4, .int (nI 0)])), (v2, .inl (aT 0, 6, .inl (va_cpy (fun _ => nI 0) (fun _ => nI 0) 0 0 6))), (v3, .inl (aT 0, 6, .inl (va_cpy (fun _ => nI 0) (fun _ => nI 0) 0 0 6))), (v4, .inl (aT 0, 6, .inl (va_cpy (fun _ => nI 0) (fun _ => nI 0) 0 0 6))), (a5, .inr (8, [.ref a6, .ref a7, .ref a8, .ref a9, .int (nI 0), .int (nI 0)])), (a6, .inl (aT 0, 12, .inl (fun _ => nI 0))), (a7, .inl (aT 0, 12, .inl (fun _ => nI 0))), (a8, .inl (aT 0, 12, .inl (fun _ => nI 0))), (a9, .inl (aT 0, 12, .inl (fun _ => nI 0))), (v5, .inr (8, [.ref v6, .ref v7, .ref v8, .ref v9, .int (nI 0), .int (nI 0)])), (v6, .inl (aT 0, 12, .inl (va_cpy (fun _ => nI 0) (fun _ => nI 0) 0 0 12))), (v7, .inl (aT 0, 12, .inl (va_cpy (fun _ => nI 0) (fun _ => nI 0) 0 0 12))), (v8, .inl (aT 0, 12, .inl (va_cpy (fun _ => nI 0) (fun _ => nI 0) 0 0 12))), (v9, .inl (aT 0, 12, .inl (va_cpy (fun _ => nI 0) (fun _ => nI 0) 0 0 12)))]) rfl rfl (by decide) inX9 tyX9 tyX9_ok nmX9 gw_352 rfl rfl rfl (by decide) (by decide) (Nat.le_of_ble_eq_true rfl) rfl dX9_save_13 (fun H locs hW => ?_)
  exact cx_vret C hr hlocks hW ⟨Nat.le_of_ble_eq_true rfl, Nat.le_of_ble_eq_true rfl⟩ (trivial) dX9_save_16
theorem dX9_restore_0 : decode cX9_restore 0 = .ok (.aload_n 0, 1) := by decide +kernel
theorem dX9_restore_1 : decode cX9_restore 1 = .ok (.getfield 47, 3) := by decide +kernel
theorem dX9_restore_4 : decode cX9_restore 4 = .ok (.ifCond .ne 14, 3) := by decide +kernel
theorem dX9_restore_7 : decode cX9_restore 7 = .ok (.new 252, 3) := by decide +kernel
theorem dX9_restore_10 : decode cX9_restore 10 = .ok (.dup, 1) := by decide +kernel
theorem dX9_restore_11 : decode cX9_restore 11 = .ok (.ldc_w 318, 3) := by decide +kernel
theorem dX9_restore_14 : decode cX9_restore 14 = .ok (.invokespecial 256, 3) := by decide +kernel
theorem dX9_restore_17 : decode cX9_restore 17 = .ok (.athrow, 1) := by decide +kernel
theorem dX9_restore_18 : decode cX9_restore 18 = .ok (.aload_n 0, 1) := by decide +kernel
theorem dX9_restore_19 : decode cX9_restore 19 = .ok (.getfield 10, 3) := by decide +kernel
theorem dX9_restore_22 : decode cX9_restore 22 = .ok (.aload_n 0, 1) := by decide +kernel
theorem dX9_restore_23 : decode cX9_restore 23 = .ok (.getfield 16, 3) := by decide +kernel
theorem dX9_restore_26 : decode cX9_restore 26 = .ok (.invokevirtual 315, 3) := by decide +kernel
theorem dX9_restore_29 : decode cX9_restore 29 = .ok (.aload_n 0, 1) := by decide +kernel
theorem dX9_restore_30 : decode cX9_restore 30 = .ok (.getfield 22, 3) := by decide +kernel
theorem dX9_restore_33 : decode cX9_restore 33 = .ok (.iconst 0, 1) := by decide +kernel
theorem dX9_restore_34 : decode cX9_restore 34 = .ok (.putfield 308, 3) := by decide +kernel
theorem dX9_restore_37 : decode cX9_restore 37 = .ok (.return_, 1) := by decide +kernel
set_option maxHeartbeats 2000000 in
set_option maxRecDepth 20000 in
theorem k_X9_restore (l : Launch) (hfl : l.stackTraces = false) (D : va_G) (aT : Nat → ClassId) (x0 : Nat) (v0 : Nat) (h0 : Nat) (t0 : Nat) (p0 : Nat) (o0 : Nat) (a0 : Nat) : CxG l yX9_restore cX9_restore 1 none 6 1 6 90 D aT [.ref x0] [(x0, .inr (12, [.ref a0, .ref v0, .ref h0, .ref t0, .ref p0, .ref o0, .int (nI 0), .int (-1), .int (-1)]))] (qV D aT (fun _ => False)) (fun E => E = "java/lang/IllegalStateException") := by
  refine CxG.of RX9 (by decide +kernel) rfl (Nat.le_of_ble_eq_true rfl) ?_
  intro p e s m below meth c A ls C hml hl hA hr hlocks hex hnm hZ hW
  have hl : lv_has ls 1 [(0, .ref x0)] := hl
  have hx := C.1
  have hb := C.2.1
  refine lv_aload_n hx hb dX9_restore_0 rfl (lv_at hl 0 rfl) ?_
  refine cx_get C hW 0 6 rfl rfl (by decide) inX9 gw_352 rfl rfl dX9_restore_1 ?_
  refine lv_if_ne hx hb (x := (nI 0)) (tgt := 18) dX9_restore_4 (by decide) (fun c_4 => ?_) (fun c_4 => ?_)
  · exact absurd c_4 (by decide)
  · exact cx_throwW C hfl hex hml hl.1 hlocks hZ hW at_X9_IllegalStateException (List.mem_of_getElem? (i := 24) rfl) gw_1098 gw_87 (by decide +kernel) dX9_restore_7 dX9_restore_10 dX9_restore_11 dX9_restore_14 dX9_restore_17 ⟨Nat.le_of_ble_eq_true rfl, Nat.le_of_ble_eq_true rfl, Nat.le_of_ble_eq_true rfl, Nat.le_of_ble_eq_true rfl⟩ ⟨Nat.le_of_ble_eq_true rfl, Nat.le_of_ble_eq_true rfl⟩ (rfl)
