theorem gT_of : GoodIn gw (wsV RX10 67 RX10 yX10_of (Cond.code yX10_of cX10_of 3 (some .int) :: gw)) := gdV gw_1749 gw_1751 gw_29 gw_81 gw_1752
theorem hd_of : yX10_of.cls = RX10 ∧ yX10_of.cls ≠ "java/lang/invoke/MethodHandle" ∧ yX10_of.cls ≠ "java/lang/invoke/VarHandle" ∧ (parseMethodDescriptor yX10_of.desc).map (fun d => d.parameters.length) = some 2 := ⟨rfl, by decide +kernel, by decide +kernel, by decide +kernel⟩
theorem dX10_of_0 : decode cX10_of 0 = .ok (.aload_n 0, 1) := by decide +kernel
theorem dX10_of_1 : decode cX10_of 1 = .ok (.getfield 9, 3) := by decide +kernel
theorem dX10_of_4 : decode cX10_of 4 = .ok (.bipush 29, 2) := by decide +kernel
theorem dX10_of_6 : decode cX10_of 6 = .ok (.iconst 4, 1) := by decide +kernel
theorem dX10_of_7 : decode cX10_of 7 = .ok (.iload_n 1, 1) := by decide +kernel
theorem dX10_of_8 : decode cX10_of 8 = .ok (.imul, 1) := by decide +kernel
theorem dX10_of_9 : decode cX10_of 9 = .ok (.iadd, 1) := by decide +kernel
theorem dX10_of_10 : decode cX10_of 10 = .ok (.iload_n 2, 1) := by decide +kernel
theorem dX10_of_11 : decode cX10_of 11 = .ok (.iadd, 1) := by decide +kernel
theorem dX10_of_12 : decode cX10_of 12 = .ok (.iaload, 1) := by decide +kernel
theorem dX10_of_13 : decode cX10_of 13 = .ok (.ireturn, 1) := by decide +kernel
set_option maxHeartbeats 1000000 in
set_option maxRecDepth 20000 in
theorem m_of (l : Launch) (D : va_G) (aT : Nat → ClassId) (ad : Nat → Nat) (S : MSt) (k w : Nat) (h : 29 + 4 * k + w < 77) : MdG l yX10_of cX10_of 3 .int 0 0 D aT ad [.ref (ad 0), .int (nI k), .int (nI w)] S (fun r => r = S 0 (29 + 4 * k + w)) := by
  refine MdI.of (by decide +kernel) rfl (Nat.le_of_ble_eq_true rfl) ?_
  intro p e s m below meth c A ls C hml hl hA hr hlocks hW
  have hl : lv_has ls 3 [(0, .ref (ad 0)), (1, .int (nI k)), (2, .int (nI w))] := hl
  have hx := C.1
  have hb := C.2.1
  refine lv_aload_n hx hb dX10_of_0 rfl (lv_at hl 0 rfl) ?_
  refine md_geta_m C hW dX10_of_1 ?_
  refine lv_bipush (v := nI 29) hx hb dX10_of_4 (by decide) ?_
  refine lv_iconst (v := nI 4) hx hb dX10_of_6 (by decide) ?_
  refine lv_iload_n hx hb dX10_of_7 rfl (lv_at hl 1 rfl) ?_
  refine r_imulN hx hb (a := 4) (b := k) dX10_of_8 ?_
  refine r_iaddN hx hb (a := 29) (b := 4 * k) dX10_of_9 ?_
  refine lv_iload_n hx hb dX10_of_10 rfl (lv_at hl 2 rfl) ?_
  refine r_iaddN hx hb (a := 29 + (4 * k)) (b := w) dX10_of_11 ?_
  refine md_ald_m C hW (i := (29 + (4 * k)) + w) (h) dX10_of_12 ?_
  exact md_iret C hr hlocks rfl hW (⟨rfl, rfl⟩) dX10_of_13
theorem gT_find : GoodIn gw (wsV RX10 71 RX10 yX10_find (Cond.code yX10_find cX10_find 3 (some .int) :: gw)) := gdV gw_1745 gw_1747 gw_28 gw_81 gw_1748
theorem hd_find : yX10_find.cls = RX10 ∧ yX10_find.cls ≠ "java/lang/invoke/MethodHandle" ∧ yX10_find.cls ≠ "java/lang/invoke/VarHandle" ∧ (parseMethodDescriptor yX10_find.desc).map (fun d => d.parameters.length) = some 1 := ⟨rfl, by decide +kernel, by decide +kernel, by decide +kernel⟩
theorem dX10_find_0 : decode cX10_find 0 = .ok (.iconst 0, 1) := by decide +kernel
theorem dX10_find_1 : decode cX10_find 1 = .ok (.istore_n 2, 1) := by decide +kernel
theorem dX10_find_2 : decode cX10_find 2 = .ok (.iload_n 2, 1) := by decide +kernel
theorem dX10_find_3 : decode cX10_find 3 = .ok (.aload_n 0, 1) := by decide +kernel
theorem dX10_find_4 : decode cX10_find 4 = .ok (.getfield 9, 3) := by decide +kernel
theorem dX10_find_7 : decode cX10_find 7 = .ok (.iconst 2, 1) := by decide +kernel
theorem dX10_find_8 : decode cX10_find 8 = .ok (.iaload, 1) := by decide +kernel
theorem dX10_find_9 : decode cX10_find 9 = .ok (.if_icmp .ge 21, 3) := by decide +kernel
theorem dX10_find_12 : decode cX10_find 12 = .ok (.aload_n 0, 1) := by decide +kernel
theorem dX10_find_13 : decode cX10_find 13 = .ok (.iload_n 2, 1) := by decide +kernel
theorem dX10_find_14 : decode cX10_find 14 = .ok (.iconst 0, 1) := by decide +kernel
theorem dX10_find_15 : decode cX10_find 15 = .ok (.invokevirtual 67, 3) := by decide +kernel
theorem dX10_find_18 : decode cX10_find 18 = .ok (.iload_n 1, 1) := by decide +kernel
theorem dX10_find_19 : decode cX10_find 19 = .ok (.if_icmp .ne 5, 3) := by decide +kernel
theorem dX10_find_22 : decode cX10_find 22 = .ok (.iload_n 2, 1) := by decide +kernel
theorem dX10_find_23 : decode cX10_find 23 = .ok (.ireturn, 1) := by decide +kernel
theorem dX10_find_24 : decode cX10_find 24 = .ok (.iinc 2 1, 3) := by decide +kernel
theorem dX10_find_27 : decode cX10_find 27 = .ok (.goto (-25), 3) := by decide +kernel
theorem dX10_find_30 : decode cX10_find 30 = .ok (.iconst (-1), 1) := by decide +kernel
theorem dX10_find_31 : decode cX10_find 31 = .ok (.ireturn, 1) := by decide +kernel
set_option maxHeartbeats 1000000 in
set_option maxRecDepth 20000 in
theorem m_find (l : Launch) (D : va_G) (aT : Nat → ClassId) (ad : Nat → Nat) (S : MSt) (x : Int32) (n : Nat) (hn : S 0 2 = nI n) (h12 : n ≤ 12) : MdG l yX10_find cX10_find 3 .int 1 22 D aT ad [.ref (ad 0), .int x] S (fun r => r = oi (fnd (fun k => S 0 (29 + 4 * k)) x n)) := by
  refine MdI.of (by decide +kernel) rfl (Nat.le_of_ble_eq_true rfl) ?_
  intro p e s m below meth c A ls C hml hl hA hr hlocks hW
  have hl : lv_has ls 3 [(0, .ref (ad 0)), (1, .int x)] := hl
  have hx := C.1
  have hb := C.2.1
  refine lv_iconst (v := nI 0) hx hb dX10_find_0 (by decide) ?_
  refine lv_istore_n (lv' := [(2, .int (nI 0)), (0, .ref (ad 0)), (1, .int x)]) hx hb dX10_find_1 rfl hl (by decide) rfl (fun ls hl => ?_)
  refine W_loopH (σ := Nat) (fun z_ => n - z_) (fun z_ H locs g => ∃ ls, g = F0 m 2 ls [] ∧ lv_has ls 3 [(0, .ref (ad 0)), (1, .int x), (2, .int (nI z_))] ∧ MdB D aT ad S A s.heap H locs ∧ (fnd (fun k => S 0 (29 + 4 * k)) x z_ = none ∧ z_ ≤ n)) ?_ 0 _ ⟨_, rfl, lv_sub hl [1, 2, 0] rfl, hW, ⟨rfl, Nat.zero_le _⟩⟩
  clear hW hl
  rintro k H locs g ⟨ls, rfl, hl, hW, hk, hkn⟩ ih
  refine lv_iload_n hx hb dX10_find_2 rfl (lv_at hl 2 rfl) ?_
  refine lv_aload_n hx hb dX10_find_3 rfl (lv_at hl 0 rfl) ?_
  refine md_geta_m C hW dX10_find_4 ?_
  refine lv_iconst (v := nI 2) hx hb dX10_find_7 (by decide) ?_
  refine md_ald_m C hW (i := 2) (by omega) dX10_find_8 ?_
  refine r_eq (hn) ?_
  refine r_geN hx hb (a := k) (b := n) (by omega) (by omega) (tgt := 30) dX10_find_9 (by decide) (fun c_9 => ?_) (fun c_9 => ?_)
  · refine lv_iconst (v := (-1)) hx hb dX10_find_30 (by decide) ?_
    exact md_iret C hr hlocks rfl hW (⟨by rw [show n = k by omega, hk]; rfl, rfl⟩) dX10_find_31
  · refine lv_aload_n hx hb dX10_find_12 rfl (lv_at hl 0 rfl) ?_
    refine lv_iload_n hx hb dX10_find_13 rfl (lv_at hl 2 rfl) ?_
    refine lv_iconst (v := nI 0) hx hb dX10_find_14 (by decide) ?_
    refine md_callg C hml hl.1 (As := [.int (nI k), .int (nI 0)]) (rest := []) (m_of l D aT ad S k 0 (by omega)) gT_of hd_of rfl ⟨Nat.le_of_ble_eq_true rfl, Nat.le_of_ble_eq_true rfl⟩ ⟨Nat.le_refl _, Nat.le_refl _⟩ hW hA rfl (Nat.le_of_ble_eq_true rfl) dX10_find_15 (fun r_15 H locs hq hW => ?_)
    subst hq
    refine lv_iload_n hx hb dX10_find_18 rfl (lv_at hl 1 rfl) ?_
    refine lv_icmp_ne hx hb (x := (S 0 (29 + 4 * k + 0))) (y := x) (tgt := 24) dX10_find_19 (by decide) (fun c_19 => ?_) (fun c_19 => ?_)
    · refine lv_iinc (v := (nI (k + 1))) (lv' := [(2, .int (nI (k + 1))), (0, .ref (ad 0)), (1, .int x)]) hx hb dX10_find_24 hl (k := 2) rfl (nI_1 _) (by decide) rfl (fun ls hl => ?_)
      refine lv_goto (tgt := 2) hx hb dX10_find_27 (by decide) ?_
      exact ih (k + 1) _ _ _ (by omega) ⟨_, rfl, lv_sub hl [1, 2, 0] rfl, hW, ⟨fnd_step hk c_19, by omega⟩⟩
    · refine lv_iload_n hx hb dX10_find_22 rfl (lv_at hl 2 rfl) ?_
      exact md_iret C hr hlocks rfl hW (⟨by rw [fnd_hit hk c_19 (show k < n by omega)]; rfl, rfl⟩) dX10_find_23
theorem gT_above : GoodIn gw (wsV RX10 75 RX10 yX10_above (Cond.code yX10_above cX10_above 2 (some .int) :: gw)) := gdV gw_1765 gw_1767 gw_32 gw_81 gw_1768
theorem hd_above : yX10_above.cls = RX10 ∧ yX10_above.cls ≠ "java/lang/invoke/MethodHandle" ∧ yX10_above.cls ≠ "java/lang/invoke/VarHandle" ∧ (parseMethodDescriptor yX10_above.desc).map (fun d => d.parameters.length) = some 1 := ⟨rfl, by decide +kernel, by decide +kernel, by decide +kernel⟩
theorem dX10_above_0 : decode cX10_above 0 = .ok (.aload_n 0, 1) := by decide +kernel
theorem dX10_above_1 : decode cX10_above 1 = .ok (.iload_n 1, 1) := by decide +kernel
theorem dX10_above_2 : decode cX10_above 2 = .ok (.iconst 1, 1) := by decide +kernel
theorem dX10_above_3 : decode cX10_above 3 = .ok (.invokevirtual 67, 3) := by decide +kernel
theorem dX10_above_6 : decode cX10_above 6 = .ok (.iconst (-1), 1) := by decide +kernel
theorem dX10_above_7 : decode cX10_above 7 = .ok (.if_icmp .ne 7, 3) := by decide +kernel
theorem dX10_above_10 : decode cX10_above 10 = .ok (.iconst (-1), 1) := by decide +kernel
theorem dX10_above_11 : decode cX10_above 11 = .ok (.goto 13, 3) := by decide +kernel
theorem dX10_above_14 : decode cX10_above 14 = .ok (.aload_n 0, 1) := by decide +kernel
theorem dX10_above_15 : decode cX10_above 15 = .ok (.aload_n 0, 1) := by decide +kernel
theorem dX10_above_16 : decode cX10_above 16 = .ok (.iload_n 1, 1) := by decide +kernel
theorem dX10_above_17 : decode cX10_above 17 = .ok (.iconst 1, 1) := by decide +kernel
theorem dX10_above_18 : decode cX10_above 18 = .ok (.invokevirtual 67, 3) := by decide +kernel
theorem dX10_above_21 : decode cX10_above 21 = .ok (.invokevirtual 71, 3) := by decide +kernel
theorem dX10_above_24 : decode cX10_above 24 = .ok (.ireturn, 1) := by decide +kernel
set_option maxHeartbeats 1000000 in
set_option maxRecDepth 20000 in
theorem m_above (l : Launch) (D : va_G) (aT : Nat → ClassId) (ad : Nat → Nat) (S : MSt) (n : Nat) (idn : Nat → Nat) (pr : Nat → Option Nat) (tn : Nat → Nat) (hF : FoR (S 0) n idn pr tn) (k : Nat) (hk : k < n) : MdG l yX10_above cX10_above 2 .int 2 44 D aT ad [.ref (ad 0), .int (nI k)] S (fun r => r = oi (pr k)) := by
  refine MdI.of (by decide +kernel) rfl (Nat.le_of_ble_eq_true rfl) ?_
  intro p e s m below meth c A ls C hml hl hA hr hlocks hW
  have hl : lv_has ls 2 [(0, .ref (ad 0)), (1, .int (nI k))] := hl
  have hx := C.1
  have hb := C.2.1
  refine lv_aload_n hx hb dX10_above_0 rfl (lv_at hl 0 rfl) ?_
  refine lv_iload_n hx hb dX10_above_1 rfl (lv_at hl 1 rfl) ?_
  refine lv_iconst (v := nI 1) hx hb dX10_above_2 (by decide) ?_
  refine md_callg C hml hl.1 (As := [.int (nI k), .int (nI 1)]) (rest := []) (m_of l D aT ad S k 1 (by have := hF.2.1; omega)) gT_of hd_of rfl ⟨Nat.le_of_ble_eq_true rfl, Nat.le_of_ble_eq_true rfl⟩ ⟨Nat.le_refl _, Nat.le_refl _⟩ hW hA rfl (Nat.le_of_ble_eq_true rfl) dX10_above_3 (fun r_3 H locs hq hW => ?_)
  subst hq
  refine r_eq (hF.2.2.2.1 k hk) ?_
  refine lv_iconst (v := (-1)) hx hb dX10_above_6 (by decide) ?_
  refine r_oi_ne hx hb (o := ((pr k).map idn)) (hF.pid hk) (tgt := 14) dX10_above_7 (by decide) (fun j_7 c_7 => ?_) (fun c_7 => ?_)
  · refine lv_aload_n hx hb dX10_above_14 rfl (lv_at hl 0 rfl) ?_
    refine lv_aload_n hx hb dX10_above_15 rfl (lv_at hl 0 rfl) ?_
    refine lv_iload_n hx hb dX10_above_16 rfl (lv_at hl 1 rfl) ?_
    refine lv_iconst (v := nI 1) hx hb dX10_above_17 (by decide) ?_
    refine md_callg C hml hl.1 (As := [.int (nI k), .int (nI 1)]) (rest := [.ref (ad 0)]) (m_of l D aT ad S k 1 (by have := hF.2.1; omega)) gT_of hd_of rfl ⟨Nat.le_of_ble_eq_true rfl, Nat.le_of_ble_eq_true rfl⟩ ⟨Nat.le_refl _, Nat.le_refl _⟩ hW hA rfl (Nat.le_of_ble_eq_true rfl) dX10_above_18 (fun r_18 H locs hq hW => ?_)
    subst hq
    refine r_eq (hF.2.2.2.1 k hk) ?_
    refine md_callg C hml hl.1 (As := [.int (oi ((pr k).map idn))]) (rest := []) (m_find l D aT ad S ((oi ((pr k).map idn))) n hF.1 hF.2.1) gT_find hd_find rfl ⟨Nat.le_of_ble_eq_true rfl, Nat.le_of_ble_eq_true rfl⟩ ⟨Nat.le_refl _, Nat.le_refl _⟩ hW hA rfl (Nat.le_of_ble_eq_true rfl) dX10_above_21 (fun r_21 H locs hq hW => ?_)
    subst hq
    exact md_iret C hr hlocks rfl hW (⟨by rw [hF.findPar hk c_7], rfl⟩) dX10_above_24
  · refine lv_iconst (v := (-1)) hx hb dX10_above_10 (by decide) ?_
    refine lv_goto (tgt := 24) hx hb dX10_above_11 (by decide) ?_
    exact md_iret C hr hlocks rfl hW (⟨by rw [show pr k = none by simpa using c_7]; rfl, rfl⟩) dX10_above_24
