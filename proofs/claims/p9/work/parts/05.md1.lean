theorem gT_of : GoodIn gw (wsV RX10 67 RX10 yX10_of (Cond.code yX10_of cX10_of 3 (some .int) :: gw)) := gdV gw_1755 gw_1757 gw_29 gw_81 gw_1758
theorem hd_of : yX10_of.cls = RX10 ∧ yX10_of.cls ≠ "java/lang/invoke/MethodHandle" ∧ yX10_of.cls ≠ "java/lang/invoke/VarHandle" ∧ (parseMethodDescriptor yX10_of.desc).map (fun d => d.parameters.length) = some 2 := ⟨rfl, by decide +kernel, by decide +kernel, by decide +kernel⟩
theorem dX10_of_0 : decode cX10_of 0 = .ok (.aload_n 0, 1) := by decide +kernel
theorem dX10_of_1 : decode cX10_of 1 = .ok (.getfield 9, 3) := by decide +kernel
theorem dX10_of_4 : decode cX10_of 4 = .ok (.bipush 29, 2) := by decide +kernel
theorem dX10_of_6 : decode cX10_of 6 = .ok (.iconst 4, 1) := by decide +kernel
theorem dX10_of_7 : decode cX10_of 7 = .ok (.iload_n 1, 1) := by decide +kernel
theorem dX10_of_8 : decode cX10_of 8 = .ok (.imul, 1) := by decide +kernel
theorem dX10_of_9 : decode cX10_of 9 = .ok (.iadd, 1) := by decide +kernel
theorem dX10_of_10 : decode cX10_of 10 = .ok (.iload_n 2, 1) := by decide +kernel
theorem dX10_of_11 : decode cX10_of 11 = .ok (.iadd, 1) := by decide +kernel
theorem dX10_of_12 : decode cX10_of 12 = .ok (.iaload, 1) := by decide +kernel
theorem dX10_of_13 : decode cX10_of 13 = .ok (.ireturn, 1) := by decide +kernel
set_option maxHeartbeats 1000000 in
set_option maxRecDepth 20000 in
theorem m_of (l : Launch) (D : va_G) (aT : Nat → ClassId) (ad : Nat → Nat) (S : MSt) (k w : Nat) (h : 29 + 4 * k + w < 77) : MdG l yX10_of cX10_of 3 .int 0 0 D aT ad [.ref (ad 0), .int (nI k), .int (nI w)] S (fun r => r = S 0 (29 + 4 * k + w)) := by
  refine MdI.of (by decide +kernel) rfl (Nat.le_of_ble_eq_true rfl) ?_
  intro p e s m below meth c A ls C hml hl hA hr hlocks hW
  have hl : lv_has ls 3 [(0, .ref (ad 0)), (1, .int (nI k)), (2, .int (nI w))] := hl
  have hx := C.1
  have hb := C.2.1
  refine lv_aload_n hx hb dX10_of_0 rfl (lv_at hl 0 rfl) ?_
  refine md_geta_m C hW dX10_of_1 ?_
  refine lv_bipush (v := nI 29) hx hb dX10_of_4 (by decide) ?_
  refine lv_iconst (v := nI 4) hx hb dX10_of_6 (by decide) ?_
  refine lv_iload_n hx hb dX10_of_7 rfl (lv_at hl 1 rfl) ?_
  refine r_imulN hx hb (a := 4) (b := k) dX10_of_8 ?_
  refine r_iaddN hx hb (a := 29) (b := 4 * k) dX10_of_9 ?_
  refine lv_iload_n hx hb dX10_of_10 rfl (lv_at hl 2 rfl) ?_
  refine r_iaddN hx hb (a := 29 + 4 * k) (b := w) dX10_of_11 ?_
  refine md_ald_m C hW (i := 29 + 4 * k + w) (h) dX10_of_12 ?_
  exact md_iret C hr hlocks rfl hW (⟨rfl, rfl⟩) dX10_of_13
theorem gT_find : GoodIn gw (wsV RX10 71 RX10 yX10_find (Cond.code yX10_find cX10_find 3 (some .int) :: gw)) := gdV gw_1751 gw_1753 gw_28 gw_81 gw_1754
theorem hd_find : yX10_find.cls = RX10 ∧ yX10_find.cls ≠ "java/lang/invoke/MethodHandle" ∧ yX10_find.cls ≠ "java/lang/invoke/VarHandle" ∧ (parseMethodDescriptor yX10_find.desc).map (fun d => d.parameters.length) = some 1 := ⟨rfl, by decide +kernel, by decide +kernel, by decide +kernel⟩
theorem dX10_find_0 : decode cX10_find 0 = .ok (.iconst 0, 1) := by decide +kernel
theorem dX10_find_1 : decode cX10_find 1 = .ok (.istore_n 2, 1) := by decide +kernel
theorem dX10_find_2 : decode cX10_find 2 = .ok (.iload_n 2, 1) := by decide +kernel
theorem dX10_find_3 : decode cX10_find 3 = .ok (.aload_n 0, 1) := by decide +kernel
theorem dX10_find_4 : decode cX10_find 4 = .ok (.getfield 9, 3) := by decide +kernel
theorem dX10_find_7 : decode cX10_find 7 = .ok (.iconst 2, 1) := by decide +kernel
theorem dX10_find_8 : decode cX10_find 8 = .ok (.iaload, 1) := by decide +kernel
theorem dX10_find_9 : decode cX10_find 9 = .ok (.if_icmp .ge 21, 3) := by decide +kernel
theorem dX10_find_12 : decode cX10_find 12 = .ok (.aload_n 0, 1) := by decide +kernel
theorem dX10_find_13 : decode cX10_find 13 = .ok (.iload_n 2, 1) := by decide +kernel
theorem dX10_find_14 : decode cX10_find 14 = .ok (.iconst 0, 1) := by decide +kernel
theorem dX10_find_15 : decode cX10_find 15 = .ok (.invokevirtual 67, 3) := by decide +kernel
theorem dX10_find_18 : decode cX10_find 18 = .ok (.iload_n 1, 1) := by decide +kernel
theorem dX10_find_19 : decode cX10_find 19 = .ok (.if_icmp .ne 5, 3) := by decide +kernel
theorem dX10_find_22 : decode cX10_find 22 = .ok (.iload_n 2, 1) := by decide +kernel
theorem dX10_find_23 : decode cX10_find 23 = .ok (.ireturn, 1) := by decide +kernel
theorem dX10_find_24 : decode cX10_find 24 = .ok (.iinc 2 1, 3) := by decide +kernel
theorem dX10_find_27 : decode cX10_find 27 = .ok (.goto (-25), 3) := by decide +kernel
theorem dX10_find_30 : decode cX10_find 30 = .ok (.iconst (-1), 1) := by decide +kernel
theorem dX10_find_31 : decode cX10_find 31 = .ok (.ireturn, 1) := by decide +kernel
set_option maxHeartbeats 1000000 in
set_option maxRecDepth 20000 in
theorem m_find (l : Launch) (D : va_G) (aT : Nat → ClassId) (ad : Nat → Nat) (S : MSt) (x : Int32) (n : Nat) (hn : S 0 2 = nI n) (h12 : n ≤ 12) : MdG l yX10_find cX10_find 3 .int 1 22 D aT ad [.ref (ad 0), .int x] S (fun r => r = oi (fnd (fun k => S 0 (29 + 4 * k)) x n)) := by
  refine MdI.of (by decide +kernel) rfl (Nat.le_of_ble_eq_true rfl) ?_
  intro p e s m below meth c A ls C hml hl hA hr hlocks hW
  have hl : lv_has ls 3 [(0, .ref (ad 0)), (1, .int x)] := hl
  have hx := C.1
  have hb := C.2.1
  refine lv_iconst (v := nI 0) hx hb dX10_find_0 (by decide) ?_
  refine lv_istore_n (lv' := [(2, .int (nI 0)), (0, .ref (ad 0)), (1, .int x)]) hx hb dX10_find_1 rfl hl (by decide) rfl (fun ls hl => ?_)
  refine W_loopH (σ := Nat) (fun z_ => n - z_) (fun z_ H locs g => ∃ ls, g = F0 m 2 ls [] ∧ lv_has ls 3 [(0, .ref (ad 0)), (1, .int x), (2, .int (nI z_))] ∧ MdB D aT ad S A s.heap H locs ∧ (fnd (fun k => S 0 (29 + 4 * k)) x z_ = none ∧ z_ ≤ n)) ?_ 0 _ ⟨_, rfl, lv_sub hl [1, 2, 0] rfl, hW, ⟨rfl, Nat.zero_le _⟩⟩
  clear hW hl
  rintro k H locs g ⟨ls, rfl, hl, hW, hk, hkn⟩ ih_2
  refine lv_iload_n hx hb dX10_find_2 rfl (lv_at hl 2 rfl) ?_
  refine lv_aload_n hx hb dX10_find_3 rfl (lv_at hl 0 rfl) ?_
  refine md_geta_m C hW dX10_find_4 ?_
  refine lv_iconst (v := nI 2) hx hb dX10_find_7 (by decide) ?_
  refine md_ald_m C hW (i := 2) (by omega) dX10_find_8 ?_
  refine r_eq (y := (nI n)) (hn) ?_
  refine r_geN hx hb (a := k) (b := n) (by omega) (by omega) (tgt := 30) dX10_find_9 (by decide) (fun c_9 => ?_) (fun c_9 => ?_)
  · refine lv_iconst (v := (-1)) hx hb dX10_find_30 (by decide) ?_
    exact md_iret C hr hlocks rfl hW (⟨by rw [show n = k by omega, hk]; rfl, rfl⟩) dX10_find_31
  · refine lv_aload_n hx hb dX10_find_12 rfl (lv_at hl 0 rfl) ?_
    refine lv_iload_n hx hb dX10_find_13 rfl (lv_at hl 2 rfl) ?_
    refine lv_iconst (v := nI 0) hx hb dX10_find_14 (by decide) ?_
    refine md_callg C hml hl.1 (As := [.int (nI k), .int (nI 0)]) (rest := []) (m_of l D aT ad S k 0 (by omega)) gT_of hd_of rfl ⟨Nat.le_of_ble_eq_true rfl, Nat.le_of_ble_eq_true rfl⟩ ⟨Nat.le_refl _, Nat.le_refl _⟩ hW hA rfl (Nat.le_of_ble_eq_true rfl) dX10_find_15 (fun r_15 H locs hq hW => ?_)
    subst hq
    refine lv_iload_n hx hb dX10_find_18 rfl (lv_at hl 1 rfl) ?_
    refine lv_icmp_ne hx hb (x := (S 0 (29 + 4 * k + 0))) (y := x) (tgt := 24) dX10_find_19 (by decide) (fun c_19 => ?_) (fun c_19 => ?_)
    · refine lv_iinc (v := (nI (k + 1))) (lv' := [(2, .int (nI (k + 1))), (0, .ref (ad 0)), (1, .int x)]) hx hb dX10_find_24 hl (k := 2) rfl (nI_1 _) (by decide) rfl (fun ls hl => ?_)
      refine lv_goto (tgt := 2) hx hb dX10_find_27 (by decide) ?_
      exact ih_2 (k + 1) _ _ _ (by omega) ⟨_, rfl, lv_sub hl [1, 2, 0] rfl, hW, ⟨fnd_step hk c_19, by omega⟩⟩
    · refine lv_iload_n hx hb dX10_find_22 rfl (lv_at hl 2 rfl) ?_
      exact md_iret C hr hlocks rfl hW (⟨by rw [fnd_hit hk c_19 (show k < n by omega)]; rfl, rfl⟩) dX10_find_23
theorem gT_above : GoodIn gw (wsV RX10 75 RX10 yX10_above (Cond.code yX10_above cX10_above 2 (some .int) :: gw)) := gdV gw_1771 gw_1773 gw_32 gw_81 gw_1774
theorem hd_above : yX10_above.cls = RX10 ∧ yX10_above.cls ≠ "java/lang/invoke/MethodHandle" ∧ yX10_above.cls ≠ "java/lang/invoke/VarHandle" ∧ (parseMethodDescriptor yX10_above.desc).map (fun d => d.parameters.length) = some 1 := ⟨rfl, by decide +kernel, by decide +kernel, by decide +kernel⟩
theorem dX10_above_0 : decode cX10_above 0 = .ok (.aload_n 0, 1) := by decide +kernel
theorem dX10_above_1 : decode cX10_above 1 = .ok (.iload_n 1, 1) := by decide +kernel
theorem dX10_above_2 : decode cX10_above 2 = .ok (.iconst 1, 1) := by decide +kernel
theorem dX10_above_3 : decode cX10_above 3 = .ok (.invokevirtual 67, 3) := by decide +kernel
theorem dX10_above_6 : decode cX10_above 6 = .ok (.iconst (-1), 1) := by decide +kernel
theorem dX10_above_7 : decode cX10_above 7 = .ok (.if_icmp .ne 7, 3) := by decide +kernel
theorem dX10_above_10 : decode cX10_above 10 = .ok (.iconst (-1), 1) := by decide +kernel
theorem dX10_above_11 : decode cX10_above 11 = .ok (.goto 13, 3) := by decide +kernel
theorem dX10_above_14 : decode cX10_above 14 = .ok (.aload_n 0, 1) := by decide +kernel
theorem dX10_above_15 : decode cX10_above 15 = .ok (.aload_n 0, 1) := by decide +kernel
theorem dX10_above_16 : decode cX10_above 16 = .ok (.iload_n 1, 1) := by decide +kernel
theorem dX10_above_17 : decode cX10_above 17 = .ok (.iconst 1, 1) := by decide +kernel
theorem dX10_above_18 : decode cX10_above 18 = .ok (.invokevirtual 67, 3) := by decide +kernel
theorem dX10_above_21 : decode cX10_above 21 = .ok (.invokevirtual 71, 3) := by decide +kernel
theorem dX10_above_24 : decode cX10_above 24 = .ok (.ireturn, 1) := by decide +kernel
set_option maxHeartbeats 1000000 in
set_option maxRecDepth 20000 in
theorem m_above (l : Launch) (D : va_G) (aT : Nat → ClassId) (ad : Nat → Nat) (S : MSt) (n : Nat) (idn : Nat → Nat) (pr : Nat → Option Nat) (tn : Nat → Nat) (hF : FoR (S 0) n idn pr tn) (k : Nat) (hk : k < n) : MdG l yX10_above cX10_above 2 .int 2 44 D aT ad [.ref (ad 0), .int (nI k)] S (fun r => r = oi (pr k)) := by
  refine MdI.of (by decide +kernel) rfl (Nat.le_of_ble_eq_true rfl) ?_
  intro p e s m below meth c A ls C hml hl hA hr hlocks hW
  have hl : lv_has ls 2 [(0, .ref (ad 0)), (1, .int (nI k))] := hl
  have hx := C.1
  have hb := C.2.1
  refine lv_aload_n hx hb dX10_above_0 rfl (lv_at hl 0 rfl) ?_
  refine lv_iload_n hx hb dX10_above_1 rfl (lv_at hl 1 rfl) ?_
  refine lv_iconst (v := nI 1) hx hb dX10_above_2 (by decide) ?_
  refine md_callg C hml hl.1 (As := [.int (nI k), .int (nI 1)]) (rest := []) (m_of l D aT ad S k 1 (by have := hF.2.1; omega)) gT_of hd_of rfl ⟨Nat.le_of_ble_eq_true rfl, Nat.le_of_ble_eq_true rfl⟩ ⟨Nat.le_refl _, Nat.le_refl _⟩ hW hA rfl (Nat.le_of_ble_eq_true rfl) dX10_above_3 (fun r_3 H locs hq hW => ?_)
  subst hq
  refine r_eq (y := (oi ((pr k).map idn))) (hF.2.2.2.1 k hk) ?_
  refine lv_iconst (v := (-1)) hx hb dX10_above_6 (by decide) ?_
  refine r_oi_ne hx hb (o := ((pr k).map idn)) (hF.pid hk) (tgt := 14) dX10_above_7 (by decide) (fun j_7 c_7 => ?_) (fun c_7 => ?_)
  · refine lv_aload_n hx hb dX10_above_14 rfl (lv_at hl 0 rfl) ?_
    refine lv_aload_n hx hb dX10_above_15 rfl (lv_at hl 0 rfl) ?_
    refine lv_iload_n hx hb dX10_above_16 rfl (lv_at hl 1 rfl) ?_
    refine lv_iconst (v := nI 1) hx hb dX10_above_17 (by decide) ?_
    refine md_callg C hml hl.1 (As := [.int (nI k), .int (nI 1)]) (rest := [.ref (ad 0)]) (m_of l D aT ad S k 1 (by have := hF.2.1; omega)) gT_of hd_of rfl ⟨Nat.le_of_ble_eq_true rfl, Nat.le_of_ble_eq_true rfl⟩ ⟨Nat.le_refl _, Nat.le_refl _⟩ hW hA rfl (Nat.le_of_ble_eq_true rfl) dX10_above_18 (fun r_18 H locs hq hW => ?_)
    subst hq
    refine r_eq (y := (oi ((pr k).map idn))) (hF.2.2.2.1 k hk) ?_
    refine md_callg C hml hl.1 (As := [.int (oi ((pr k).map idn))]) (rest := []) (m_find l D aT ad S ((oi ((pr k).map idn))) n hF.1 hF.2.1) gT_find hd_find rfl ⟨Nat.le_of_ble_eq_true rfl, Nat.le_of_ble_eq_true rfl⟩ ⟨Nat.le_refl _, Nat.le_refl _⟩ hW hA rfl (Nat.le_of_ble_eq_true rfl) dX10_above_21 (fun r_21 H locs hq hW => ?_)
    subst hq
    exact md_iret C hr hlocks rfl hW (⟨by rw [hF.findPar hk c_7], rfl⟩) dX10_above_24
  · refine lv_iconst (v := (-1)) hx hb dX10_above_10 (by decide) ?_
    refine lv_goto (tgt := 24) hx hb dX10_above_11 (by decide) ?_
    exact md_iret C hr hlocks rfl hW (⟨by rw [show pr k = none by simpa using c_7]; rfl, rfl⟩) dX10_above_24
theorem gT_deep : GoodIn gw (wsV RX10 125 RX10 yX10_deep (Cond.code yX10_deep cX10_deep 4 (some .int) :: gw)) := gdV gw_1767 gw_1769 gw_31 gw_81 gw_1770
theorem hd_deep : yX10_deep.cls = RX10 ∧ yX10_deep.cls ≠ "java/lang/invoke/MethodHandle" ∧ yX10_deep.cls ≠ "java/lang/invoke/VarHandle" ∧ (parseMethodDescriptor yX10_deep.desc).map (fun d => d.parameters.length) = some 1 := ⟨rfl, by decide +kernel, by decide +kernel, by decide +kernel⟩
theorem dX10_deep_0 : decode cX10_deep 0 = .ok (.iconst 0, 1) := by decide +kernel
theorem dX10_deep_1 : decode cX10_deep 1 = .ok (.istore_n 2, 1) := by decide +kernel
theorem dX10_deep_2 : decode cX10_deep 2 = .ok (.aload_n 0, 1) := by decide +kernel
theorem dX10_deep_3 : decode cX10_deep 3 = .ok (.iload_n 1, 1) := by decide +kernel
theorem dX10_deep_4 : decode cX10_deep 4 = .ok (.invokevirtual 75, 3) := by decide +kernel
theorem dX10_deep_7 : decode cX10_deep 7 = .ok (.istore_n 3, 1) := by decide +kernel
theorem dX10_deep_8 : decode cX10_deep 8 = .ok (.iload_n 3, 1) := by decide +kernel
theorem dX10_deep_9 : decode cX10_deep 9 = .ok (.iconst (-1), 1) := by decide +kernel
theorem dX10_deep_10 : decode cX10_deep 10 = .ok (.if_icmp .eq 15, 3) := by decide +kernel
theorem dX10_deep_13 : decode cX10_deep 13 = .ok (.aload_n 0, 1) := by decide +kernel
theorem dX10_deep_14 : decode cX10_deep 14 = .ok (.iload_n 3, 1) := by decide +kernel
theorem dX10_deep_15 : decode cX10_deep 15 = .ok (.invokevirtual 75, 3) := by decide +kernel
theorem dX10_deep_18 : decode cX10_deep 18 = .ok (.istore_n 3, 1) := by decide +kernel
theorem dX10_deep_19 : decode cX10_deep 19 = .ok (.iinc 2 1, 3) := by decide +kernel
theorem dX10_deep_22 : decode cX10_deep 22 = .ok (.goto (-14), 3) := by decide +kernel
theorem dX10_deep_25 : decode cX10_deep 25 = .ok (.iload_n 2, 1) := by decide +kernel
theorem dX10_deep_26 : decode cX10_deep 26 = .ok (.ireturn, 1) := by decide +kernel
set_option maxHeartbeats 1000000 in
set_option maxRecDepth 20000 in
theorem m_deep (l : Launch) (D : va_G) (aT : Nat → ClassId) (ad : Nat → Nat) (S : MSt) (n : Nat) (idn : Nat → Nat) (pr : Nat → Option Nat) (tn : Nat → Nat) (hF : FoR (S 0) n idn pr tn) (k : Nat) (hk : k < n) : MdG l yX10_deep cX10_deep 4 .int 3 65 D aT ad [.ref (ad 0), .int (nI k)] S (fun r => r = nI (dep pr k)) := by
  refine MdI.of (by decide +kernel) rfl (Nat.le_of_ble_eq_true rfl) ?_
  intro p e s m below meth c A ls C hml hl hA hr hlocks hW
  have hl : lv_has ls 4 [(0, .ref (ad 0)), (1, .int (nI k))] := hl
  have hx := C.1
  have hb := C.2.1
  refine lv_iconst (v := nI 0) hx hb dX10_deep_0 (by decide) ?_
  refine lv_istore_n (lv' := [(2, .int (nI 0)), (0, .ref (ad 0)), (1, .int (nI k))]) hx hb dX10_deep_1 rfl hl (by decide) rfl (fun ls hl => ?_)
  refine lv_aload_n hx hb dX10_deep_2 rfl (lv_at hl 1 rfl) ?_
  refine lv_iload_n hx hb dX10_deep_3 rfl (lv_at hl 2 rfl) ?_
  refine md_callg C hml hl.1 (As := [.int (nI k)]) (rest := []) (m_above l D aT ad S n idn pr tn hF k (hk)) gT_above hd_above rfl ⟨Nat.le_of_ble_eq_true rfl, Nat.le_of_ble_eq_true rfl⟩ ⟨Nat.le_refl _, Nat.le_refl _⟩ hW hA rfl (Nat.le_of_ble_eq_true rfl) dX10_deep_4 (fun r_4 H locs hq hW => ?_)
  subst hq
  refine lv_istore_n (lv' := [(3, .int (oi (pr k))), (2, .int (nI 0)), (0, .ref (ad 0)), (1, .int (nI k))]) hx hb dX10_deep_7 rfl hl (by decide) rfl (fun ls hl => ?_)
  refine W_loopH (σ := Nat × Option Nat) (fun z_ => oM z_.2) (fun z_ H locs g => ∃ ls, g = F0 m 8 ls [] ∧ lv_has ls 4 [(0, .ref (ad 0)), (1, .int (nI k)), (2, .int (nI z_.1)), (3, .int (oi z_.2))] ∧ MdB D aT ad S A s.heap H locs ∧ (z_.1 + depO pr z_.2 = dep pr k ∧ ∀ j, z_.2 = some j → j < n)) ?_ (0, (pr k)) _ ⟨_, rfl, lv_sub hl [2, 3, 1, 0] rfl, hW, ⟨by rw [Nat.zero_add, dep_O hF.ok hk], fun j hj => hF.par hk hj⟩⟩
  clear hW hl
  rintro ⟨c0, o⟩ H locs g ⟨ls, rfl, hl, hW, hc, hlim⟩ ih_8
  dsimp only at hl hW hc hlim ⊢
  refine lv_iload_n hx hb dX10_deep_8 rfl (lv_at hl 3 rfl) ?_
  refine lv_iconst (v := (-1)) hx hb dX10_deep_9 (by decide) ?_
  refine r_oi_eq hx hb (o := o) (fun j hj => by have := hlim j hj; have := hF.2.1; omega) (tgt := 25) dX10_deep_10 (by decide) (fun c_10 => ?_) (fun j_10 c_10 => ?_)
  · subst c_10
    have hl : lv_has ls 4 [(0, .ref (ad 0)), (1, .int (nI k)), (2, .int (nI c0)), (3, .int (-1))] := hl
    refine lv_iload_n hx hb dX10_deep_25 rfl (lv_at hl 2 rfl) ?_
    exact md_iret C hr hlocks rfl hW (⟨by rw [← hc]; rfl, rfl⟩) dX10_deep_26
  · subst c_10
    have hl : lv_has ls 4 [(0, .ref (ad 0)), (1, .int (nI k)), (2, .int (nI c0)), (3, .int (nI j_10))] := hl
    refine lv_aload_n hx hb dX10_deep_13 rfl (lv_at hl 0 rfl) ?_
    refine lv_iload_n hx hb dX10_deep_14 rfl (lv_at hl 3 rfl) ?_
    refine md_callg C hml hl.1 (As := [.int (nI j_10)]) (rest := []) (m_above l D aT ad S n idn pr tn hF j_10 (hlim _ rfl)) gT_above hd_above rfl ⟨Nat.le_of_ble_eq_true rfl, Nat.le_of_ble_eq_true rfl⟩ ⟨Nat.le_refl _, Nat.le_refl _⟩ hW hA rfl (Nat.le_of_ble_eq_true rfl) dX10_deep_15 (fun r_15 H locs hq hW => ?_)
    subst hq
    refine lv_istore_n (lv' := [(3, .int (oi (pr j_10))), (0, .ref (ad 0)), (1, .int (nI k)), (2, .int (nI c0))]) hx hb dX10_deep_18 rfl hl (by decide) rfl (fun ls hl => ?_)
    refine lv_iinc (v := (nI (c0 + 1))) (lv' := [(2, .int (nI (c0 + 1))), (3, .int (oi (pr j_10))), (0, .ref (ad 0)), (1, .int (nI k))]) hx hb dX10_deep_19 hl (k := 3) rfl (nI_1 _) (by decide) rfl (fun ls hl => ?_)
    refine lv_goto (tgt := 8) hx hb dX10_deep_22 (by decide) ?_
    exact ih_8 ((c0 + 1), (pr j_10)) _ _ _ (oM_lt hF.ok (hlim _ rfl)) ⟨_, rfl, lv_sub hl [2, 3, 0, 1] rfl, hW, ⟨by rw [← hc, ← dep_O hF.ok (hlim _ rfl)]; simp only [depO]; omega, fun j hj => hF.par (hlim _ rfl) hj⟩⟩
theorem gT_isTipAt : GoodIn gw (wsV RX10 82 RX10 yX10_isTipAt (Cond.code yX10_isTipAt cX10_isTipAt 4 (some .boolean) :: gw)) := gdV gw_1795 gw_1797 gw_37 gw_81 gw_1798
theorem hd_isTipAt : yX10_isTipAt.cls = RX10 ∧ yX10_isTipAt.cls ≠ "java/lang/invoke/MethodHandle" ∧ yX10_isTipAt.cls ≠ "java/lang/invoke/VarHandle" ∧ (parseMethodDescriptor yX10_isTipAt.desc).map (fun d => d.parameters.length) = some 1 := ⟨rfl, by decide +kernel, by decide +kernel, by decide +kernel⟩
theorem dX10_isTipAt_0 : decode cX10_isTipAt 0 = .ok (.iconst 1, 1) := by decide +kernel
theorem dX10_isTipAt_1 : decode cX10_isTipAt 1 = .ok (.istore_n 2, 1) := by decide +kernel
theorem dX10_isTipAt_2 : decode cX10_isTipAt 2 = .ok (.iconst 0, 1) := by decide +kernel
theorem dX10_isTipAt_3 : decode cX10_isTipAt 3 = .ok (.istore_n 3, 1) := by decide +kernel
theorem dX10_isTipAt_4 : decode cX10_isTipAt 4 = .ok (.iload_n 3, 1) := by decide +kernel
theorem dX10_isTipAt_5 : decode cX10_isTipAt 5 = .ok (.aload_n 0, 1) := by decide +kernel
theorem dX10_isTipAt_6 : decode cX10_isTipAt 6 = .ok (.getfield 9, 3) := by decide +kernel
theorem dX10_isTipAt_9 : decode cX10_isTipAt 9 = .ok (.iconst 2, 1) := by decide +kernel
theorem dX10_isTipAt_10 : decode cX10_isTipAt 10 = .ok (.iaload, 1) := by decide +kernel
theorem dX10_isTipAt_11 : decode cX10_isTipAt 11 = .ok (.if_icmp .ge 28, 3) := by decide +kernel
theorem dX10_isTipAt_14 : decode cX10_isTipAt 14 = .ok (.iload_n 2, 1) := by decide +kernel
theorem dX10_isTipAt_15 : decode cX10_isTipAt 15 = .ok (.ifCond .eq 16, 3) := by decide +kernel
theorem dX10_isTipAt_18 : decode cX10_isTipAt 18 = .ok (.aload_n 0, 1) := by decide +kernel
theorem dX10_isTipAt_19 : decode cX10_isTipAt 19 = .ok (.iload_n 3, 1) := by decide +kernel
theorem dX10_isTipAt_20 : decode cX10_isTipAt 20 = .ok (.invokevirtual 75, 3) := by decide +kernel
theorem dX10_isTipAt_23 : decode cX10_isTipAt 23 = .ok (.iload_n 1, 1) := by decide +kernel
theorem dX10_isTipAt_24 : decode cX10_isTipAt 24 = .ok (.if_icmp .eq 7, 3) := by decide +kernel
theorem dX10_isTipAt_27 : decode cX10_isTipAt 27 = .ok (.iconst 1, 1) := by decide +kernel
theorem dX10_isTipAt_28 : decode cX10_isTipAt 28 = .ok (.goto 4, 3) := by decide +kernel
theorem dX10_isTipAt_31 : decode cX10_isTipAt 31 = .ok (.iconst 0, 1) := by decide +kernel
theorem dX10_isTipAt_32 : decode cX10_isTipAt 32 = .ok (.istore_n 2, 1) := by decide +kernel
theorem dX10_isTipAt_33 : decode cX10_isTipAt 33 = .ok (.iinc 3 1, 3) := by decide +kernel
theorem dX10_isTipAt_36 : decode cX10_isTipAt 36 = .ok (.goto (-32), 3) := by decide +kernel
theorem dX10_isTipAt_39 : decode cX10_isTipAt 39 = .ok (.iload_n 2, 1) := by decide +kernel
theorem dX10_isTipAt_40 : decode cX10_isTipAt 40 = .ok (.ireturn, 1) := by decide +kernel
set_option maxHeartbeats 1000000 in
set_option maxRecDepth 20000 in
theorem m_isTipAt (l : Launch) (D : va_G) (aT : Nat → ClassId) (ad : Nat → Nat) (S : MSt) (n : Nat) (idn : Nat → Nat) (pr : Nat → Option Nat) (tn : Nat → Nat) (hF : FoR (S 0) n idn pr tn) (q : Nat) (hq12 : q < n) : MdG l yX10_isTipAt cX10_isTipAt 4 .boolean 3 65 D aT ad [.ref (ad 0), .int (nI q)] S (fun r => r = bI (tipB pr q n)) := by
  refine MdI.of (by decide +kernel) rfl (Nat.le_of_ble_eq_true rfl) ?_
  intro p e s m below meth c A ls C hml hl hA hr hlocks hW
  have hl : lv_has ls 4 [(0, .ref (ad 0)), (1, .int (nI q))] := hl
  have hx := C.1
  have hb := C.2.1
  refine lv_iconst (v := nI 1) hx hb dX10_isTipAt_0 (by decide) ?_
  refine lv_istore_n (lv' := [(2, .int (nI 1)), (0, .ref (ad 0)), (1, .int (nI q))]) hx hb dX10_isTipAt_1 rfl hl (by decide) rfl (fun ls hl => ?_)
  refine lv_iconst (v := nI 0) hx hb dX10_isTipAt_2 (by decide) ?_
  refine lv_istore_n (lv' := [(3, .int (nI 0)), (2, .int (nI 1)), (0, .ref (ad 0)), (1, .int (nI q))]) hx hb dX10_isTipAt_3 rfl hl (by decide) rfl (fun ls hl => ?_)
  refine W_loopH (σ := Bool × Nat) (fun z_ => n - z_.2) (fun z_ H locs g => ∃ ls, g = F0 m 4 ls [] ∧ lv_has ls 4 [(0, .ref (ad 0)), (1, .int (nI q)), (2, .int (bI z_.1)), (3, .int (nI z_.2))] ∧ MdB D aT ad S A s.heap H locs ∧ (z_.1 = tipB pr q z_.2 ∧ z_.2 ≤ n)) ?_ (true, 0) _ ⟨_, rfl, lv_sub hl [2, 3, 1, 0] rfl, hW, ⟨rfl, Nat.zero_le _⟩⟩
  clear hW hl
  rintro ⟨b, k⟩ H locs g ⟨ls, rfl, hl, hW, hi, hkn⟩ ih_4
  dsimp only at hl hW hi hkn ⊢
  refine lv_iload_n hx hb dX10_isTipAt_4 rfl (lv_at hl 3 rfl) ?_
  refine lv_aload_n hx hb dX10_isTipAt_5 rfl (lv_at hl 0 rfl) ?_
  refine md_geta_m C hW dX10_isTipAt_6 ?_
  refine lv_iconst (v := nI 2) hx hb dX10_isTipAt_9 (by decide) ?_
  refine md_ald_m C hW (i := 2) (by omega) dX10_isTipAt_10 ?_
  refine r_eq (y := (nI n)) (hF.1) ?_
  refine r_geN hx hb (a := k) (b := n) (by have := hF.2.1; omega) (by have := hF.2.1; omega) (tgt := 39) dX10_isTipAt_11 (by decide) (fun c_11 => ?_) (fun c_11 => ?_)
  · refine lv_iload_n hx hb dX10_isTipAt_39 rfl (lv_at hl 2 rfl) ?_
    exact md_iret C hr hlocks (bI_nar _) hW (⟨by rw [show n = k by omega, hi], rfl⟩) dX10_isTipAt_40
  · refine lv_iload_n hx hb dX10_isTipAt_14 rfl (lv_at hl 2 rfl) ?_
    refine r_bI_eq hx hb (b := b) (tgt := 31) dX10_isTipAt_15 (by decide) (fun c_15 => ?_) (fun c_15 => ?_)
    · refine lv_iconst (v := nI 0) hx hb dX10_isTipAt_31 (by decide) ?_
      refine lv_istore_n (lv' := [(2, .int (nI 0)), (0, .ref (ad 0)), (1, .int (nI q)), (3, .int (nI k))]) hx hb dX10_isTipAt_32 rfl hl (by decide) rfl (fun ls hl => ?_)
      refine lv_iinc (v := (nI (k + 1))) (lv' := [(3, .int (nI (k + 1))), (2, .int (nI 0)), (0, .ref (ad 0)), (1, .int (nI q))]) hx hb dX10_isTipAt_33 hl (k := 3) rfl (nI_1 _) (by decide) rfl (fun ls hl => ?_)
      refine lv_goto (tgt := 4) hx hb dX10_isTipAt_36 (by decide) ?_
      exact ih_4 (false, (k + 1)) _ _ _ (by dsimp only; omega) ⟨_, rfl, lv_sub hl [2, 3, 1, 0] rfl, hW, ⟨by rw [tipB, ← hi, c_15]; rfl, by omega⟩⟩
    · refine lv_aload_n hx hb dX10_isTipAt_18 rfl (lv_at hl 0 rfl) ?_
      refine lv_iload_n hx hb dX10_isTipAt_19 rfl (lv_at hl 3 rfl) ?_
      refine md_callg C hml hl.1 (As := [.int (nI k)]) (rest := []) (m_above l D aT ad S n idn pr tn hF k (by omega)) gT_above hd_above rfl ⟨Nat.le_of_ble_eq_true rfl, Nat.le_of_ble_eq_true rfl⟩ ⟨Nat.le_refl _, Nat.le_refl _⟩ hW hA rfl (Nat.le_of_ble_eq_true rfl) dX10_isTipAt_20 (fun r_20 H locs hq hW => ?_)
      subst hq
      refine lv_iload_n hx hb dX10_isTipAt_23 rfl (lv_at hl 1 rfl) ?_
      refine r_on_eq hx hb (o := (pr k)) (q := q) (hF.plim (by omega)) (by have := hF.2.1; omega) (tgt := 31) dX10_isTipAt_24 (by decide) (fun c_24 => ?_) (fun c_24 => ?_)
      · refine lv_iconst (v := nI 0) hx hb dX10_isTipAt_31 (by decide) ?_
        refine lv_istore_n (lv' := [(2, .int (nI 0)), (0, .ref (ad 0)), (1, .int (nI q)), (3, .int (nI k))]) hx hb dX10_isTipAt_32 rfl hl (by decide) rfl (fun ls hl => ?_)
        refine lv_iinc (v := (nI (k + 1))) (lv' := [(3, .int (nI (k + 1))), (2, .int (nI 0)), (0, .ref (ad 0)), (1, .int (nI q))]) hx hb dX10_isTipAt_33 hl (k := 3) rfl (nI_1 _) (by decide) rfl (fun ls hl => ?_)
        refine lv_goto (tgt := 4) hx hb dX10_isTipAt_36 (by decide) ?_
        exact ih_4 (false, (k + 1)) _ _ _ (by dsimp only; omega) ⟨_, rfl, lv_sub hl [2, 3, 1, 0] rfl, hW, ⟨by rw [tipB, c_24]; simp, by omega⟩⟩
      · refine lv_iconst (v := nI 1) hx hb dX10_isTipAt_27 (by decide) ?_
        refine lv_goto (tgt := 32) hx hb dX10_isTipAt_28 (by decide) ?_
        refine lv_istore_n (lv' := [(2, .int (nI 1)), (0, .ref (ad 0)), (1, .int (nI q)), (3, .int (nI k))]) hx hb dX10_isTipAt_32 rfl hl (by decide) rfl (fun ls hl => ?_)
        refine lv_iinc (v := (nI (k + 1))) (lv' := [(3, .int (nI (k + 1))), (2, .int (nI 1)), (0, .ref (ad 0)), (1, .int (nI q))]) hx hb dX10_isTipAt_33 hl (k := 3) rfl (nI_1 _) (by decide) rfl (fun ls hl => ?_)
        refine lv_goto (tgt := 4) hx hb dX10_isTipAt_36 (by decide) ?_
        exact ih_4 (true, (k + 1)) _ _ _ (by dsimp only; omega) ⟨_, rfl, lv_sub hl [2, 3, 1, 0] rfl, hW, ⟨by rw [tipB, ← hi, c_15]; simp [c_24], by omega⟩⟩
theorem gT_isIn : GoodIn gw (wsV RX10 78 RX10 yX10_isIn (Cond.code yX10_isIn cX10_isIn 4 (some .boolean) :: gw)) := gdV gw_1775 gw_1777 gw_33 gw_81 gw_1778
theorem hd_isIn : yX10_isIn.cls = RX10 ∧ yX10_isIn.cls ≠ "java/lang/invoke/MethodHandle" ∧ yX10_isIn.cls ≠ "java/lang/invoke/VarHandle" ∧ (parseMethodDescriptor yX10_isIn.desc).map (fun d => d.parameters.length) = some 2 := ⟨rfl, by decide +kernel, by decide +kernel, by decide +kernel⟩
theorem dX10_isIn_0 : decode cX10_isIn 0 = .ok (.iload_n 1, 1) := by decide +kernel
theorem dX10_isIn_1 : decode cX10_isIn 1 = .ok (.istore_n 3, 1) := by decide +kernel
theorem dX10_isIn_2 : decode cX10_isIn 2 = .ok (.iload_n 3, 1) := by decide +kernel
theorem dX10_isIn_3 : decode cX10_isIn 3 = .ok (.iconst (-1), 1) := by decide +kernel
theorem dX10_isIn_4 : decode cX10_isIn 4 = .ok (.if_icmp .eq 17, 3) := by decide +kernel
theorem dX10_isIn_7 : decode cX10_isIn 7 = .ok (.iload_n 3, 1) := by decide +kernel
theorem dX10_isIn_8 : decode cX10_isIn 8 = .ok (.iload_n 2, 1) := by decide +kernel
theorem dX10_isIn_9 : decode cX10_isIn 9 = .ok (.if_icmp .eq 12, 3) := by decide +kernel
theorem dX10_isIn_12 : decode cX10_isIn 12 = .ok (.aload_n 0, 1) := by decide +kernel
theorem dX10_isIn_13 : decode cX10_isIn 13 = .ok (.iload_n 3, 1) := by decide +kernel
theorem dX10_isIn_14 : decode cX10_isIn 14 = .ok (.invokevirtual 75, 3) := by decide +kernel
theorem dX10_isIn_17 : decode cX10_isIn 17 = .ok (.istore_n 3, 1) := by decide +kernel
theorem dX10_isIn_18 : decode cX10_isIn 18 = .ok (.goto (-16), 3) := by decide +kernel
theorem dX10_isIn_21 : decode cX10_isIn 21 = .ok (.iload_n 3, 1) := by decide +kernel
theorem dX10_isIn_22 : decode cX10_isIn 22 = .ok (.iload_n 2, 1) := by decide +kernel
theorem dX10_isIn_23 : decode cX10_isIn 23 = .ok (.if_icmp .ne 7, 3) := by decide +kernel
theorem dX10_isIn_26 : decode cX10_isIn 26 = .ok (.iconst 1, 1) := by decide +kernel
theorem dX10_isIn_27 : decode cX10_isIn 27 = .ok (.goto 4, 3) := by decide +kernel
theorem dX10_isIn_30 : decode cX10_isIn 30 = .ok (.iconst 0, 1) := by decide +kernel
theorem dX10_isIn_31 : decode cX10_isIn 31 = .ok (.ireturn, 1) := by decide +kernel
set_option maxHeartbeats 1000000 in
set_option maxRecDepth 20000 in
theorem m_isIn (l : Launch) (D : va_G) (aT : Nat → ClassId) (ad : Nat → Nat) (S : MSt) (n : Nat) (idn : Nat → Nat) (pr : Nat → Option Nat) (tn : Nat → Nat) (hF : FoR (S 0) n idn pr tn) (k r : Nat) (hk : k < n) (hr12 : r < n) : MdG l yX10_isIn cX10_isIn 4 .boolean 3 65 D aT ad [.ref (ad 0), .int (nI k), .int (nI r)] S (fun q => q = bI (anc pr r k)) := by
  refine MdI.of (by decide +kernel) rfl (Nat.le_of_ble_eq_true rfl) ?_
  intro p e s m below meth c A ls C hml hl hA hr hlocks hW
  have hl : lv_has ls 4 [(0, .ref (ad 0)), (1, .int (nI k)), (2, .int (nI r))] := hl
  have hx := C.1
  have hb := C.2.1
  refine lv_iload_n hx hb dX10_isIn_0 rfl (lv_at hl 1 rfl) ?_
  refine lv_istore_n (lv' := [(3, .int (nI k)), (0, .ref (ad 0)), (1, .int (nI k)), (2, .int (nI r))]) hx hb dX10_isIn_1 rfl hl (by decide) rfl (fun ls hl => ?_)
  refine W_loopH (σ := Option Nat) (fun z_ => oM z_) (fun z_ H locs g => ∃ ls, g = F0 m 2 ls [] ∧ lv_has ls 4 [(0, .ref (ad 0)), (1, .int (nI k)), (2, .int (nI r)), (3, .int (oi z_))] ∧ MdB D aT ad S A s.heap H locs ∧ (ancO pr r z_ = anc pr r k ∧ ∀ j, z_ = some j → j < n)) ?_ (some k) _ ⟨_, rfl, lv_sub hl [1, 2, 3, 0] rfl, hW, ⟨rfl, fun j hj => by cases hj; exact hk⟩⟩
  clear hW hl
  rintro o H locs g ⟨ls, rfl, hl, hW, hi, hlim⟩ ih_2
  refine lv_iload_n hx hb dX10_isIn_2 rfl (lv_at hl 3 rfl) ?_
  refine lv_iconst (v := (-1)) hx hb dX10_isIn_3 (by decide) ?_
  refine r_oi_eq hx hb (o := o) (fun j hj => by have := hlim j hj; have := hF.2.1; omega) (tgt := 21) dX10_isIn_4 (by decide) (fun c_4 => ?_) (fun j_4 c_4 => ?_)
  · subst c_4
    have hl : lv_has ls 4 [(0, .ref (ad 0)), (1, .int (nI k)), (2, .int (nI r)), (3, .int (-1))] := hl
    refine lv_iload_n hx hb dX10_isIn_21 rfl (lv_at hl 3 rfl) ?_
    refine lv_iload_n hx hb dX10_isIn_22 rfl (lv_at hl 2 rfl) ?_
    refine lv_icmp_ne hx hb (x := (-1)) (y := (nI r)) (tgt := 30) dX10_isIn_23 (by decide) (fun c_23 => ?_) (fun c_23 => ?_)
    · refine lv_iconst (v := nI 0) hx hb dX10_isIn_30 (by decide) ?_
      exact md_iret C hr hlocks (by decide) hW (⟨by rw [← hi]; rfl, rfl⟩) dX10_isIn_31
    · exact (nI_m1 (by have := hF.2.1; omega) c_23).elim
  · subst c_4
    have hl : lv_has ls 4 [(0, .ref (ad 0)), (1, .int (nI k)), (2, .int (nI r)), (3, .int (nI j_4))] := hl
    refine lv_iload_n hx hb dX10_isIn_7 rfl (lv_at hl 3 rfl) ?_
    refine lv_iload_n hx hb dX10_isIn_8 rfl (lv_at hl 2 rfl) ?_
    refine r_eqN hx hb (a := j_4) (b := r) (by have := hlim _ rfl; have := hF.2.1; omega) (by have := hlim _ rfl; have := hF.2.1; omega) (tgt := 21) dX10_isIn_9 (by decide) (fun c_9 => ?_) (fun c_9 => ?_)
    · have hlim9 := hlim _ rfl
      refine lv_iload_n hx hb dX10_isIn_21 rfl (lv_at hl 3 rfl) ?_
      refine lv_iload_n hx hb dX10_isIn_22 rfl (lv_at hl 2 rfl) ?_
      refine r_neN hx hb (a := j_4) (b := r) (by have := hF.2.1; omega) (by have := hF.2.1; omega) (tgt := 30) dX10_isIn_23 (by decide) (fun c_23 => ?_) (fun c_23 => ?_)
      · exact absurd c_9 c_23
      · refine lv_iconst (v := nI 1) hx hb dX10_isIn_26 (by decide) ?_
        refine lv_goto (tgt := 31) hx hb dX10_isIn_27 (by decide) ?_
        exact md_iret C hr hlocks (by decide) hW (⟨by rw [← hi, c_9]; simp [ancO, anc_self, bI]; rfl, rfl⟩) dX10_isIn_31
    · have hlim9 := hlim _ rfl
      refine lv_aload_n hx hb dX10_isIn_12 rfl (lv_at hl 0 rfl) ?_
      refine lv_iload_n hx hb dX10_isIn_13 rfl (lv_at hl 3 rfl) ?_
      refine md_callg C hml hl.1 (As := [.int (nI j_4)]) (rest := []) (m_above l D aT ad S n idn pr tn hF j_4 (hlim _ rfl)) gT_above hd_above rfl ⟨Nat.le_of_ble_eq_true rfl, Nat.le_of_ble_eq_true rfl⟩ ⟨Nat.le_refl _, Nat.le_refl _⟩ hW hA rfl (Nat.le_of_ble_eq_true rfl) dX10_isIn_14 (fun r_14 H locs hq hW => ?_)
      subst hq
      refine lv_istore_n (lv' := [(3, .int (oi (pr j_4))), (0, .ref (ad 0)), (1, .int (nI k)), (2, .int (nI r))]) hx hb dX10_isIn_17 rfl hl (by decide) rfl (fun ls hl => ?_)
      refine lv_goto (tgt := 2) hx hb dX10_isIn_18 (by decide) ?_
      exact ih_2 (pr j_4) _ _ _ (oM_lt hF.ok (hlim _ rfl)) ⟨_, rfl, lv_sub hl [1, 2, 3, 0] rfl, hW, ⟨by rw [← hi]; exact (anc_O hF.ok (hlim _ rfl) c_9).symm, fun j hj => hF.par (hlim _ rfl) hj⟩⟩
theorem gT_lastTipAt : GoodIn gw (wsV RX10 135 RX10 yX10_lastTipAt (Cond.code yX10_lastTipAt cX10_lastTipAt 4 (some .int) :: gw)) := gdV gw_1791 gw_1793 gw_36 gw_81 gw_1794
theorem hd_lastTipAt : yX10_lastTipAt.cls = RX10 ∧ yX10_lastTipAt.cls ≠ "java/lang/invoke/MethodHandle" ∧ yX10_lastTipAt.cls ≠ "java/lang/invoke/VarHandle" ∧ (parseMethodDescriptor yX10_lastTipAt.desc).map (fun d => d.parameters.length) = some 1 := ⟨rfl, by decide +kernel, by decide +kernel, by decide +kernel⟩
theorem dX10_lastTipAt_0 : decode cX10_lastTipAt 0 = .ok (.iconst (-1), 1) := by decide +kernel
theorem dX10_lastTipAt_1 : decode cX10_lastTipAt 1 = .ok (.istore_n 2, 1) := by decide +kernel
theorem dX10_lastTipAt_2 : decode cX10_lastTipAt 2 = .ok (.iconst 0, 1) := by decide +kernel
theorem dX10_lastTipAt_3 : decode cX10_lastTipAt 3 = .ok (.istore_n 3, 1) := by decide +kernel
theorem dX10_lastTipAt_4 : decode cX10_lastTipAt 4 = .ok (.iload_n 3, 1) := by decide +kernel
theorem dX10_lastTipAt_5 : decode cX10_lastTipAt 5 = .ok (.aload_n 0, 1) := by decide +kernel
theorem dX10_lastTipAt_6 : decode cX10_lastTipAt 6 = .ok (.getfield 9, 3) := by decide +kernel
theorem dX10_lastTipAt_9 : decode cX10_lastTipAt 9 = .ok (.iconst 2, 1) := by decide +kernel
theorem dX10_lastTipAt_10 : decode cX10_lastTipAt 10 = .ok (.iaload, 1) := by decide +kernel
theorem dX10_lastTipAt_11 : decode cX10_lastTipAt 11 = .ok (.if_icmp .ge 32, 3) := by decide +kernel
theorem dX10_lastTipAt_14 : decode cX10_lastTipAt 14 = .ok (.aload_n 0, 1) := by decide +kernel
theorem dX10_lastTipAt_15 : decode cX10_lastTipAt 15 = .ok (.iload_n 3, 1) := by decide +kernel
theorem dX10_lastTipAt_16 : decode cX10_lastTipAt 16 = .ok (.iload_n 1, 1) := by decide +kernel
theorem dX10_lastTipAt_17 : decode cX10_lastTipAt 17 = .ok (.invokevirtual 78, 3) := by decide +kernel
theorem dX10_lastTipAt_20 : decode cX10_lastTipAt 20 = .ok (.ifCond .eq 15, 3) := by decide +kernel
theorem dX10_lastTipAt_23 : decode cX10_lastTipAt 23 = .ok (.aload_n 0, 1) := by decide +kernel
theorem dX10_lastTipAt_24 : decode cX10_lastTipAt 24 = .ok (.iload_n 3, 1) := by decide +kernel
theorem dX10_lastTipAt_25 : decode cX10_lastTipAt 25 = .ok (.invokevirtual 82, 3) := by decide +kernel
theorem dX10_lastTipAt_28 : decode cX10_lastTipAt 28 = .ok (.ifCond .eq 7, 3) := by decide +kernel
theorem dX10_lastTipAt_31 : decode cX10_lastTipAt 31 = .ok (.iload_n 3, 1) := by decide +kernel
theorem dX10_lastTipAt_32 : decode cX10_lastTipAt 32 = .ok (.goto 4, 3) := by decide +kernel
theorem dX10_lastTipAt_35 : decode cX10_lastTipAt 35 = .ok (.iload_n 2, 1) := by decide +kernel
theorem dX10_lastTipAt_36 : decode cX10_lastTipAt 36 = .ok (.istore_n 2, 1) := by decide +kernel
theorem dX10_lastTipAt_37 : decode cX10_lastTipAt 37 = .ok (.iinc 3 1, 3) := by decide +kernel
theorem dX10_lastTipAt_40 : decode cX10_lastTipAt 40 = .ok (.goto (-36), 3) := by decide +kernel
theorem dX10_lastTipAt_43 : decode cX10_lastTipAt 43 = .ok (.iload_n 2, 1) := by decide +kernel
theorem dX10_lastTipAt_44 : decode cX10_lastTipAt 44 = .ok (.ireturn, 1) := by decide +kernel
set_option maxHeartbeats 1000000 in
set_option maxRecDepth 20000 in
theorem m_lastTipAt (l : Launch) (D : va_G) (aT : Nat → ClassId) (ad : Nat → Nat) (S : MSt) (n : Nat) (idn : Nat → Nat) (pr : Nat → Option Nat) (tn : Nat → Nat) (hF : FoR (S 0) n idn pr tn) (r : Nat) (hr12 : r < n) : MdG l yX10_lastTipAt cX10_lastTipAt 4 .int 4 88 D aT ad [.ref (ad 0), .int (nI r)] S (fun q => q = oi (ltp pr n r n)) := by
  refine MdI.of (by decide +kernel) rfl (Nat.le_of_ble_eq_true rfl) ?_
  intro p e s m below meth c A ls C hml hl hA hr hlocks hW
  have hl : lv_has ls 4 [(0, .ref (ad 0)), (1, .int (nI r))] := hl
  have hx := C.1
  have hb := C.2.1
  refine lv_iconst (v := (-1)) hx hb dX10_lastTipAt_0 (by decide) ?_
  refine lv_istore_n (lv' := [(2, .int (-1)), (0, .ref (ad 0)), (1, .int (nI r))]) hx hb dX10_lastTipAt_1 rfl hl (by decide) rfl (fun ls hl => ?_)
  refine lv_iconst (v := nI 0) hx hb dX10_lastTipAt_2 (by decide) ?_
  refine lv_istore_n (lv' := [(3, .int (nI 0)), (2, .int (-1)), (0, .ref (ad 0)), (1, .int (nI r))]) hx hb dX10_lastTipAt_3 rfl hl (by decide) rfl (fun ls hl => ?_)
  refine W_loopH (σ := Option Nat × Nat) (fun z_ => n - z_.2) (fun z_ H locs g => ∃ ls, g = F0 m 4 ls [] ∧ lv_has ls 4 [(0, .ref (ad 0)), (1, .int (nI r)), (2, .int (oi z_.1)), (3, .int (nI z_.2))] ∧ MdB D aT ad S A s.heap H locs ∧ (z_.1 = ltp pr n r z_.2 ∧ z_.2 ≤ n)) ?_ (none, 0) _ ⟨_, rfl, lv_sub hl [2, 3, 1, 0] rfl, hW, ⟨rfl, Nat.zero_le _⟩⟩
  clear hW hl
  rintro ⟨f, k⟩ H locs g ⟨ls, rfl, hl, hW, hi, hkn⟩ ih_4
  dsimp only at hl hW hi hkn ⊢
  refine lv_iload_n hx hb dX10_lastTipAt_4 rfl (lv_at hl 3 rfl) ?_
  refine lv_aload_n hx hb dX10_lastTipAt_5 rfl (lv_at hl 0 rfl) ?_
  refine md_geta_m C hW dX10_lastTipAt_6 ?_
  refine lv_iconst (v := nI 2) hx hb dX10_lastTipAt_9 (by decide) ?_
  refine md_ald_m C hW (i := 2) (by omega) dX10_lastTipAt_10 ?_
  refine r_eq (y := (nI n)) (hF.1) ?_
  refine r_geN hx hb (a := k) (b := n) (by have := hF.2.1; omega) (by have := hF.2.1; omega) (tgt := 43) dX10_lastTipAt_11 (by decide) (fun c_11 => ?_) (fun c_11 => ?_)
  · refine lv_iload_n hx hb dX10_lastTipAt_43 rfl (lv_at hl 2 rfl) ?_
    exact md_iret C hr hlocks rfl hW (⟨by rw [hi, show k = n by omega], rfl⟩) dX10_lastTipAt_44
  · refine lv_aload_n hx hb dX10_lastTipAt_14 rfl (lv_at hl 0 rfl) ?_
    refine lv_iload_n hx hb dX10_lastTipAt_15 rfl (lv_at hl 3 rfl) ?_
    refine lv_iload_n hx hb dX10_lastTipAt_16 rfl (lv_at hl 1 rfl) ?_
    refine md_callg C hml hl.1 (As := [.int (nI k), .int (nI r)]) (rest := []) (m_isIn l D aT ad S n idn pr tn hF k r (by omega) (by omega)) gT_isIn hd_isIn rfl ⟨Nat.le_of_ble_eq_true rfl, Nat.le_of_ble_eq_true rfl⟩ ⟨Nat.le_refl _, Nat.le_refl _⟩ hW hA rfl (Nat.le_of_ble_eq_true rfl) dX10_lastTipAt_17 (fun r_17 H locs hq hW => ?_)
    subst hq
    refine r_bI_eq hx hb (b := (anc pr r k)) (tgt := 35) dX10_lastTipAt_20 (by decide) (fun c_20 => ?_) (fun c_20 => ?_)
    · refine lv_iload_n hx hb dX10_lastTipAt_35 rfl (lv_at hl 2 rfl) ?_
      refine lv_istore_n (lv' := [(2, .int (oi f)), (0, .ref (ad 0)), (1, .int (nI r)), (3, .int (nI k))]) hx hb dX10_lastTipAt_36 rfl hl (by decide) rfl (fun ls hl => ?_)
      refine lv_iinc (v := (nI (k + 1))) (lv' := [(3, .int (nI (k + 1))), (2, .int (oi f)), (0, .ref (ad 0)), (1, .int (nI r))]) hx hb dX10_lastTipAt_37 hl (k := 3) rfl (nI_1 _) (by decide) rfl (fun ls hl => ?_)
      refine lv_goto (tgt := 4) hx hb dX10_lastTipAt_40 (by decide) ?_
      exact ih_4 (f, (k + 1)) _ _ _ (by dsimp only; omega) ⟨_, rfl, lv_sub hl [2, 3, 1, 0] rfl, hW, ⟨by rw [ltp, c_20]; simpa using hi, by omega⟩⟩
    · refine lv_aload_n hx hb dX10_lastTipAt_23 rfl (lv_at hl 0 rfl) ?_
      refine lv_iload_n hx hb dX10_lastTipAt_24 rfl (lv_at hl 3 rfl) ?_
      refine md_callg C hml hl.1 (As := [.int (nI k)]) (rest := []) (m_isTipAt l D aT ad S n idn pr tn hF k (by omega)) gT_isTipAt hd_isTipAt rfl ⟨Nat.le_of_ble_eq_true rfl, Nat.le_of_ble_eq_true rfl⟩ ⟨Nat.le_refl _, Nat.le_refl _⟩ hW hA rfl (Nat.le_of_ble_eq_true rfl) dX10_lastTipAt_25 (fun r_25 H locs hq hW => ?_)
      subst hq
      refine r_bI_eq hx hb (b := (tipB pr k n)) (tgt := 35) dX10_lastTipAt_28 (by decide) (fun c_28 => ?_) (fun c_28 => ?_)
      · refine lv_iload_n hx hb dX10_lastTipAt_35 rfl (lv_at hl 2 rfl) ?_
        refine lv_istore_n (lv' := [(2, .int (oi f)), (0, .ref (ad 0)), (1, .int (nI r)), (3, .int (nI k))]) hx hb dX10_lastTipAt_36 rfl hl (by decide) rfl (fun ls hl => ?_)
        refine lv_iinc (v := (nI (k + 1))) (lv' := [(3, .int (nI (k + 1))), (2, .int (oi f)), (0, .ref (ad 0)), (1, .int (nI r))]) hx hb dX10_lastTipAt_37 hl (k := 3) rfl (nI_1 _) (by decide) rfl (fun ls hl => ?_)
        refine lv_goto (tgt := 4) hx hb dX10_lastTipAt_40 (by decide) ?_
        exact ih_4 (f, (k + 1)) _ _ _ (by dsimp only; omega) ⟨_, rfl, lv_sub hl [2, 3, 1, 0] rfl, hW, ⟨by rw [ltp, c_20, c_28]; simpa using hi, by omega⟩⟩
      · refine lv_iload_n hx hb dX10_lastTipAt_31 rfl (lv_at hl 3 rfl) ?_
        refine lv_goto (tgt := 36) hx hb dX10_lastTipAt_32 (by decide) ?_
        refine lv_istore_n (lv' := [(2, .int (nI k)), (0, .ref (ad 0)), (1, .int (nI r)), (3, .int (nI k))]) hx hb dX10_lastTipAt_36 rfl hl (by decide) rfl (fun ls hl => ?_)
        refine lv_iinc (v := (nI (k + 1))) (lv' := [(3, .int (nI (k + 1))), (2, .int (nI k)), (0, .ref (ad 0)), (1, .int (nI r))]) hx hb dX10_lastTipAt_37 hl (k := 3) rfl (nI_1 _) (by decide) rfl (fun ls hl => ?_)
        refine lv_goto (tgt := 4) hx hb dX10_lastTipAt_40 (by decide) ?_
        exact ih_4 ((some k), (k + 1)) _ _ _ (by dsimp only; omega) ⟨_, rfl, lv_sub hl [2, 3, 1, 0] rfl, hW, ⟨by rw [ltp, c_20, c_28]; rfl, by omega⟩⟩
theorem gT_in : GoodIn gw (wsS RX10 63 yX10_in (Cond.code yX10_in cX10_in 6 (some .boolean) :: gw)) := gdS gw_1715 gw_1716 gw_81 gw_1717
theorem hd_in : yX10_in.cls = RX10 ∧ yX10_in.cls ≠ "java/lang/invoke/MethodHandle" ∧ yX10_in.cls ≠ "java/lang/invoke/VarHandle" ∧ (parseMethodDescriptor yX10_in.desc).map (fun d => d.parameters.length) = some 3 := ⟨rfl, by decide +kernel, by decide +kernel, by decide +kernel⟩
theorem dX10_in_0 : decode cX10_in 0 = .ok (.lload_n 0, 1) := by decide +kernel
theorem dX10_in_1 : decode cX10_in 1 = .ok (.lload_n 2, 1) := by decide +kernel
theorem dX10_in_2 : decode cX10_in 2 = .ok (.lcmp, 1) := by decide +kernel
theorem dX10_in_3 : decode cX10_in 3 = .ok (.ifCond .lt 14, 3) := by decide +kernel
theorem dX10_in_6 : decode cX10_in 6 = .ok (.lload_n 0, 1) := by decide +kernel
theorem dX10_in_7 : decode cX10_in 7 = .ok (.lload 4, 2) := by decide +kernel
theorem dX10_in_9 : decode cX10_in 9 = .ok (.lcmp, 1) := by decide +kernel
theorem dX10_in_10 : decode cX10_in 10 = .ok (.ifCond .gt 7, 3) := by decide +kernel
theorem dX10_in_13 : decode cX10_in 13 = .ok (.iconst 1, 1) := by decide +kernel
theorem dX10_in_14 : decode cX10_in 14 = .ok (.goto 4, 3) := by decide +kernel
theorem dX10_in_17 : decode cX10_in 17 = .ok (.iconst 0, 1) := by decide +kernel
theorem dX10_in_18 : decode cX10_in 18 = .ok (.ireturn, 1) := by decide +kernel
set_option maxRecDepth 20000 in
theorem m_in (l : Launch) (v lo hi : Int64) : MdS l yX10_in cX10_in 6 .boolean [.long v, .long lo, .long hi] (fun r => r = bI (decide (lo ≤ v ∧ v ≤ hi))) := by
  refine Met.ofW (cc := cX10_in) (maxL := 6) (ret := some .boolean) (by decide +kernel) rfl ?_
  intro p e s m args below meth c s₁ B hml hv
  have hv : args = _ := hv
  subst hv
  have hx := B.exec
  have hb := B.bytes
  have hl := lv_entry [.long v, .long lo, .long hi] (n := 6) (Nat.le_of_ble_eq_true rfl)
  rw [lg_entry_eq]
  generalize (lg_sl [.long v, .long lo, .long hi] ++ List.replicate (6 - (lg_sl [.long v, .long lo, .long hi]).length) Slot.unset).toArray = ls at hl ⊢
  have hl : lv_has ls 6 [(0, .long v), (2, .long lo), (4, .long hi)] := hl
  refine lv_lload_n hx hb dX10_in_0 rfl (lv_at hl 0 rfl) ?_
  refine lv_lload_n hx hb dX10_in_1 rfl (lv_at hl 1 rfl) ?_
  refine W.lcmp hx hb dX10_in_2 ?_
  refine lv_if_lt hx hb (x := (lg_cmp v lo)) (tgt := 17) dX10_in_3 (by decide) (fun c_3 => ?_) (fun c_3 => ?_)
  · refine lv_iconst (v := nI 0) hx hb dX10_in_17 (by decide) ?_
    exact W.zret (v := (nI 0)) hx hb B.returns (by decide) (fun t ht hW => ⟨_, rfl, (in_f1 c_3), ht⟩) (fun q h => by cases h) dX10_in_18 B.notSynchronized
  · refine lv_lload_n hx hb dX10_in_6 rfl (lv_at hl 0 rfl) ?_
    refine lv_lload hx hb dX10_in_7 (lv_at hl 2 rfl) ?_
    refine W.lcmp hx hb dX10_in_9 ?_
    refine lv_if_gt hx hb (x := (lg_cmp v hi)) (tgt := 17) dX10_in_10 (by decide) (fun c_10 => ?_) (fun c_10 => ?_)
    · refine lv_iconst (v := nI 0) hx hb dX10_in_17 (by decide) ?_
      exact W.zret (v := (nI 0)) hx hb B.returns (by decide) (fun t ht hW => ⟨_, rfl, (in_f2 c_10), ht⟩) (fun q h => by cases h) dX10_in_18 B.notSynchronized
    · refine lv_iconst (v := nI 1) hx hb dX10_in_13 (by decide) ?_
      refine lv_goto (tgt := 18) hx hb dX10_in_14 (by decide) ?_
      exact W.zret (v := (nI 1)) hx hb B.returns (by decide) (fun t ht hW => ⟨_, rfl, (in_t c_3 c_10), ht⟩) (fun q h => by cases h) dX10_in_18 B.notSynchronized
theorem gT_hedgeAt : GoodIn gw (wsS RX10 86 yX10_hedgeAt (Cond.code yX10_hedgeAt cX10_hedgeAt 1 (some .int) :: gw)) := gdS gw_1723 gw_1724 gw_81 gw_1725
theorem hd_hedgeAt : yX10_hedgeAt.cls = RX10 ∧ yX10_hedgeAt.cls ≠ "java/lang/invoke/MethodHandle" ∧ yX10_hedgeAt.cls ≠ "java/lang/invoke/VarHandle" ∧ (parseMethodDescriptor yX10_hedgeAt.desc).map (fun d => d.parameters.length) = some 1 := ⟨rfl, by decide +kernel, by decide +kernel, by decide +kernel⟩
theorem dX10_hedgeAt_0 : decode cX10_hedgeAt 0 = .ok (.bipush 11, 2) := by decide +kernel
theorem dX10_hedgeAt_2 : decode cX10_hedgeAt 2 = .ok (.iconst 3, 1) := by decide +kernel
theorem dX10_hedgeAt_3 : decode cX10_hedgeAt 3 = .ok (.iload_n 0, 1) := by decide +kernel
theorem dX10_hedgeAt_4 : decode cX10_hedgeAt 4 = .ok (.imul, 1) := by decide +kernel
theorem dX10_hedgeAt_5 : decode cX10_hedgeAt 5 = .ok (.iadd, 1) := by decide +kernel
theorem dX10_hedgeAt_6 : decode cX10_hedgeAt 6 = .ok (.ireturn, 1) := by decide +kernel
set_option maxRecDepth 20000 in
theorem m_hedgeAt (l : Launch) (i : Nat) : MdS l yX10_hedgeAt cX10_hedgeAt 1 .int [.int (nI i)] (fun r => r = nI (11 + 3 * i)) := by
  refine Met.ofW (cc := cX10_hedgeAt) (maxL := 1) (ret := some .int) (by decide +kernel) rfl ?_
  intro p e s m args below meth c s₁ B hml hv
  have hv : args = _ := hv
  subst hv
  have hx := B.exec
  have hb := B.bytes
  have hl := lv_entry [.int (nI i)] (n := 1) (Nat.le_of_ble_eq_true rfl)
  rw [lg_entry_eq]
  generalize (lg_sl [.int (nI i)] ++ List.replicate (1 - (lg_sl [.int (nI i)]).length) Slot.unset).toArray = ls at hl ⊢
  have hl : lv_has ls 1 [(0, .int (nI i))] := hl
  refine lv_bipush (v := nI 11) hx hb dX10_hedgeAt_0 (by decide) ?_
  refine lv_iconst (v := nI 3) hx hb dX10_hedgeAt_2 (by decide) ?_
  refine lv_iload_n hx hb dX10_hedgeAt_3 rfl (lv_at hl 0 rfl) ?_
  refine r_imulN hx hb (a := 3) (b := i) dX10_hedgeAt_4 ?_
  refine r_iaddN hx hb (a := 11) (b := 3 * i) dX10_hedgeAt_5 ?_
  exact W.zret (v := (nI (11 + 3 * i))) hx hb B.returns rfl (fun t ht hW => ⟨_, rfl, (rfl), ht⟩) (fun q h => by cases h) dX10_hedgeAt_6 B.notSynchronized
