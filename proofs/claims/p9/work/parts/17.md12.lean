theorem lkF_le {f : Nat → Int32} {sz u w : Nat} (h : u ≤ sz) : u + lkF f sz u w ≤ sz := (lkA_le (bgN (w + 1) - bgN w) 0).2 (by omega)
/-- what a command does to the row: none where it fails -/
def doF (m : Nat → Int32) (w : Nat) (a b c : Int32) : Option (Nat → Int32) := match w with
  | 0 => if (rgB 1 99 a && rgB 0 9 b && rgB 0 9 c) = true ∧ hM m < 6 then some (hedgeF m (hM m) a b c) else none
  | 1 => if (rgB 0 9 a && rgB 1 20 b) = true ∧ nM m < 12 then some (addF m (nM m) (-1) a b) else none
  | 2 => match fnd (fun k => m (29 + 4 * k)) a (nM m) with
    | none => none
    | some _ => if (rgB 0 9 b && rgB 1 20 c) = true ∧ nM m < 12 then some (addF m (nM m) a b c) else none
  | 3 => match fnd (fun k => m (29 + 4 * k)) a (nM m) with
    | none => none
    | some q => if rgB 0 9 b = true then some (prnR m q b.toNatClampNeg).1 else none
  | 4 => match fnd (fun k => m (29 + 4 * k)) a (nM m) with
    | none => none
    | some q => if nM m < 12 then match ltp (prM m) (nM m) q (nM m) with
        | none => none
        | some t => some (addF m (nM m) (m (29 + 4 * t)) (nI ((tnM m t + 1) % 10)) (hlfF (m (29 + 4 * t + 3))))
      else none
  | 5 => match fnd (fun k => m (29 + 4 * k)) a (nM m) with
    | none => none
    | some q => if hM m = 0 ∨ tipB (prM m) q (nM m) = false then none else some (votF m q)
  | _ => some (seaF ((snM m + 1) % 4) (upd m 3 (nI ((snM m + 1) % 4))) (hM m))
theorem doF_0 (m : Nat → Int32) (a b c : Int32) : doF m 0 a b c = (if (rgB 1 99 a && rgB 0 9 b && rgB 0 9 c) = true ∧ hM m < 6 then some (hedgeF m (hM m) a b c) else none) := rfl
theorem doF_1 (m : Nat → Int32) (a b c : Int32) : doF m 1 a b c = (if (rgB 0 9 a && rgB 1 20 b) = true ∧ nM m < 12 then some (addF m (nM m) (-1) a b) else none) := rfl
theorem doF_2 (m : Nat → Int32) (a b c : Int32) : doF m 2 a b c = (match fnd (fun k => m (29 + 4 * k)) a (nM m) with
    | none => none
    | some _ => if (rgB 0 9 b && rgB 1 20 c) = true ∧ nM m < 12 then some (addF m (nM m) a b c) else none) := rfl
theorem doF_3 (m : Nat → Int32) (a b c : Int32) : doF m 3 a b c = (match fnd (fun k => m (29 + 4 * k)) a (nM m) with
    | none => none
    | some q => if rgB 0 9 b = true then some (prnR m q b.toNatClampNeg).1 else none) := rfl
theorem doF_4 (m : Nat → Int32) (a b c : Int32) : doF m 4 a b c = (match fnd (fun k => m (29 + 4 * k)) a (nM m) with
    | none => none
    | some q => if nM m < 12 then match ltp (prM m) (nM m) q (nM m) with
        | none => none
        | some t => some (addF m (nM m) (m (29 + 4 * t)) (nI ((tnM m t + 1) % 10)) (hlfF (m (29 + 4 * t + 3))))
      else none) := rfl
theorem doF_5 (m : Nat → Int32) (a b c : Int32) : doF m 5 a b c = (match fnd (fun k => m (29 + 4 * k)) a (nM m) with
    | none => none
    | some q => if hM m = 0 ∨ tipB (prM m) q (nM m) = false then none else some (votF m q)) := rfl
theorem doF_6 (m : Nat → Int32) (a b c : Int32) : doF m 6 a b c = (some (seaF ((snM m + 1) % 4) (upd m 3 (nI ((snM m + 1) % 4))) (hM m))) := rfl
theorem gT_readCommand : GoodIn gw (wsV RX10 252 RX10 yX10_readCommand (Cond.code yX10_readCommand cX10_readCommand 4 (none) :: gw)) := gdV gw_2009 gw_2011 gw_52 gw_81 gw_2012
theorem hd_readCommand : yX10_readCommand.cls = RX10 ∧ yX10_readCommand.cls ≠ "java/lang/invoke/MethodHandle" ∧ yX10_readCommand.cls ≠ "java/lang/invoke/VarHandle" ∧ (parseMethodDescriptor yX10_readCommand.desc).map (fun d => d.parameters.length) = some 0 := ⟨rfl, by decide +kernel, by decide +kernel, by decide +kernel⟩
theorem dX10_readCommand_0 : decode cX10_readCommand 0 = .ok (.iconst 4, 1) := by decide +kernel
theorem dX10_readCommand_1 : decode cX10_readCommand 1 = .ok (.aload_n 0, 1) := by decide +kernel
theorem dX10_readCommand_2 : decode cX10_readCommand 2 = .ok (.getfield 242, 3) := by decide +kernel
theorem dX10_readCommand_5 : decode cX10_readCommand 5 = .ok (.imul, 1) := by decide +kernel
theorem dX10_readCommand_6 : decode cX10_readCommand 6 = .ok (.istore_n 1, 1) := by decide +kernel
theorem dX10_readCommand_7 : decode cX10_readCommand 7 = .ok (.iconst 0, 1) := by decide +kernel
theorem dX10_readCommand_8 : decode cX10_readCommand 8 = .ok (.istore_n 2, 1) := by decide +kernel
theorem dX10_readCommand_9 : decode cX10_readCommand 9 = .ok (.iconst 1, 1) := by decide +kernel
theorem dX10_readCommand_10 : decode cX10_readCommand 10 = .ok (.istore_n 3, 1) := by decide +kernel
theorem dX10_readCommand_11 : decode cX10_readCommand 11 = .ok (.iload_n 3, 1) := by decide +kernel
theorem dX10_readCommand_12 : decode cX10_readCommand 12 = .ok (.bipush 7, 2) := by decide +kernel
theorem dX10_readCommand_14 : decode cX10_readCommand 14 = .ok (.if_icmp .ge 28, 3) := by decide +kernel
theorem dX10_readCommand_17 : decode cX10_readCommand 17 = .ok (.aload_n 0, 1) := by decide +kernel
theorem dX10_readCommand_18 : decode cX10_readCommand 18 = .ok (.iload_n 3, 1) := by decide +kernel
theorem dX10_readCommand_19 : decode cX10_readCommand 19 = .ok (.invokevirtual 245, 3) := by decide +kernel
theorem dX10_readCommand_22 : decode cX10_readCommand 22 = .ok (.aload_n 0, 1) := by decide +kernel
theorem dX10_readCommand_23 : decode cX10_readCommand 23 = .ok (.iload_n 2, 1) := by decide +kernel
theorem dX10_readCommand_24 : decode cX10_readCommand 24 = .ok (.invokevirtual 245, 3) := by decide +kernel
theorem dX10_readCommand_27 : decode cX10_readCommand 27 = .ok (.if_icmp .le 7, 3) := by decide +kernel
theorem dX10_readCommand_30 : decode cX10_readCommand 30 = .ok (.iload_n 3, 1) := by decide +kernel
theorem dX10_readCommand_31 : decode cX10_readCommand 31 = .ok (.goto 4, 3) := by decide +kernel
theorem dX10_readCommand_34 : decode cX10_readCommand 34 = .ok (.iload_n 2, 1) := by decide +kernel
theorem dX10_readCommand_35 : decode cX10_readCommand 35 = .ok (.istore_n 2, 1) := by decide +kernel
theorem dX10_readCommand_36 : decode cX10_readCommand 36 = .ok (.iinc 3 1, 3) := by decide +kernel
theorem dX10_readCommand_39 : decode cX10_readCommand 39 = .ok (.goto (-28), 3) := by decide +kernel
theorem dX10_readCommand_42 : decode cX10_readCommand 42 = .ok (.aload_n 0, 1) := by decide +kernel
theorem dX10_readCommand_43 : decode cX10_readCommand 43 = .ok (.iload_n 2, 1) := by decide +kernel
theorem dX10_readCommand_44 : decode cX10_readCommand 44 = .ok (.invokevirtual 245, 3) := by decide +kernel
theorem dX10_readCommand_47 : decode cX10_readCommand 47 = .ok (.istore_n 3, 1) := by decide +kernel
theorem dX10_readCommand_48 : decode cX10_readCommand 48 = .ok (.aload_n 0, 1) := by decide +kernel
theorem dX10_readCommand_49 : decode cX10_readCommand 49 = .ok (.dup, 1) := by decide +kernel
theorem dX10_readCommand_50 : decode cX10_readCommand 50 = .ok (.getfield 210, 3) := by decide +kernel
theorem dX10_readCommand_53 : decode cX10_readCommand 53 = .ok (.iload_n 3, 1) := by decide +kernel
theorem dX10_readCommand_54 : decode cX10_readCommand 54 = .ok (.iadd, 1) := by decide +kernel
theorem dX10_readCommand_55 : decode cX10_readCommand 55 = .ok (.putfield 210, 3) := by decide +kernel
theorem dX10_readCommand_58 : decode cX10_readCommand 58 = .ok (.aload_n 0, 1) := by decide +kernel
theorem dX10_readCommand_59 : decode cX10_readCommand 59 = .ok (.iload_n 3, 1) := by decide +kernel
theorem dX10_readCommand_60 : decode cX10_readCommand 60 = .ok (.aload_n 0, 1) := by decide +kernel
theorem dX10_readCommand_61 : decode cX10_readCommand 61 = .ok (.getfield 48, 3) := by decide +kernel
theorem dX10_readCommand_64 : decode cX10_readCommand 64 = .ok (.iload_n 2, 1) := by decide +kernel
theorem dX10_readCommand_65 : decode cX10_readCommand 65 = .ok (.iconst 1, 1) := by decide +kernel
theorem dX10_readCommand_66 : decode cX10_readCommand 66 = .ok (.iadd, 1) := by decide +kernel
theorem dX10_readCommand_67 : decode cX10_readCommand 67 = .ok (.iaload, 1) := by decide +kernel
theorem dX10_readCommand_68 : decode cX10_readCommand 68 = .ok (.aload_n 0, 1) := by decide +kernel
theorem dX10_readCommand_69 : decode cX10_readCommand 69 = .ok (.getfield 48, 3) := by decide +kernel
theorem dX10_readCommand_72 : decode cX10_readCommand 72 = .ok (.iload_n 2, 1) := by decide +kernel
theorem dX10_readCommand_73 : decode cX10_readCommand 73 = .ok (.iaload, 1) := by decide +kernel
theorem dX10_readCommand_74 : decode cX10_readCommand 74 = .ok (.isub, 1) := by decide +kernel
theorem dX10_readCommand_75 : decode cX10_readCommand 75 = .ok (.if_icmp .ge 7, 3) := by decide +kernel
theorem dX10_readCommand_78 : decode cX10_readCommand 78 = .ok (.iconst 1, 1) := by decide +kernel
theorem dX10_readCommand_79 : decode cX10_readCommand 79 = .ok (.goto 4, 3) := by decide +kernel
theorem dX10_readCommand_82 : decode cX10_readCommand 82 = .ok (.iconst 0, 1) := by decide +kernel
theorem dX10_readCommand_83 : decode cX10_readCommand 83 = .ok (.putfield 216, 3) := by decide +kernel
theorem dX10_readCommand_86 : decode cX10_readCommand 86 = .ok (.aload_n 0, 1) := by decide +kernel
theorem dX10_readCommand_87 : decode cX10_readCommand 87 = .ok (.getfield 216, 3) := by decide +kernel
theorem dX10_readCommand_90 : decode cX10_readCommand 90 = .ok (.ifCond .ne 28, 3) := by decide +kernel
theorem dX10_readCommand_93 : decode cX10_readCommand 93 = .ok (.aload_n 0, 1) := by decide +kernel
theorem dX10_readCommand_94 : decode cX10_readCommand 94 = .ok (.getfield 51, 3) := by decide +kernel
theorem dX10_readCommand_97 : decode cX10_readCommand 97 = .ok (.iload_n 1, 1) := by decide +kernel
theorem dX10_readCommand_98 : decode cX10_readCommand 98 = .ok (.iload_n 2, 1) := by decide +kernel
theorem dX10_readCommand_99 : decode cX10_readCommand 99 = .ok (.iastore, 1) := by decide +kernel
theorem dX10_readCommand_100 : decode cX10_readCommand 100 = .ok (.aload_n 0, 1) := by decide +kernel
theorem dX10_readCommand_101 : decode cX10_readCommand 101 = .ok (.dup, 1) := by decide +kernel
theorem dX10_readCommand_102 : decode cX10_readCommand 102 = .ok (.getfield 242, 3) := by decide +kernel
theorem dX10_readCommand_105 : decode cX10_readCommand 105 = .ok (.iconst 1, 1) := by decide +kernel
theorem dX10_readCommand_106 : decode cX10_readCommand 106 = .ok (.iadd, 1) := by decide +kernel
theorem dX10_readCommand_107 : decode cX10_readCommand 107 = .ok (.putfield 242, 3) := by decide +kernel
theorem dX10_readCommand_110 : decode cX10_readCommand 110 = .ok (.aload_n 0, 1) := by decide +kernel
theorem dX10_readCommand_111 : decode cX10_readCommand 111 = .ok (.iload_n 2, 1) := by decide +kernel
theorem dX10_readCommand_112 : decode cX10_readCommand 112 = .ok (.iload_n 1, 1) := by decide +kernel
theorem dX10_readCommand_113 : decode cX10_readCommand 113 = .ok (.iconst 1, 1) := by decide +kernel
theorem dX10_readCommand_114 : decode cX10_readCommand 114 = .ok (.iadd, 1) := by decide +kernel
theorem dX10_readCommand_115 : decode cX10_readCommand 115 = .ok (.invokevirtual 248, 3) := by decide +kernel
theorem dX10_readCommand_118 : decode cX10_readCommand 118 = .ok (.return_, 1) := by decide +kernel
set_option maxHeartbeats 4000000 in
set_option maxRecDepth 20000 in
theorem m_readCommand (l : Launch) (D : va_G) (aT : Nat → ClassId) (ad : Nat → Nat) (S : MSt) (u sz k : Nat) (cm : Nat → Int32) (hsz : S 13 22 = nI sz) (h60 : sz ≤ 60) (hp : u ≤ sz) (hk : k ≤ 60) (hwd : WdOk S) : MdV l yX10_readCommand cX10_readCommand 4 5 109 D aT ad [.ref (ad 0)] (psT S u false k cm) (fun S1 => S1 = psT S (cmdP (S 4) sz k cm u).1.1 (cmdP (S 4) sz k cm u).1.2 (cmdP (S 4) sz k cm u).2.1 (cmdP (S 4) sz k cm u).2.2) := by
  refine MdV.of (by decide +kernel) rfl (Nat.le_of_ble_eq_true rfl) ?_
  intro p e s m below meth c A ls C hml hl hA hr hlocks hW
  have hl : lv_has ls 4 [(0, .ref (ad 0))] := hl
  have hx := C.1
  have hb := C.2.1
  refine lv_iconst (v := nI 4) hx hb dX10_readCommand_0 (by decide) ?_
  refine lv_aload_n hx hb dX10_readCommand_1 rfl (lv_at hl 0 rfl) ?_
  refine md_get_commandMany C hW dX10_readCommand_2 ?_
  refine r_eq (y := (nI k)) (rfl) ?_
  refine r_imulN hx hb (a := 4) (b := k) dX10_readCommand_5 ?_
  refine lv_istore_n (lv' := [(1, .int (nI (4 * k))), (0, .ref (ad 0))]) hx hb dX10_readCommand_6 rfl hl (by decide) rfl (fun ls hl => ?_)
  refine lv_iconst (v := nI 0) hx hb dX10_readCommand_7 (by decide) ?_
  refine lv_istore_n (lv' := [(2, .int (nI 0)), (1, .int (nI (4 * k))), (0, .ref (ad 0))]) hx hb dX10_readCommand_8 rfl hl (by decide) rfl (fun ls hl => ?_)
  refine lv_iconst (v := nI 1) hx hb dX10_readCommand_9 (by decide) ?_
  refine lv_istore_n (lv' := [(3, .int (nI 1)), (2, .int (nI 0)), (1, .int (nI (4 * k))), (0, .ref (ad 0))]) hx hb dX10_readCommand_10 rfl hl (by decide) rfl (fun ls hl => ?_)
  refine W_loopH (σ := Nat) (fun z_ => 6 - z_) (fun z_ H locs g => ∃ ls, g = F0 m 11 ls [] ∧ lv_has ls 4 [(0, .ref (ad 0)), (1, .int (nI (4 * k))), (2, .int (nI (wdP (S 4) sz u z_))), (3, .int (nI (z_ + 1)))] ∧ MdB D aT ad (psT S u false k cm) A s.heap H locs ∧ (z_ ≤ 6)) ?_ 0 _ ⟨_, rfl, lv_sub hl [3, 2, 1, 0] rfl, hW, Nat.zero_le _⟩
  clear hW hl
  rintro j H locs g ⟨ls, rfl, hl, hW, hj⟩ ih_11
  have hwl := wdP_le (f := S 4) (sz := sz) (u := u) j
  refine lv_iload_n hx hb dX10_readCommand_11 rfl (lv_at hl 3 rfl) ?_
  refine lv_bipush (v := nI 7) hx hb dX10_readCommand_12 (by decide) ?_
  refine r_geN hx hb (a := j + 1) (b := 7) (by omega) (by omega) (tgt := 42) dX10_readCommand_14 (by decide) (fun c_14 => ?_) (fun c_14 => ?_)
  · obtain rfl : j = 6 := by omega
    have hw6 := wdP_le (f := S 4) (sz := sz) (u := u) 6
    have hbg := bgN_in (wdP (S 4) sz u 6) (by omega)
    have hlk := lkF_le (f := S 4) (w := (wdP (S 4) sz u 6)) hp
    refine lv_aload_n hx hb dX10_readCommand_42 rfl (lv_at hl 0 rfl) ?_
    refine lv_iload_n hx hb dX10_readCommand_43 rfl (lv_at hl 2 rfl) ?_
    refine md_callg C hml hl.1 (As := [.int (nI (wdP (S 4) sz u 6))]) (rest := []) (m_likeness l D aT ad S u sz k false cm hsz h60 (hp) (wdP (S 4) sz u 6) (by omega) hwd) gT_likeness hd_likeness rfl ⟨Nat.le_of_ble_eq_true rfl, Nat.le_of_ble_eq_true rfl⟩ ⟨Nat.le_refl _, Nat.le_refl _⟩ hW hA rfl (Nat.le_of_ble_eq_true rfl) dX10_readCommand_44 (fun r_44 H locs hq hW => ?_)
    subst hq
    refine lv_istore_n (lv' := [(3, .int (nI (lkF (S 4) sz u (wdP (S 4) sz u 6)))), (0, .ref (ad 0)), (1, .int (nI (4 * k))), (2, .int (nI (wdP (S 4) sz u 6)))]) hx hb dX10_readCommand_47 rfl hl (by decide) rfl (fun ls hl => ?_)
    refine lv_aload_n hx hb dX10_readCommand_48 rfl (lv_at hl 1 rfl) ?_
    refine lv_dup hx hb dX10_readCommand_49 rfl ?_
    refine md_get_place0 C hW dX10_readCommand_50 ?_
    refine r_eq (y := (nI u)) (rfl) ?_
    refine lv_iload_n hx hb dX10_readCommand_53 rfl (lv_at hl 0 rfl) ?_
    refine r_iaddN hx hb (a := u) (b := (lkF (S 4) sz u (wdP (S 4) sz u 6))) dX10_readCommand_54 ?_
    refine md_put_place0 C hW dX10_readCommand_55 (fun H locs hW => ?_)
    have hW : MdB D aT ad (psT S (u + (lkF (S 4) sz u (wdP (S 4) sz u 6))) false k cm) A s.heap H locs := by rw [← psT_p S u false k cm (u + (lkF (S 4) sz u (wdP (S 4) sz u 6)))]; exact hW
    refine lv_aload_n hx hb dX10_readCommand_58 rfl (lv_at hl 1 rfl) ?_
    refine lv_iload_n hx hb dX10_readCommand_59 rfl (lv_at hl 0 rfl) ?_
    refine lv_aload_n hx hb dX10_readCommand_60 rfl (lv_at hl 1 rfl) ?_
    refine md_geta_begins0 C hW dX10_readCommand_61 ?_
    refine lv_iload_n hx hb dX10_readCommand_64 rfl (lv_at hl 3 rfl) ?_
    refine lv_iconst (v := nI 1) hx hb dX10_readCommand_65 (by decide) ?_
    refine r_iaddN hx hb (a := (wdP (S 4) sz u 6)) (b := 1) dX10_readCommand_66 ?_
    refine md_ald_begins0 C hW (i := (wdP (S 4) sz u 6) + 1) (by omega) dX10_readCommand_67 ?_
    refine r_eq (y := (nI (bgN ((wdP (S 4) sz u 6) + 1)))) (hwd.1 _ (by omega)) ?_
    refine lv_aload_n hx hb dX10_readCommand_68 rfl (lv_at hl 1 rfl) ?_
    refine md_geta_begins0 C hW dX10_readCommand_69 ?_
    refine lv_iload_n hx hb dX10_readCommand_72 rfl (lv_at hl 3 rfl) ?_
    refine md_ald_begins0 C hW (i := (wdP (S 4) sz u 6)) (by omega) dX10_readCommand_73 ?_
    refine r_eq (y := (nI (bgN (wdP (S 4) sz u 6)))) (hwd.1 _ (by omega)) ?_
    refine r_isubN hx hb (a := (bgN ((wdP (S 4) sz u 6) + 1))) (b := (bgN (wdP (S 4) sz u 6))) (by omega) dX10_readCommand_74 ?_
    refine r_geN hx hb (a := (lkF (S 4) sz u (wdP (S 4) sz u 6))) (b := (bgN ((wdP (S 4) sz u 6) + 1)) - (bgN (wdP (S 4) sz u 6))) (by omega) (by omega) (tgt := 82) dX10_readCommand_75 (by decide) (fun c_75 => ?_) (fun c_75 => ?_)
    · refine lv_iconst (v := nI 0) hx hb dX10_readCommand_82 (by decide) ?_
      refine md_put_isWrong C hW (by decide) (by decide) dX10_readCommand_83 (fun H locs hW => ?_)
      have hW : MdB D aT ad (psT S (u + (lkF (S 4) sz u (wdP (S 4) sz u 6))) false k cm) A s.heap H locs := by rw [← psT_w S (u + (lkF (S 4) sz u (wdP (S 4) sz u 6))) false k cm false]; exact hW
      refine lv_aload_n hx hb dX10_readCommand_86 rfl (lv_at hl 1 rfl) ?_
      refine md_get_isWrong C hW dX10_readCommand_87 ?_
      refine r_eq (y := (bI false)) (rfl) ?_
      refine r_bI_ne hx hb (b := false) (tgt := 118) dX10_readCommand_90 (by decide) (fun c_90 => ?_) (fun c_90 => ?_)
      · exact absurd c_90 (by decide)
      · refine lv_aload_n hx hb dX10_readCommand_93 rfl (lv_at hl 1 rfl) ?_
        refine md_geta_commands C hW dX10_readCommand_94 ?_
        refine lv_iload_n hx hb dX10_readCommand_97 rfl (lv_at hl 2 rfl) ?_
        refine lv_iload_n hx hb dX10_readCommand_98 rfl (lv_at hl 3 rfl) ?_
        refine md_ast_commands C hW (i := 4 * k) (by omega) dX10_readCommand_99 (fun H locs hW => ?_)
        have hW : MdB D aT ad (psT S (u + (lkF (S 4) sz u (wdP (S 4) sz u 6))) false k (upd cm (4 * k) ((nI (wdP (S 4) sz u 6))))) A s.heap H locs := by rw [← psT_c S (u + (lkF (S 4) sz u (wdP (S 4) sz u 6))) false k cm (upd cm (4 * k) ((nI (wdP (S 4) sz u 6))))]; exact hW
        refine lv_aload_n hx hb dX10_readCommand_100 rfl (lv_at hl 1 rfl) ?_
        refine lv_dup hx hb dX10_readCommand_101 rfl ?_
        refine md_get_commandMany C hW dX10_readCommand_102 ?_
        refine r_eq (y := (nI k)) (rfl) ?_
        refine lv_iconst (v := nI 1) hx hb dX10_readCommand_105 (by decide) ?_
        refine r_iaddN hx hb (a := k) (b := 1) dX10_readCommand_106 ?_
        refine md_put_commandMany C hW dX10_readCommand_107 (fun H locs hW => ?_)
        have hW : MdB D aT ad (psT S (u + (lkF (S 4) sz u (wdP (S 4) sz u 6))) false (k + 1) (upd cm (4 * k) ((nI (wdP (S 4) sz u 6))))) A s.heap H locs := by rw [← psT_k S (u + (lkF (S 4) sz u (wdP (S 4) sz u 6))) false k (upd cm (4 * k) ((nI (wdP (S 4) sz u 6)))) (k + 1)]; exact hW
        refine lv_aload_n hx hb dX10_readCommand_110 rfl (lv_at hl 1 rfl) ?_
        refine lv_iload_n hx hb dX10_readCommand_111 rfl (lv_at hl 3 rfl) ?_
        refine lv_iload_n hx hb dX10_readCommand_112 rfl (lv_at hl 2 rfl) ?_
        refine lv_iconst (v := nI 1) hx hb dX10_readCommand_113 (by decide) ?_
        refine r_iaddN hx hb (a := 4 * k) (b := 1) dX10_readCommand_114 ?_
        refine md_callv C hml hl.1 (As := [.int (nI (wdP (S 4) sz u 6)), .int (nI (4 * k + 1))]) (rest := []) (m_readArguments_all l D aT ad S (u + (lkF (S 4) sz u (wdP (S 4) sz u 6))) sz (k + 1) false (upd cm (4 * k) ((nI (wdP (S 4) sz u 6)))) hsz h60 hlk (4 * k + 1) (by omega) (wdP (S 4) sz u 6) (by omega)) gT_readArguments hd_readArguments rfl ⟨Nat.le_of_ble_eq_true rfl, Nat.le_of_ble_eq_true rfl⟩ ⟨Nat.le_refl _, Nat.le_refl _⟩ hW hA rfl (Nat.le_of_ble_eq_true rfl) dX10_readCommand_115 (fun S_115 H locs hq hW => ?_)
        subst hq
        exact md_vret C hr hlocks hW (by unfold cmdP; rw [if_neg (Nat.not_lt.mpr c_75)]; try rfl) dX10_readCommand_118
    · refine lv_iconst (v := nI 1) hx hb dX10_readCommand_78 (by decide) ?_
      refine lv_goto (tgt := 83) hx hb dX10_readCommand_79 (by decide) ?_
      refine md_put_isWrong C hW (by decide) (by decide) dX10_readCommand_83 (fun H locs hW => ?_)
      have hW : MdB D aT ad (psT S (u + (lkF (S 4) sz u (wdP (S 4) sz u 6))) true k cm) A s.heap H locs := by rw [← psT_w S (u + (lkF (S 4) sz u (wdP (S 4) sz u 6))) false k cm true]; exact hW
      refine lv_aload_n hx hb dX10_readCommand_86 rfl (lv_at hl 1 rfl) ?_
      refine md_get_isWrong C hW dX10_readCommand_87 ?_
      refine r_eq (y := (bI true)) (rfl) ?_
      refine r_bI_ne hx hb (b := true) (tgt := 118) dX10_readCommand_90 (by decide) (fun c_90 => ?_) (fun c_90 => ?_)
      · exact md_vret C hr hlocks hW (by unfold cmdP; rw [if_pos c_75]; try rfl) dX10_readCommand_118
      · exact absurd c_90 (by decide)
  · refine lv_aload_n hx hb dX10_readCommand_17 rfl (lv_at hl 0 rfl) ?_
    refine lv_iload_n hx hb dX10_readCommand_18 rfl (lv_at hl 3 rfl) ?_
    refine md_callg C hml hl.1 (As := [.int (nI (j + 1))]) (rest := []) (m_likeness l D aT ad S u sz k false cm hsz h60 (hp) (j + 1) (by omega) hwd) gT_likeness hd_likeness rfl ⟨Nat.le_of_ble_eq_true rfl, Nat.le_of_ble_eq_true rfl⟩ ⟨Nat.le_refl _, Nat.le_refl _⟩ hW hA rfl (Nat.le_of_ble_eq_true rfl) dX10_readCommand_19 (fun r_19 H locs hq hW => ?_)
    subst hq
    refine lv_aload_n hx hb dX10_readCommand_22 rfl (lv_at hl 0 rfl) ?_
    refine lv_iload_n hx hb dX10_readCommand_23 rfl (lv_at hl 2 rfl) ?_
    refine md_callg C hml hl.1 (As := [.int (nI (wdP (S 4) sz u j))]) (rest := [.int (nI (lkF (S 4) sz u (j + 1)))]) (m_likeness l D aT ad S u sz k false cm hsz h60 (hp) (wdP (S 4) sz u j) (by omega) hwd) gT_likeness hd_likeness rfl ⟨Nat.le_of_ble_eq_true rfl, Nat.le_of_ble_eq_true rfl⟩ ⟨Nat.le_refl _, Nat.le_refl _⟩ hW hA rfl (Nat.le_of_ble_eq_true rfl) dX10_readCommand_24 (fun r_24 H locs hq hW => ?_)
    subst hq
    refine r_leN hx hb (a := (lkF (S 4) sz u (j + 1))) (b := (lkF (S 4) sz u (wdP (S 4) sz u j))) (by have := lkF_le (f := S 4) (w := j + 1) hp; have := lkF_le (f := S 4) (w := wdP (S 4) sz u j) hp; omega) (by have := lkF_le (f := S 4) (w := j + 1) hp; have := lkF_le (f := S 4) (w := wdP (S 4) sz u j) hp; omega) (tgt := 34) dX10_readCommand_27 (by decide) (fun c_27 => ?_) (fun c_27 => ?_)
    · refine lv_iload_n hx hb dX10_readCommand_34 rfl (lv_at hl 2 rfl) ?_
      refine r_eq (y := nI (wdP (S 4) sz u (j + 1))) (congrArg nI (by rw [wdP, if_neg (Nat.not_lt.mpr c_27)])) ?_
      refine lv_istore_n (lv' := [(2, .int (nI (wdP (S 4) sz u (j + 1)))), (0, .ref (ad 0)), (1, .int (nI (4 * k))), (3, .int (nI (j + 1)))]) hx hb dX10_readCommand_35 rfl hl (by decide) rfl (fun ls hl => ?_)
      refine lv_iinc (v := (nI ((j + 1) + 1))) (lv' := [(3, .int (nI ((j + 1) + 1))), (2, .int (nI (wdP (S 4) sz u (j + 1)))), (0, .ref (ad 0)), (1, .int (nI (4 * k)))]) hx hb dX10_readCommand_36 hl (k := 3) rfl (nI_1 _) (by decide) rfl (fun ls hl => ?_)
      refine lv_goto (tgt := 11) hx hb dX10_readCommand_39 (by decide) ?_
      exact ih_11 (j + 1) _ _ _ (by omega) ⟨_, rfl, lv_sub hl [2, 3, 1, 0] rfl, hW, (by omega)⟩
    · refine lv_iload_n hx hb dX10_readCommand_30 rfl (lv_at hl 3 rfl) ?_
      refine lv_goto (tgt := 35) hx hb dX10_readCommand_31 (by decide) ?_
      refine r_eq (y := nI (wdP (S 4) sz u (j + 1))) (congrArg nI (by rw [wdP, if_pos c_27])) ?_
      refine lv_istore_n (lv' := [(2, .int (nI (wdP (S 4) sz u (j + 1)))), (0, .ref (ad 0)), (1, .int (nI (4 * k))), (3, .int (nI (j + 1)))]) hx hb dX10_readCommand_35 rfl hl (by decide) rfl (fun ls hl => ?_)
      refine lv_iinc (v := (nI ((j + 1) + 1))) (lv' := [(3, .int (nI ((j + 1) + 1))), (2, .int (nI (wdP (S 4) sz u (j + 1)))), (0, .ref (ad 0)), (1, .int (nI (4 * k)))]) hx hb dX10_readCommand_36 hl (k := 3) rfl (nI_1 _) (by decide) rfl (fun ls hl => ?_)
      refine lv_goto (tgt := 11) hx hb dX10_readCommand_39 (by decide) ?_
      exact ih_11 (j + 1) _ _ _ (by omega) ⟨_, rfl, lv_sub hl [2, 3, 1, 0] rfl, hW, (by omega)⟩
theorem gT_does : GoodIn gw (wsV RX10 255 RX10 yX10_does (Cond.code yX10_does cX10_does 5 (none) :: gw)) := gdV gw_2047 gw_2049 gw_61 gw_81 gw_2050
theorem hd_does : yX10_does.cls = RX10 ∧ yX10_does.cls ≠ "java/lang/invoke/MethodHandle" ∧ yX10_does.cls ≠ "java/lang/invoke/VarHandle" ∧ (parseMethodDescriptor yX10_does.desc).map (fun d => d.parameters.length) = some 1 := ⟨rfl, by decide +kernel, by decide +kernel, by decide +kernel⟩
theorem dX10_does_0 : decode cX10_does 0 = .ok (.aload_n 0, 1) := by decide +kernel
theorem dX10_does_1 : decode cX10_does 1 = .ok (.getfield 51, 3) := by decide +kernel
theorem dX10_does_4 : decode cX10_does 4 = .ok (.iload_n 1, 1) := by decide +kernel
theorem dX10_does_5 : decode cX10_does 5 = .ok (.iconst 1, 1) := by decide +kernel
theorem dX10_does_6 : decode cX10_does 6 = .ok (.iadd, 1) := by decide +kernel
theorem dX10_does_7 : decode cX10_does 7 = .ok (.iaload, 1) := by decide +kernel
theorem dX10_does_8 : decode cX10_does 8 = .ok (.istore_n 2, 1) := by decide +kernel
theorem dX10_does_9 : decode cX10_does 9 = .ok (.aload_n 0, 1) := by decide +kernel
theorem dX10_does_10 : decode cX10_does 10 = .ok (.getfield 51, 3) := by decide +kernel
theorem dX10_does_13 : decode cX10_does 13 = .ok (.iload_n 1, 1) := by decide +kernel
theorem dX10_does_14 : decode cX10_does 14 = .ok (.iconst 2, 1) := by decide +kernel
theorem dX10_does_15 : decode cX10_does 15 = .ok (.iadd, 1) := by decide +kernel
theorem dX10_does_16 : decode cX10_does 16 = .ok (.iaload, 1) := by decide +kernel
theorem dX10_does_17 : decode cX10_does 17 = .ok (.istore_n 3, 1) := by decide +kernel
theorem dX10_does_18 : decode cX10_does 18 = .ok (.aload_n 0, 1) := by decide +kernel
theorem dX10_does_19 : decode cX10_does 19 = .ok (.getfield 51, 3) := by decide +kernel
theorem dX10_does_22 : decode cX10_does 22 = .ok (.iload_n 1, 1) := by decide +kernel
theorem dX10_does_23 : decode cX10_does 23 = .ok (.iconst 3, 1) := by decide +kernel
theorem dX10_does_24 : decode cX10_does 24 = .ok (.iadd, 1) := by decide +kernel
theorem dX10_does_25 : decode cX10_does 25 = .ok (.iaload, 1) := by decide +kernel
theorem dX10_does_26 : decode cX10_does 26 = .ok (.istore 4, 2) := by decide +kernel
theorem dX10_does_28 : decode cX10_does 28 = .ok (.aload_n 0, 1) := by decide +kernel
theorem dX10_does_29 : decode cX10_does 29 = .ok (.getfield 51, 3) := by decide +kernel
theorem dX10_does_32 : decode cX10_does 32 = .ok (.iload_n 1, 1) := by decide +kernel
theorem dX10_does_33 : decode cX10_does 33 = .ok (.iaload, 1) := by decide +kernel
theorem dX10_does_34 : decode cX10_does 34 = .ok (.tableswitch 100 0 5 #[38, 50, 60, 72, 82, 91], 38) := by decide +kernel
theorem dX10_does_72 : decode cX10_does 72 = .ok (.aload_n 0, 1) := by decide +kernel
theorem dX10_does_73 : decode cX10_does 73 = .ok (.iload_n 2, 1) := by decide +kernel
theorem dX10_does_74 : decode cX10_does 74 = .ok (.iload_n 3, 1) := by decide +kernel
theorem dX10_does_75 : decode cX10_does 75 = .ok (.iload 4, 2) := by decide +kernel
theorem dX10_does_77 : decode cX10_does 77 = .ok (.invokevirtual 107, 3) := by decide +kernel
theorem dX10_does_80 : decode cX10_does 80 = .ok (.pop, 1) := by decide +kernel
theorem dX10_does_81 : decode cX10_does 81 = .ok (.goto 58, 3) := by decide +kernel
theorem dX10_does_84 : decode cX10_does 84 = .ok (.aload_n 0, 1) := by decide +kernel
theorem dX10_does_85 : decode cX10_does 85 = .ok (.iload_n 2, 1) := by decide +kernel
theorem dX10_does_86 : decode cX10_does 86 = .ok (.iload_n 3, 1) := by decide +kernel
theorem dX10_does_87 : decode cX10_does 87 = .ok (.invokevirtual 119, 3) := by decide +kernel
theorem dX10_does_90 : decode cX10_does 90 = .ok (.pop, 1) := by decide +kernel
theorem dX10_does_91 : decode cX10_does 91 = .ok (.goto 48, 3) := by decide +kernel
theorem dX10_does_94 : decode cX10_does 94 = .ok (.aload_n 0, 1) := by decide +kernel
theorem dX10_does_95 : decode cX10_does 95 = .ok (.iload_n 2, 1) := by decide +kernel
theorem dX10_does_96 : decode cX10_does 96 = .ok (.iload_n 3, 1) := by decide +kernel
theorem dX10_does_97 : decode cX10_does 97 = .ok (.iload 4, 2) := by decide +kernel
theorem dX10_does_99 : decode cX10_does 99 = .ok (.invokevirtual 122, 3) := by decide +kernel
theorem dX10_does_102 : decode cX10_does 102 = .ok (.pop, 1) := by decide +kernel
theorem dX10_does_103 : decode cX10_does 103 = .ok (.goto 36, 3) := by decide +kernel
theorem dX10_does_106 : decode cX10_does 106 = .ok (.aload_n 0, 1) := by decide +kernel
theorem dX10_does_107 : decode cX10_does 107 = .ok (.iload_n 2, 1) := by decide +kernel
theorem dX10_does_108 : decode cX10_does 108 = .ok (.iload_n 3, 1) := by decide +kernel
theorem dX10_does_109 : decode cX10_does 109 = .ok (.invokevirtual 132, 3) := by decide +kernel
theorem dX10_does_112 : decode cX10_does 112 = .ok (.pop, 1) := by decide +kernel
theorem dX10_does_113 : decode cX10_does 113 = .ok (.goto 26, 3) := by decide +kernel
theorem dX10_does_116 : decode cX10_does 116 = .ok (.aload_n 0, 1) := by decide +kernel
theorem dX10_does_117 : decode cX10_does 117 = .ok (.iload_n 2, 1) := by decide +kernel
theorem dX10_does_118 : decode cX10_does 118 = .ok (.invokevirtual 141, 3) := by decide +kernel
theorem dX10_does_121 : decode cX10_does 121 = .ok (.pop, 1) := by decide +kernel
theorem dX10_does_122 : decode cX10_does 122 = .ok (.goto 17, 3) := by decide +kernel
theorem dX10_does_125 : decode cX10_does 125 = .ok (.aload_n 0, 1) := by decide +kernel
theorem dX10_does_126 : decode cX10_does 126 = .ok (.iload_n 2, 1) := by decide +kernel
theorem dX10_does_127 : decode cX10_does 127 = .ok (.invokevirtual 157, 3) := by decide +kernel
theorem dX10_does_130 : decode cX10_does 130 = .ok (.pop, 1) := by decide +kernel
theorem dX10_does_131 : decode cX10_does 131 = .ok (.goto 8, 3) := by decide +kernel
theorem dX10_does_134 : decode cX10_does 134 = .ok (.aload_n 0, 1) := by decide +kernel
theorem dX10_does_135 : decode cX10_does 135 = .ok (.invokevirtual 163, 3) := by decide +kernel
theorem dX10_does_138 : decode cX10_does 138 = .ok (.pop, 1) := by decide +kernel
theorem dX10_does_139 : decode cX10_does 139 = .ok (.return_, 1) := by decide +kernel
set_option maxHeartbeats 2000000 in
set_option maxRecDepth 20000 in
theorem m_does (l : Launch) (D : va_G) (aT : Nat → ClassId) (ad : Nat → Nat) (S : MSt) (fr s0 : Nat) (hfr : fr + 3 < 244) (hw : S 11 fr = nI 0) (hF : FoW (S 0)) (hH : HeW (S 0)) (hs : S 0 3 = nI s0) (hs4 : s0 < 4) : MdV l yX10_does cX10_does 5 6 134 D aT ad [.ref (ad 0), .int (nI fr)] S (fun S1 => (doF (S 0) 0 (S 11 (fr + 1)) (S 11 (fr + 2)) (S 11 (fr + 3)) = none ∧ ∃ t, 0 < t ∧ t < 4 ∧ S1 = ss S 8 (nI t)) ∨ (∃ m1, doF (S 0) 0 (S 11 (fr + 1)) (S 11 (fr + 2)) (S 11 (fr + 3)) = some m1 ∧ S1 = sr S 0 m1)) := by
  refine MdV.of (by decide +kernel) rfl (Nat.le_of_ble_eq_true rfl) ?_
  intro p e s m below meth c A ls C hml hl hA hr hlocks hW
  have hl : lv_has ls 5 [(0, .ref (ad 0)), (1, .int (nI fr))] := hl
  have hx := C.1
  have hb := C.2.1
  refine lv_aload_n hx hb dX10_does_0 rfl (lv_at hl 0 rfl) ?_
  refine md_geta_commands C hW dX10_does_1 ?_
  refine lv_iload_n hx hb dX10_does_4 rfl (lv_at hl 1 rfl) ?_
  refine lv_iconst (v := nI 1) hx hb dX10_does_5 (by decide) ?_
  refine r_iaddN hx hb (a := fr) (b := 1) dX10_does_6 ?_
  refine md_ald_commands C hW (i := fr + 1) (by omega) dX10_does_7 ?_
  refine lv_istore_n (lv' := [(2, .int (S 11 (fr + 1))), (0, .ref (ad 0)), (1, .int (nI fr))]) hx hb dX10_does_8 rfl hl (by decide) rfl (fun ls hl => ?_)
  refine lv_aload_n hx hb dX10_does_9 rfl (lv_at hl 1 rfl) ?_
  refine md_geta_commands C hW dX10_does_10 ?_
  refine lv_iload_n hx hb dX10_does_13 rfl (lv_at hl 2 rfl) ?_
  refine lv_iconst (v := nI 2) hx hb dX10_does_14 (by decide) ?_
  refine r_iaddN hx hb (a := fr) (b := 2) dX10_does_15 ?_
  refine md_ald_commands C hW (i := fr + 2) (by omega) dX10_does_16 ?_
  refine lv_istore_n (lv' := [(3, .int (S 11 (fr + 2))), (2, .int (S 11 (fr + 1))), (0, .ref (ad 0)), (1, .int (nI fr))]) hx hb dX10_does_17 rfl hl (by decide) rfl (fun ls hl => ?_)
  refine lv_aload_n hx hb dX10_does_18 rfl (lv_at hl 2 rfl) ?_
  refine md_geta_commands C hW dX10_does_19 ?_
  refine lv_iload_n hx hb dX10_does_22 rfl (lv_at hl 3 rfl) ?_
  refine lv_iconst (v := nI 3) hx hb dX10_does_23 (by decide) ?_
  refine r_iaddN hx hb (a := fr) (b := 3) dX10_does_24 ?_
  refine md_ald_commands C hW (i := fr + 3) (by omega) dX10_does_25 ?_
  refine lv_istore (lv' := [(4, .int (S 11 (fr + 3))), (3, .int (S 11 (fr + 2))), (2, .int (S 11 (fr + 1))), (0, .ref (ad 0)), (1, .int (nI fr))]) hx hb dX10_does_26 hl (by decide) rfl (fun ls hl => ?_)
  refine lv_aload_n hx hb dX10_does_28 rfl (lv_at hl 3 rfl) ?_
  refine md_geta_commands C hW dX10_does_29 ?_
  refine lv_iload_n hx hb dX10_does_32 rfl (lv_at hl 4 rfl) ?_
  refine md_ald_commands C hW (i := fr) (by omega) dX10_does_33 ?_
  refine r_eq (y := (nI 0)) (hw) ?_
  refine lv_tableIn (x := nI 0) (off := 38) (tgt := 72) hx hb dX10_does_34 (by decide) (by decide) (by decide) (by decide) ?_
  refine lv_aload_n hx hb dX10_does_72 rfl (lv_at hl 3 rfl) ?_
  refine lv_iload_n hx hb dX10_does_73 rfl (lv_at hl 2 rfl) ?_
  refine lv_iload_n hx hb dX10_does_74 rfl (lv_at hl 1 rfl) ?_
  refine lv_iload hx hb dX10_does_75 (lv_at hl 0 rfl) ?_
  refine md_calli C hml hl.1 (As := [.int (S 11 (fr + 1)), .int (S 11 (fr + 2)), .int (S 11 (fr + 3))]) (rest := []) (m_hedgeIt l D aT ad S (S 11 (fr + 1)) (S 11 (fr + 2)) (S 11 (fr + 3)) (hM (S 0)) hH.1 hH.2.1) gT_hedgeIt hd_hedgeIt rfl ⟨Nat.le_of_ble_eq_true rfl, Nat.le_of_ble_eq_true rfl⟩ ⟨Nat.le_refl _, Nat.le_refl _⟩ hW hA rfl (Nat.le_of_ble_eq_true rfl) dX10_does_77 (fun r_77 S_77 H locs hq hW => ?_)
  rcases hq with ⟨h1, rfl, rfl⟩ | ⟨h1, h2, rfl, rfl⟩ | ⟨h1, h2, rfl, rfl⟩
  · refine lv_pop hx hb dX10_does_80 rfl ?_
    refine lv_goto (tgt := 139) hx hb dX10_does_81 (by decide) ?_
    exact md_vret C hr hlocks hW (Or.inl ⟨by rw [doF_0, if_neg (by rintro ⟨z1, z2⟩; rw [h1] at z1; cases z1)], 1, by decide, by decide, rfl⟩) dX10_does_139
  · refine lv_pop hx hb dX10_does_80 rfl ?_
    refine lv_goto (tgt := 139) hx hb dX10_does_81 (by decide) ?_
    exact md_vret C hr hlocks hW (Or.inl ⟨by rw [doF_0, if_neg (by rintro ⟨z1, z2⟩; omega)], 2, by decide, by decide, rfl⟩) dX10_does_139
  · refine lv_pop hx hb dX10_does_80 rfl ?_
    refine lv_goto (tgt := 139) hx hb dX10_does_81 (by decide) ?_
    exact md_vret C hr hlocks hW (Or.inr ⟨_, by rw [doF_0, if_pos ⟨h1, h2⟩], rfl⟩) dX10_does_139
set_option maxHeartbeats 2000000 in
set_option maxRecDepth 20000 in
theorem m_does_1 (l : Launch) (D : va_G) (aT : Nat → ClassId) (ad : Nat → Nat) (S : MSt) (fr s0 : Nat) (hfr : fr + 3 < 244) (hw : S 11 fr = nI 1) (hF : FoW (S 0)) (hH : HeW (S 0)) (hs : S 0 3 = nI s0) (hs4 : s0 < 4) : MdV l yX10_does cX10_does 5 6 134 D aT ad [.ref (ad 0), .int (nI fr)] S (fun S1 => (doF (S 0) 1 (S 11 (fr + 1)) (S 11 (fr + 2)) (S 11 (fr + 3)) = none ∧ ∃ t, 0 < t ∧ t < 4 ∧ S1 = ss S 8 (nI t)) ∨ (∃ m1, doF (S 0) 1 (S 11 (fr + 1)) (S 11 (fr + 2)) (S 11 (fr + 3)) = some m1 ∧ S1 = sr S 0 m1)) := by
  refine MdV.of (by decide +kernel) rfl (Nat.le_of_ble_eq_true rfl) ?_
  intro p e s m below meth c A ls C hml hl hA hr hlocks hW
  have hl : lv_has ls 5 [(0, .ref (ad 0)), (1, .int (nI fr))] := hl
  have hx := C.1
  have hb := C.2.1
  refine lv_aload_n hx hb dX10_does_0 rfl (lv_at hl 0 rfl) ?_
  refine md_geta_commands C hW dX10_does_1 ?_
  refine lv_iload_n hx hb dX10_does_4 rfl (lv_at hl 1 rfl) ?_
  refine lv_iconst (v := nI 1) hx hb dX10_does_5 (by decide) ?_
  refine r_iaddN hx hb (a := fr) (b := 1) dX10_does_6 ?_
  refine md_ald_commands C hW (i := fr + 1) (by omega) dX10_does_7 ?_
  refine lv_istore_n (lv' := [(2, .int (S 11 (fr + 1))), (0, .ref (ad 0)), (1, .int (nI fr))]) hx hb dX10_does_8 rfl hl (by decide) rfl (fun ls hl => ?_)
  refine lv_aload_n hx hb dX10_does_9 rfl (lv_at hl 1 rfl) ?_
  refine md_geta_commands C hW dX10_does_10 ?_
  refine lv_iload_n hx hb dX10_does_13 rfl (lv_at hl 2 rfl) ?_
  refine lv_iconst (v := nI 2) hx hb dX10_does_14 (by decide) ?_
  refine r_iaddN hx hb (a := fr) (b := 2) dX10_does_15 ?_
  refine md_ald_commands C hW (i := fr + 2) (by omega) dX10_does_16 ?_
  refine lv_istore_n (lv' := [(3, .int (S 11 (fr + 2))), (2, .int (S 11 (fr + 1))), (0, .ref (ad 0)), (1, .int (nI fr))]) hx hb dX10_does_17 rfl hl (by decide) rfl (fun ls hl => ?_)
  refine lv_aload_n hx hb dX10_does_18 rfl (lv_at hl 2 rfl) ?_
  refine md_geta_commands C hW dX10_does_19 ?_
  refine lv_iload_n hx hb dX10_does_22 rfl (lv_at hl 3 rfl) ?_
  refine lv_iconst (v := nI 3) hx hb dX10_does_23 (by decide) ?_
  refine r_iaddN hx hb (a := fr) (b := 3) dX10_does_24 ?_
  refine md_ald_commands C hW (i := fr + 3) (by omega) dX10_does_25 ?_
  refine lv_istore (lv' := [(4, .int (S 11 (fr + 3))), (3, .int (S 11 (fr + 2))), (2, .int (S 11 (fr + 1))), (0, .ref (ad 0)), (1, .int (nI fr))]) hx hb dX10_does_26 hl (by decide) rfl (fun ls hl => ?_)
  refine lv_aload_n hx hb dX10_does_28 rfl (lv_at hl 3 rfl) ?_
  refine md_geta_commands C hW dX10_does_29 ?_
  refine lv_iload_n hx hb dX10_does_32 rfl (lv_at hl 4 rfl) ?_
  refine md_ald_commands C hW (i := fr) (by omega) dX10_does_33 ?_
  refine r_eq (y := (nI 1)) (hw) ?_
  refine lv_tableIn (x := nI 1) (off := 50) (tgt := 84) hx hb dX10_does_34 (by decide) (by decide) (by decide) (by decide) ?_
  refine lv_aload_n hx hb dX10_does_84 rfl (lv_at hl 3 rfl) ?_
  refine lv_iload_n hx hb dX10_does_85 rfl (lv_at hl 2 rfl) ?_
  refine lv_iload_n hx hb dX10_does_86 rfl (lv_at hl 1 rfl) ?_
  refine md_calli C hml hl.1 (As := [.int (S 11 (fr + 1)), .int (S 11 (fr + 2))]) (rest := []) (m_mainIt l D aT ad S (S 11 (fr + 1)) (S 11 (fr + 2)) (nM (S 0)) hF.1 hF.2.1) gT_mainIt hd_mainIt rfl ⟨Nat.le_of_ble_eq_true rfl, Nat.le_of_ble_eq_true rfl⟩ ⟨Nat.le_refl _, Nat.le_refl _⟩ hW hA rfl (Nat.le_of_ble_eq_true rfl) dX10_does_87 (fun r_87 S_87 H locs hq hW => ?_)
  rcases hq with ⟨h1, rfl, rfl⟩ | ⟨h1, h2, rfl, rfl⟩ | ⟨h1, h2, rfl, rfl⟩
  · refine lv_pop hx hb dX10_does_90 rfl ?_
    refine lv_goto (tgt := 139) hx hb dX10_does_91 (by decide) ?_
    exact md_vret C hr hlocks hW (Or.inl ⟨by rw [doF_1, if_neg (by rintro ⟨z1, z2⟩; rw [h1] at z1; cases z1)], 1, by decide, by decide, rfl⟩) dX10_does_139
  · refine lv_pop hx hb dX10_does_90 rfl ?_
    refine lv_goto (tgt := 139) hx hb dX10_does_91 (by decide) ?_
    exact md_vret C hr hlocks hW (Or.inl ⟨by rw [doF_1, if_neg (by rintro ⟨z1, z2⟩; omega)], 2, by decide, by decide, rfl⟩) dX10_does_139
  · refine lv_pop hx hb dX10_does_90 rfl ?_
    refine lv_goto (tgt := 139) hx hb dX10_does_91 (by decide) ?_
    exact md_vret C hr hlocks hW (Or.inr ⟨_, by rw [doF_1, if_pos ⟨h1, h2⟩], rfl⟩) dX10_does_139
set_option maxHeartbeats 2000000 in
set_option maxRecDepth 20000 in
theorem m_does_2 (l : Launch) (D : va_G) (aT : Nat → ClassId) (ad : Nat → Nat) (S : MSt) (fr s0 : Nat) (hfr : fr + 3 < 244) (hw : S 11 fr = nI 2) (hF : FoW (S 0)) (hH : HeW (S 0)) (hs : S 0 3 = nI s0) (hs4 : s0 < 4) : MdV l yX10_does cX10_does 5 6 134 D aT ad [.ref (ad 0), .int (nI fr)] S (fun S1 => (doF (S 0) 2 (S 11 (fr + 1)) (S 11 (fr + 2)) (S 11 (fr + 3)) = none ∧ ∃ t, 0 < t ∧ t < 4 ∧ S1 = ss S 8 (nI t)) ∨ (∃ m1, doF (S 0) 2 (S 11 (fr + 1)) (S 11 (fr + 2)) (S 11 (fr + 3)) = some m1 ∧ S1 = sr S 0 m1)) := by
  refine MdV.of (by decide +kernel) rfl (Nat.le_of_ble_eq_true rfl) ?_
  intro p e s m below meth c A ls C hml hl hA hr hlocks hW
  have hl : lv_has ls 5 [(0, .ref (ad 0)), (1, .int (nI fr))] := hl
  have hx := C.1
  have hb := C.2.1
  refine lv_aload_n hx hb dX10_does_0 rfl (lv_at hl 0 rfl) ?_
  refine md_geta_commands C hW dX10_does_1 ?_
  refine lv_iload_n hx hb dX10_does_4 rfl (lv_at hl 1 rfl) ?_
  refine lv_iconst (v := nI 1) hx hb dX10_does_5 (by decide) ?_
  refine r_iaddN hx hb (a := fr) (b := 1) dX10_does_6 ?_
  refine md_ald_commands C hW (i := fr + 1) (by omega) dX10_does_7 ?_
  refine lv_istore_n (lv' := [(2, .int (S 11 (fr + 1))), (0, .ref (ad 0)), (1, .int (nI fr))]) hx hb dX10_does_8 rfl hl (by decide) rfl (fun ls hl => ?_)
  refine lv_aload_n hx hb dX10_does_9 rfl (lv_at hl 1 rfl) ?_
  refine md_geta_commands C hW dX10_does_10 ?_
  refine lv_iload_n hx hb dX10_does_13 rfl (lv_at hl 2 rfl) ?_
  refine lv_iconst (v := nI 2) hx hb dX10_does_14 (by decide) ?_
  refine r_iaddN hx hb (a := fr) (b := 2) dX10_does_15 ?_
  refine md_ald_commands C hW (i := fr + 2) (by omega) dX10_does_16 ?_
  refine lv_istore_n (lv' := [(3, .int (S 11 (fr + 2))), (2, .int (S 11 (fr + 1))), (0, .ref (ad 0)), (1, .int (nI fr))]) hx hb dX10_does_17 rfl hl (by decide) rfl (fun ls hl => ?_)
  refine lv_aload_n hx hb dX10_does_18 rfl (lv_at hl 2 rfl) ?_
  refine md_geta_commands C hW dX10_does_19 ?_
  refine lv_iload_n hx hb dX10_does_22 rfl (lv_at hl 3 rfl) ?_
  refine lv_iconst (v := nI 3) hx hb dX10_does_23 (by decide) ?_
  refine r_iaddN hx hb (a := fr) (b := 3) dX10_does_24 ?_
  refine md_ald_commands C hW (i := fr + 3) (by omega) dX10_does_25 ?_
  refine lv_istore (lv' := [(4, .int (S 11 (fr + 3))), (3, .int (S 11 (fr + 2))), (2, .int (S 11 (fr + 1))), (0, .ref (ad 0)), (1, .int (nI fr))]) hx hb dX10_does_26 hl (by decide) rfl (fun ls hl => ?_)
  refine lv_aload_n hx hb dX10_does_28 rfl (lv_at hl 3 rfl) ?_
  refine md_geta_commands C hW dX10_does_29 ?_
  refine lv_iload_n hx hb dX10_does_32 rfl (lv_at hl 4 rfl) ?_
  refine md_ald_commands C hW (i := fr) (by omega) dX10_does_33 ?_
  refine r_eq (y := (nI 2)) (hw) ?_
  refine lv_tableIn (x := nI 2) (off := 60) (tgt := 94) hx hb dX10_does_34 (by decide) (by decide) (by decide) (by decide) ?_
  refine lv_aload_n hx hb dX10_does_94 rfl (lv_at hl 3 rfl) ?_
  refine lv_iload_n hx hb dX10_does_95 rfl (lv_at hl 2 rfl) ?_
  refine lv_iload_n hx hb dX10_does_96 rfl (lv_at hl 1 rfl) ?_
  refine lv_iload hx hb dX10_does_97 (lv_at hl 0 rfl) ?_
  refine md_calli C hml hl.1 (As := [.int (S 11 (fr + 1)), .int (S 11 (fr + 2)), .int (S 11 (fr + 3))]) (rest := []) (m_amendIt l D aT ad S (S 11 (fr + 1)) (S 11 (fr + 2)) (S 11 (fr + 3)) (nM (S 0)) hF.1 hF.2.1) gT_amendIt hd_amendIt rfl ⟨Nat.le_of_ble_eq_true rfl, Nat.le_of_ble_eq_true rfl⟩ ⟨Nat.le_refl _, Nat.le_refl _⟩ hW hA rfl (Nat.le_of_ble_eq_true rfl) dX10_does_99 (fun r_99 S_99 H locs hq hW => ?_)
  rcases hq with ⟨h1, rfl, rfl⟩ | ⟨q, h1, h2, rfl, rfl⟩ | ⟨q, h1, h2, h3, rfl, rfl⟩ | ⟨q, h1, h2, h3, rfl, rfl⟩
  · refine lv_pop hx hb dX10_does_102 rfl ?_
    refine lv_goto (tgt := 139) hx hb dX10_does_103 (by decide) ?_
    exact md_vret C hr hlocks hW (Or.inl ⟨by rw [doF_2, h1], 1, by decide, by decide, rfl⟩) dX10_does_139
  · refine lv_pop hx hb dX10_does_102 rfl ?_
    refine lv_goto (tgt := 139) hx hb dX10_does_103 (by decide) ?_
    exact md_vret C hr hlocks hW (Or.inl ⟨by rw [doF_2, h1]; (try dsimp only); rw [if_neg (by rintro ⟨z1, z2⟩; rw [h2] at z1; cases z1)], 2, by decide, by decide, rfl⟩) dX10_does_139
  · refine lv_pop hx hb dX10_does_102 rfl ?_
    refine lv_goto (tgt := 139) hx hb dX10_does_103 (by decide) ?_
    exact md_vret C hr hlocks hW (Or.inl ⟨by rw [doF_2, h1]; (try dsimp only); rw [if_neg (by rintro ⟨z1, z2⟩; omega)], 3, by decide, by decide, rfl⟩) dX10_does_139
  · refine lv_pop hx hb dX10_does_102 rfl ?_
    refine lv_goto (tgt := 139) hx hb dX10_does_103 (by decide) ?_
    exact md_vret C hr hlocks hW (Or.inr ⟨_, by rw [doF_2, h1]; (try dsimp only); rw [if_pos ⟨h2, h3⟩], rfl⟩) dX10_does_139
set_option maxHeartbeats 2000000 in
set_option maxRecDepth 20000 in
theorem m_does_3 (l : Launch) (D : va_G) (aT : Nat → ClassId) (ad : Nat → Nat) (S : MSt) (fr s0 : Nat) (hfr : fr + 3 < 244) (hw : S 11 fr = nI 3) (hF : FoW (S 0)) (hH : HeW (S 0)) (hs : S 0 3 = nI s0) (hs4 : s0 < 4) : MdV l yX10_does cX10_does 5 6 134 D aT ad [.ref (ad 0), .int (nI fr)] S (fun S1 => (doF (S 0) 3 (S 11 (fr + 1)) (S 11 (fr + 2)) (S 11 (fr + 3)) = none ∧ ∃ t, 0 < t ∧ t < 4 ∧ S1 = ss S 8 (nI t)) ∨ (∃ m1, doF (S 0) 3 (S 11 (fr + 1)) (S 11 (fr + 2)) (S 11 (fr + 3)) = some m1 ∧ S1 = sr S 0 m1)) := by
  refine MdV.of (by decide +kernel) rfl (Nat.le_of_ble_eq_true rfl) ?_
  intro p e s m below meth c A ls C hml hl hA hr hlocks hW
  have hl : lv_has ls 5 [(0, .ref (ad 0)), (1, .int (nI fr))] := hl
  have hx := C.1
  have hb := C.2.1
  refine lv_aload_n hx hb dX10_does_0 rfl (lv_at hl 0 rfl) ?_
  refine md_geta_commands C hW dX10_does_1 ?_
  refine lv_iload_n hx hb dX10_does_4 rfl (lv_at hl 1 rfl) ?_
  refine lv_iconst (v := nI 1) hx hb dX10_does_5 (by decide) ?_
  refine r_iaddN hx hb (a := fr) (b := 1) dX10_does_6 ?_
  refine md_ald_commands C hW (i := fr + 1) (by omega) dX10_does_7 ?_
  refine lv_istore_n (lv' := [(2, .int (S 11 (fr + 1))), (0, .ref (ad 0)), (1, .int (nI fr))]) hx hb dX10_does_8 rfl hl (by decide) rfl (fun ls hl => ?_)
  refine lv_aload_n hx hb dX10_does_9 rfl (lv_at hl 1 rfl) ?_
  refine md_geta_commands C hW dX10_does_10 ?_
  refine lv_iload_n hx hb dX10_does_13 rfl (lv_at hl 2 rfl) ?_
  refine lv_iconst (v := nI 2) hx hb dX10_does_14 (by decide) ?_
  refine r_iaddN hx hb (a := fr) (b := 2) dX10_does_15 ?_
  refine md_ald_commands C hW (i := fr + 2) (by omega) dX10_does_16 ?_
  refine lv_istore_n (lv' := [(3, .int (S 11 (fr + 2))), (2, .int (S 11 (fr + 1))), (0, .ref (ad 0)), (1, .int (nI fr))]) hx hb dX10_does_17 rfl hl (by decide) rfl (fun ls hl => ?_)
  refine lv_aload_n hx hb dX10_does_18 rfl (lv_at hl 2 rfl) ?_
  refine md_geta_commands C hW dX10_does_19 ?_
  refine lv_iload_n hx hb dX10_does_22 rfl (lv_at hl 3 rfl) ?_
  refine lv_iconst (v := nI 3) hx hb dX10_does_23 (by decide) ?_
  refine r_iaddN hx hb (a := fr) (b := 3) dX10_does_24 ?_
  refine md_ald_commands C hW (i := fr + 3) (by omega) dX10_does_25 ?_
  refine lv_istore (lv' := [(4, .int (S 11 (fr + 3))), (3, .int (S 11 (fr + 2))), (2, .int (S 11 (fr + 1))), (0, .ref (ad 0)), (1, .int (nI fr))]) hx hb dX10_does_26 hl (by decide) rfl (fun ls hl => ?_)
  refine lv_aload_n hx hb dX10_does_28 rfl (lv_at hl 3 rfl) ?_
  refine md_geta_commands C hW dX10_does_29 ?_
  refine lv_iload_n hx hb dX10_does_32 rfl (lv_at hl 4 rfl) ?_
  refine md_ald_commands C hW (i := fr) (by omega) dX10_does_33 ?_
  refine r_eq (y := (nI 3)) (hw) ?_
  refine lv_tableIn (x := nI 3) (off := 72) (tgt := 106) hx hb dX10_does_34 (by decide) (by decide) (by decide) (by decide) ?_
  refine lv_aload_n hx hb dX10_does_106 rfl (lv_at hl 3 rfl) ?_
  refine lv_iload_n hx hb dX10_does_107 rfl (lv_at hl 2 rfl) ?_
  refine lv_iload_n hx hb dX10_does_108 rfl (lv_at hl 1 rfl) ?_
  refine md_calli C hml hl.1 (As := [.int (S 11 (fr + 1)), .int (S 11 (fr + 2))]) (rest := []) (m_pruneIt l D aT ad S (S 11 (fr + 1)) (S 11 (fr + 2)) hF) gT_pruneIt hd_pruneIt rfl ⟨Nat.le_of_ble_eq_true rfl, Nat.le_of_ble_eq_true rfl⟩ ⟨Nat.le_refl _, Nat.le_refl _⟩ hW hA rfl (Nat.le_of_ble_eq_true rfl) dX10_does_109 (fun r_109 S_109 H locs hq hW => ?_)
  rcases hq with ⟨h1, rfl, rfl⟩ | ⟨q, h1, h2, rfl, rfl⟩ | ⟨q, v, h1, h2, h9, h3, rfl, rfl⟩
  · refine lv_pop hx hb dX10_does_112 rfl ?_
    refine lv_goto (tgt := 139) hx hb dX10_does_113 (by decide) ?_
    exact md_vret C hr hlocks hW (Or.inl ⟨by rw [doF_3, h1], 1, by decide, by decide, rfl⟩) dX10_does_139
  · refine lv_pop hx hb dX10_does_112 rfl ?_
    refine lv_goto (tgt := 139) hx hb dX10_does_113 (by decide) ?_
    exact md_vret C hr hlocks hW (Or.inl ⟨by rw [doF_3, h1]; (try dsimp only); rw [if_neg (by rw [h2]; decide)], 2, by decide, by decide, rfl⟩) dX10_does_139
  · refine lv_pop hx hb dX10_does_112 rfl ?_
    refine lv_goto (tgt := 139) hx hb dX10_does_113 (by decide) ?_
    exact md_vret C hr hlocks hW (Or.inr ⟨_, by rw [doF_3, h1]; (try dsimp only); rw [if_pos h3, h2, nI_clamp (by omega)], rfl⟩) dX10_does_139
set_option maxHeartbeats 2000000 in
set_option maxRecDepth 20000 in
theorem m_does_4 (l : Launch) (D : va_G) (aT : Nat → ClassId) (ad : Nat → Nat) (S : MSt) (fr s0 : Nat) (hfr : fr + 3 < 244) (hw : S 11 fr = nI 4) (hF : FoW (S 0)) (hH : HeW (S 0)) (hs : S 0 3 = nI s0) (hs4 : s0 < 4) : MdV l yX10_does cX10_does 5 6 134 D aT ad [.ref (ad 0), .int (nI fr)] S (fun S1 => (doF (S 0) 4 (S 11 (fr + 1)) (S 11 (fr + 2)) (S 11 (fr + 3)) = none ∧ ∃ t, 0 < t ∧ t < 4 ∧ S1 = ss S 8 (nI t)) ∨ (∃ m1, doF (S 0) 4 (S 11 (fr + 1)) (S 11 (fr + 2)) (S 11 (fr + 3)) = some m1 ∧ S1 = sr S 0 m1)) := by
  refine MdV.of (by decide +kernel) rfl (Nat.le_of_ble_eq_true rfl) ?_
  intro p e s m below meth c A ls C hml hl hA hr hlocks hW
  have hl : lv_has ls 5 [(0, .ref (ad 0)), (1, .int (nI fr))] := hl
  have hx := C.1
  have hb := C.2.1
  refine lv_aload_n hx hb dX10_does_0 rfl (lv_at hl 0 rfl) ?_
  refine md_geta_commands C hW dX10_does_1 ?_
  refine lv_iload_n hx hb dX10_does_4 rfl (lv_at hl 1 rfl) ?_
  refine lv_iconst (v := nI 1) hx hb dX10_does_5 (by decide) ?_
  refine r_iaddN hx hb (a := fr) (b := 1) dX10_does_6 ?_
  refine md_ald_commands C hW (i := fr + 1) (by omega) dX10_does_7 ?_
  refine lv_istore_n (lv' := [(2, .int (S 11 (fr + 1))), (0, .ref (ad 0)), (1, .int (nI fr))]) hx hb dX10_does_8 rfl hl (by decide) rfl (fun ls hl => ?_)
  refine lv_aload_n hx hb dX10_does_9 rfl (lv_at hl 1 rfl) ?_
  refine md_geta_commands C hW dX10_does_10 ?_
  refine lv_iload_n hx hb dX10_does_13 rfl (lv_at hl 2 rfl) ?_
  refine lv_iconst (v := nI 2) hx hb dX10_does_14 (by decide) ?_
  refine r_iaddN hx hb (a := fr) (b := 2) dX10_does_15 ?_
  refine md_ald_commands C hW (i := fr + 2) (by omega) dX10_does_16 ?_
  refine lv_istore_n (lv' := [(3, .int (S 11 (fr + 2))), (2, .int (S 11 (fr + 1))), (0, .ref (ad 0)), (1, .int (nI fr))]) hx hb dX10_does_17 rfl hl (by decide) rfl (fun ls hl => ?_)
  refine lv_aload_n hx hb dX10_does_18 rfl (lv_at hl 2 rfl) ?_
  refine md_geta_commands C hW dX10_does_19 ?_
  refine lv_iload_n hx hb dX10_does_22 rfl (lv_at hl 3 rfl) ?_
  refine lv_iconst (v := nI 3) hx hb dX10_does_23 (by decide) ?_
  refine r_iaddN hx hb (a := fr) (b := 3) dX10_does_24 ?_
  refine md_ald_commands C hW (i := fr + 3) (by omega) dX10_does_25 ?_
  refine lv_istore (lv' := [(4, .int (S 11 (fr + 3))), (3, .int (S 11 (fr + 2))), (2, .int (S 11 (fr + 1))), (0, .ref (ad 0)), (1, .int (nI fr))]) hx hb dX10_does_26 hl (by decide) rfl (fun ls hl => ?_)
  refine lv_aload_n hx hb dX10_does_28 rfl (lv_at hl 3 rfl) ?_
  refine md_geta_commands C hW dX10_does_29 ?_
  refine lv_iload_n hx hb dX10_does_32 rfl (lv_at hl 4 rfl) ?_
  refine md_ald_commands C hW (i := fr) (by omega) dX10_does_33 ?_
  refine r_eq (y := (nI 4)) (hw) ?_
  refine lv_tableIn (x := nI 4) (off := 82) (tgt := 116) hx hb dX10_does_34 (by decide) (by decide) (by decide) (by decide) ?_
  refine lv_aload_n hx hb dX10_does_116 rfl (lv_at hl 3 rfl) ?_
  refine lv_iload_n hx hb dX10_does_117 rfl (lv_at hl 2 rfl) ?_
  refine md_calli C hml hl.1 (As := [.int (S 11 (fr + 1))]) (rest := []) (m_regrowIt l D aT ad S (S 11 (fr + 1)) hF) gT_regrowIt hd_regrowIt rfl ⟨Nat.le_of_ble_eq_true rfl, Nat.le_of_ble_eq_true rfl⟩ ⟨Nat.le_refl _, Nat.le_refl _⟩ hW hA rfl (Nat.le_of_ble_eq_true rfl) dX10_does_118 (fun r_118 S_118 H locs hq hW => ?_)
  rcases hq with ⟨h1, rfl, rfl⟩ | ⟨q, h1, h2, rfl, rfl⟩ | ⟨q, t, h1, h2, h3, rfl, rfl⟩
  · refine lv_pop hx hb dX10_does_121 rfl ?_
    refine lv_goto (tgt := 139) hx hb dX10_does_122 (by decide) ?_
    exact md_vret C hr hlocks hW (Or.inl ⟨by rw [doF_4, h1], 1, by decide, by decide, rfl⟩) dX10_does_139
  · refine lv_pop hx hb dX10_does_121 rfl ?_
    refine lv_goto (tgt := 139) hx hb dX10_does_122 (by decide) ?_
    exact md_vret C hr hlocks hW (Or.inl ⟨by rw [doF_4, h1]; (try dsimp only); rw [if_neg (by omega)], 2, by decide, by decide, rfl⟩) dX10_does_139
  · refine lv_pop hx hb dX10_does_121 rfl ?_
    refine lv_goto (tgt := 139) hx hb dX10_does_122 (by decide) ?_
    exact md_vret C hr hlocks hW (Or.inr ⟨_, by rw [doF_4, h1]; (try dsimp only); rw [if_pos h2, h3], rfl⟩) dX10_does_139
set_option maxHeartbeats 2000000 in
set_option maxRecDepth 20000 in
theorem m_does_5 (l : Launch) (D : va_G) (aT : Nat → ClassId) (ad : Nat → Nat) (S : MSt) (fr s0 : Nat) (hfr : fr + 3 < 244) (hw : S 11 fr = nI 5) (hF : FoW (S 0)) (hH : HeW (S 0)) (hs : S 0 3 = nI s0) (hs4 : s0 < 4) : MdV l yX10_does cX10_does 5 6 134 D aT ad [.ref (ad 0), .int (nI fr)] S (fun S1 => (doF (S 0) 5 (S 11 (fr + 1)) (S 11 (fr + 2)) (S 11 (fr + 3)) = none ∧ ∃ t, 0 < t ∧ t < 4 ∧ S1 = ss S 8 (nI t)) ∨ (∃ m1, doF (S 0) 5 (S 11 (fr + 1)) (S 11 (fr + 2)) (S 11 (fr + 3)) = some m1 ∧ S1 = sr S 0 m1)) := by
  refine MdV.of (by decide +kernel) rfl (Nat.le_of_ble_eq_true rfl) ?_
  intro p e s m below meth c A ls C hml hl hA hr hlocks hW
  have hl : lv_has ls 5 [(0, .ref (ad 0)), (1, .int (nI fr))] := hl
  have hx := C.1
  have hb := C.2.1
  refine lv_aload_n hx hb dX10_does_0 rfl (lv_at hl 0 rfl) ?_
  refine md_geta_commands C hW dX10_does_1 ?_
  refine lv_iload_n hx hb dX10_does_4 rfl (lv_at hl 1 rfl) ?_
  refine lv_iconst (v := nI 1) hx hb dX10_does_5 (by decide) ?_
  refine r_iaddN hx hb (a := fr) (b := 1) dX10_does_6 ?_
  refine md_ald_commands C hW (i := fr + 1) (by omega) dX10_does_7 ?_
  refine lv_istore_n (lv' := [(2, .int (S 11 (fr + 1))), (0, .ref (ad 0)), (1, .int (nI fr))]) hx hb dX10_does_8 rfl hl (by decide) rfl (fun ls hl => ?_)
  refine lv_aload_n hx hb dX10_does_9 rfl (lv_at hl 1 rfl) ?_
  refine md_geta_commands C hW dX10_does_10 ?_
  refine lv_iload_n hx hb dX10_does_13 rfl (lv_at hl 2 rfl) ?_
  refine lv_iconst (v := nI 2) hx hb dX10_does_14 (by decide) ?_
  refine r_iaddN hx hb (a := fr) (b := 2) dX10_does_15 ?_
  refine md_ald_commands C hW (i := fr + 2) (by omega) dX10_does_16 ?_
  refine lv_istore_n (lv' := [(3, .int (S 11 (fr + 2))), (2, .int (S 11 (fr + 1))), (0, .ref (ad 0)), (1, .int (nI fr))]) hx hb dX10_does_17 rfl hl (by decide) rfl (fun ls hl => ?_)
  refine lv_aload_n hx hb dX10_does_18 rfl (lv_at hl 2 rfl) ?_
  refine md_geta_commands C hW dX10_does_19 ?_
  refine lv_iload_n hx hb dX10_does_22 rfl (lv_at hl 3 rfl) ?_
  refine lv_iconst (v := nI 3) hx hb dX10_does_23 (by decide) ?_
  refine r_iaddN hx hb (a := fr) (b := 3) dX10_does_24 ?_
  refine md_ald_commands C hW (i := fr + 3) (by omega) dX10_does_25 ?_
  refine lv_istore (lv' := [(4, .int (S 11 (fr + 3))), (3, .int (S 11 (fr + 2))), (2, .int (S 11 (fr + 1))), (0, .ref (ad 0)), (1, .int (nI fr))]) hx hb dX10_does_26 hl (by decide) rfl (fun ls hl => ?_)
  refine lv_aload_n hx hb dX10_does_28 rfl (lv_at hl 3 rfl) ?_
  refine md_geta_commands C hW dX10_does_29 ?_
  refine lv_iload_n hx hb dX10_does_32 rfl (lv_at hl 4 rfl) ?_
  refine md_ald_commands C hW (i := fr) (by omega) dX10_does_33 ?_
  refine r_eq (y := (nI 5)) (hw) ?_
  refine lv_tableIn (x := nI 5) (off := 91) (tgt := 125) hx hb dX10_does_34 (by decide) (by decide) (by decide) (by decide) ?_
  refine lv_aload_n hx hb dX10_does_125 rfl (lv_at hl 3 rfl) ?_
  refine lv_iload_n hx hb dX10_does_126 rfl (lv_at hl 2 rfl) ?_
  refine md_calli C hml hl.1 (As := [.int (S 11 (fr + 1))]) (rest := []) (m_voteIt l D aT ad S (S 11 (fr + 1)) s0 hF hH hs hs4) gT_voteIt hd_voteIt rfl ⟨Nat.le_of_ble_eq_true rfl, Nat.le_of_ble_eq_true rfl⟩ ⟨Nat.le_refl _, Nat.le_refl _⟩ hW hA rfl (Nat.le_of_ble_eq_true rfl) dX10_does_127 (fun r_127 S_127 H locs hq hW => ?_)
  rcases hq with ⟨h1, rfl, rfl⟩ | ⟨q, h1, h2, rfl, rfl⟩ | ⟨q, h1, h2, h3, rfl, rfl⟩
  · refine lv_pop hx hb dX10_does_130 rfl ?_
    refine lv_goto (tgt := 139) hx hb dX10_does_131 (by decide) ?_
    exact md_vret C hr hlocks hW (Or.inl ⟨by rw [doF_5, h1], 1, by decide, by decide, rfl⟩) dX10_does_139
  · refine lv_pop hx hb dX10_does_130 rfl ?_
    refine lv_goto (tgt := 139) hx hb dX10_does_131 (by decide) ?_
    exact md_vret C hr hlocks hW (Or.inl ⟨by rw [doF_5, h1]; (try dsimp only); rw [if_pos h2], 2, by decide, by decide, rfl⟩) dX10_does_139
  · refine lv_pop hx hb dX10_does_130 rfl ?_
    refine lv_goto (tgt := 139) hx hb dX10_does_131 (by decide) ?_
    exact md_vret C hr hlocks hW (Or.inr ⟨_, by rw [doF_5, h1]; (try dsimp only); rw [if_neg (by rintro (z | z); omega; rw [h3] at z; cases z)], rfl⟩) dX10_does_139
set_option maxHeartbeats 2000000 in
set_option maxRecDepth 20000 in
theorem m_does_6 (l : Launch) (D : va_G) (aT : Nat → ClassId) (ad : Nat → Nat) (S : MSt) (fr s0 : Nat) (hfr : fr + 3 < 244) (hw : S 11 fr = nI 6) (hF : FoW (S 0)) (hH : HeW (S 0)) (hs : S 0 3 = nI s0) (hs4 : s0 < 4) : MdV l yX10_does cX10_does 5 6 134 D aT ad [.ref (ad 0), .int (nI fr)] S (fun S1 => (doF (S 0) 6 (S 11 (fr + 1)) (S 11 (fr + 2)) (S 11 (fr + 3)) = none ∧ ∃ t, 0 < t ∧ t < 4 ∧ S1 = ss S 8 (nI t)) ∨ (∃ m1, doF (S 0) 6 (S 11 (fr + 1)) (S 11 (fr + 2)) (S 11 (fr + 3)) = some m1 ∧ S1 = sr S 0 m1)) := by
  refine MdV.of (by decide +kernel) rfl (Nat.le_of_ble_eq_true rfl) ?_
  intro p e s m below meth c A ls C hml hl hA hr hlocks hW
  have hl : lv_has ls 5 [(0, .ref (ad 0)), (1, .int (nI fr))] := hl
  have hx := C.1
  have hb := C.2.1
  refine lv_aload_n hx hb dX10_does_0 rfl (lv_at hl 0 rfl) ?_
  refine md_geta_commands C hW dX10_does_1 ?_
  refine lv_iload_n hx hb dX10_does_4 rfl (lv_at hl 1 rfl) ?_
  refine lv_iconst (v := nI 1) hx hb dX10_does_5 (by decide) ?_
  refine r_iaddN hx hb (a := fr) (b := 1) dX10_does_6 ?_
  refine md_ald_commands C hW (i := fr + 1) (by omega) dX10_does_7 ?_
  refine lv_istore_n (lv' := [(2, .int (S 11 (fr + 1))), (0, .ref (ad 0)), (1, .int (nI fr))]) hx hb dX10_does_8 rfl hl (by decide) rfl (fun ls hl => ?_)
  refine lv_aload_n hx hb dX10_does_9 rfl (lv_at hl 1 rfl) ?_
  refine md_geta_commands C hW dX10_does_10 ?_
  refine lv_iload_n hx hb dX10_does_13 rfl (lv_at hl 2 rfl) ?_
  refine lv_iconst (v := nI 2) hx hb dX10_does_14 (by decide) ?_
  refine r_iaddN hx hb (a := fr) (b := 2) dX10_does_15 ?_
  refine md_ald_commands C hW (i := fr + 2) (by omega) dX10_does_16 ?_
  refine lv_istore_n (lv' := [(3, .int (S 11 (fr + 2))), (2, .int (S 11 (fr + 1))), (0, .ref (ad 0)), (1, .int (nI fr))]) hx hb dX10_does_17 rfl hl (by decide) rfl (fun ls hl => ?_)
  refine lv_aload_n hx hb dX10_does_18 rfl (lv_at hl 2 rfl) ?_
  refine md_geta_commands C hW dX10_does_19 ?_
  refine lv_iload_n hx hb dX10_does_22 rfl (lv_at hl 3 rfl) ?_
  refine lv_iconst (v := nI 3) hx hb dX10_does_23 (by decide) ?_
  refine r_iaddN hx hb (a := fr) (b := 3) dX10_does_24 ?_
  refine md_ald_commands C hW (i := fr + 3) (by omega) dX10_does_25 ?_
  refine lv_istore (lv' := [(4, .int (S 11 (fr + 3))), (3, .int (S 11 (fr + 2))), (2, .int (S 11 (fr + 1))), (0, .ref (ad 0)), (1, .int (nI fr))]) hx hb dX10_does_26 hl (by decide) rfl (fun ls hl => ?_)
  refine lv_aload_n hx hb dX10_does_28 rfl (lv_at hl 3 rfl) ?_
  refine md_geta_commands C hW dX10_does_29 ?_
  refine lv_iload_n hx hb dX10_does_32 rfl (lv_at hl 4 rfl) ?_
  refine md_ald_commands C hW (i := fr) (by omega) dX10_does_33 ?_
  refine r_eq (y := (nI 6)) (hw) ?_
  refine lv_tableOut (x := nI 6) (tgt := 134) hx hb dX10_does_34 (by decide) (by decide) ?_
  refine lv_aload_n hx hb dX10_does_134 rfl (lv_at hl 3 rfl) ?_
  refine md_calli C hml hl.1 (As := []) (rest := []) (m_seasonIt l D aT ad S s0 hH hs hs4) gT_seasonIt hd_seasonIt rfl ⟨Nat.le_of_ble_eq_true rfl, Nat.le_of_ble_eq_true rfl⟩ ⟨Nat.le_refl _, Nat.le_refl _⟩ hW hA rfl (Nat.le_of_ble_eq_true rfl) dX10_does_135 (fun r_135 S_135 H locs hq hW => ?_)
  rcases hq with ⟨rfl, rfl⟩
  · refine lv_pop hx hb dX10_does_138 rfl ?_
    exact md_vret C hr hlocks hW (Or.inr ⟨_, by rw [doF_6, snM_eq hs hs4], rfl⟩) dX10_does_139
theorem m_does_all (l : Launch) (D : va_G) (aT : Nat → ClassId) (ad : Nat → Nat) (S : MSt) (fr s0 w : Nat) (hw7 : w < 7) (hfr : fr + 3 < 244) (hw : S 11 fr = nI w) (hF : FoW (S 0)) (hH : HeW (S 0)) (hs : S 0 3 = nI s0) (hs4 : s0 < 4) : MdV l yX10_does cX10_does 5 6 134 D aT ad [.ref (ad 0), .int (nI fr)] S (fun S1 => (doF (S 0) w (S 11 (fr + 1)) (S 11 (fr + 2)) (S 11 (fr + 3)) = none ∧ ∃ t, 0 < t ∧ t < 4 ∧ S1 = ss S 8 (nI t)) ∨ (∃ m1, doF (S 0) w (S 11 (fr + 1)) (S 11 (fr + 2)) (S 11 (fr + 3)) = some m1 ∧ S1 = sr S 0 m1)) := by
  match w, hw7, hw with
  | 0, _, hw => exact m_does l D aT ad S fr s0 hfr hw hF hH hs hs4
  | 1, _, hw => exact m_does_1 l D aT ad S fr s0 hfr hw hF hH hs hs4
  | 2, _, hw => exact m_does_2 l D aT ad S fr s0 hfr hw hF hH hs hs4
  | 3, _, hw => exact m_does_3 l D aT ad S fr s0 hfr hw hF hH hs hs4
  | 4, _, hw => exact m_does_4 l D aT ad S fr s0 hfr hw hF hH hs hs4
  | 5, _, hw => exact m_does_5 l D aT ad S fr s0 hfr hw hF hH hs hs4
  | 6, _, hw => exact m_does_6 l D aT ad S fr s0 hfr hw hF hH hs hs4
