def prnR (m : Nat → Int32) (q v : Nat) : (Nat → Int32) × Nat := prnF q (dep (prM m) q + v) (nM m - 1 - q) m 0
theorem prnF_no {r dp i c : Nat} {m : Nat → Int32} (h : (anc (prM m) r (r + (i + 1)) && decide (dp < dep (prM m) (r + (i + 1)))) = false) : prnF r dp (i + 1) m c = prnF r dp i m c := by
  rw [prnF, h]; rfl
theorem prnF_yes {r dp i c : Nat} {m : Nat → Int32} (h1 : anc (prM m) r (r + (i + 1)) = true) (h2 : dp < dep (prM m) (r + (i + 1))) : prnF r dp (i + 1) m c = prnF r dp i (dropF m (r + (i + 1)) (nM m)) (c + 1) := by
  rw [prnF, h1, decide_eq_true h2]; rfl
theorem prnOk_0 {m : Nat → Int32} (h : FoW m) {q dp : Nat} (hq : q < nM m) : prnOk q dp (nM m - 1 - q) m := ⟨h, by omega, fun j h1 h2 => by omega⟩
theorem tip_ex {pr : Nat → Option Nat} {n r : Nat} (h : ParOk pr n) (hr : r < n) : ∃ t, t < n ∧ anc pr r t = true ∧ tipB pr t n = true := by
  -- the greatest place of the branch is a tip
  have key : ∀ d k, k < n → n - k ≤ d → anc pr r k = true → ∃ t, t < n ∧ anc pr r t = true ∧ tipB pr t n = true := by
    intro d
    induction d with
    | zero => intro k h1 h2; omega
    | succ d ih =>
      intro k hk hd ha
      by_cases ht : tipB pr k n = true
      · exact ⟨k, hk, ha, ht⟩
      · have hc : ∀ i, tipB pr k i = false → ∃ j, j < i ∧ pr j = some k := by
          intro i
          induction i with
          | zero => intro h; cases h
          | succ i ih2 =>
            intro h
            unfold tipB at h
            by_cases hb : pr i = some k
            · exact ⟨i, by omega, hb⟩
            · rw [Bool.and_eq_false_iff] at h
              rcases h with h | h
              · obtain ⟨j, h1, h2⟩ := ih2 h; exact ⟨j, by omega, h2⟩
              · simp [hb] at h
        obtain ⟨j, hj, hp⟩ := hc n (by simpa using ht)
        have hkj := h j k hj hp
        refine ih j hj (by omega) ?_
        by_cases hjr : j = r
        · rw [hjr, anc_self]
        · rw [anc_O h hj hjr, hp]; exact ha
  exact key n r hr (by omega) (anc_self _ _)
theorem ltp_ex {pr : Nat → Option Nat} {n r : Nat} (h : ParOk pr n) (hr : r < n) : ∃ t, ltp pr n r n = some t ∧ t < n := by
  obtain ⟨t, h1, h2, h3⟩ := tip_ex h hr
  have key : ∀ i, t < i → ∃ q, ltp pr n r i = some q := by
    intro i
    induction i with
    | zero => intro h; omega
    | succ i ih =>
      intro hi
      unfold ltp
      by_cases hc : (anc pr r i && tipB pr i n) = true
      · rw [if_pos hc]; exact ⟨i, rfl⟩
      · rw [if_neg hc]
        refine ih ?_
        rcases Nat.lt_or_ge t i with q | q
        · exact q
        · have e : t = i := by omega
          subst e
          exact absurd (by rw [h2, h3]; rfl) hc
  obtain ⟨q, hq⟩ := key n h1
  exact ⟨q, hq, ltp_lt hq⟩
/-- half of a weight, at least 1 -/
def hlfF (w : Int32) : Int32 := if nI 1 < w / nI 2 then w / nI 2 else nI 1
def snM (m : Nat → Int32) : Nat := (m 3).toNatClampNeg
/-- the row behind a carried tip -/
def carF (m : Nat → Int32) (k : Nat) : Nat → Int32 := match prM m k with
  | none => upd (upd (upd m 10 (m 10 + nI 1)) (4 + snM m) (m (4 + snM m) + nI 1)) 8 (m 8 + m (29 + 4 * k + 3))
  | some p => upd (upd m 10 (m 10 + nI 1)) (29 + 4 * p + 3) (m (29 + 4 * p + 3) + m (29 + 4 * k + 3))
theorem gT_hedgeIt : GoodIn gw (wsV RX10 107 RX10 yX10_hedgeIt (Cond.code yX10_hedgeIt cX10_hedgeIt 5 (some .int) :: gw)) := gdV gw_1710 gw_1712 gw_22 gw_81 gw_1713
theorem hd_hedgeIt : yX10_hedgeIt.cls = RX10 ∧ yX10_hedgeIt.cls ≠ "java/lang/invoke/MethodHandle" ∧ yX10_hedgeIt.cls ≠ "java/lang/invoke/VarHandle" ∧ (parseMethodDescriptor yX10_hedgeIt.desc).map (fun d => d.parameters.length) = some 3 := ⟨rfl, by decide +kernel, by decide +kernel, by decide +kernel⟩
theorem dX10_hedgeIt_0 : decode cX10_hedgeIt 0 = .ok (.iload_n 1, 1) := by decide +kernel
theorem dX10_hedgeIt_1 : decode cX10_hedgeIt 1 = .ok (.i2l, 1) := by decide +kernel
theorem dX10_hedgeIt_2 : decode cX10_hedgeIt 2 = .ok (.lconst 1, 1) := by decide +kernel
theorem dX10_hedgeIt_3 : decode cX10_hedgeIt 3 = .ok (.ldc2_w 97, 3) := by decide +kernel
theorem dX10_hedgeIt_6 : decode cX10_hedgeIt 6 = .ok (.invokestatic 63, 3) := by decide +kernel
theorem dX10_hedgeIt_9 : decode cX10_hedgeIt 9 = .ok (.ifCond .eq 27, 3) := by decide +kernel
theorem dX10_hedgeIt_12 : decode cX10_hedgeIt 12 = .ok (.iload_n 2, 1) := by decide +kernel
theorem dX10_hedgeIt_13 : decode cX10_hedgeIt 13 = .ok (.i2l, 1) := by decide +kernel
theorem dX10_hedgeIt_14 : decode cX10_hedgeIt 14 = .ok (.lconst 0, 1) := by decide +kernel
theorem dX10_hedgeIt_15 : decode cX10_hedgeIt 15 = .ok (.ldc2_w 99, 3) := by decide +kernel
theorem dX10_hedgeIt_18 : decode cX10_hedgeIt 18 = .ok (.invokestatic 63, 3) := by decide +kernel
theorem dX10_hedgeIt_21 : decode cX10_hedgeIt 21 = .ok (.ifCond .eq 15, 3) := by decide +kernel
theorem dX10_hedgeIt_24 : decode cX10_hedgeIt 24 = .ok (.iload_n 3, 1) := by decide +kernel
theorem dX10_hedgeIt_25 : decode cX10_hedgeIt 25 = .ok (.i2l, 1) := by decide +kernel
theorem dX10_hedgeIt_26 : decode cX10_hedgeIt 26 = .ok (.lconst 0, 1) := by decide +kernel
theorem dX10_hedgeIt_27 : decode cX10_hedgeIt 27 = .ok (.ldc2_w 99, 3) := by decide +kernel
theorem dX10_hedgeIt_30 : decode cX10_hedgeIt 30 = .ok (.invokestatic 63, 3) := by decide +kernel
theorem dX10_hedgeIt_33 : decode cX10_hedgeIt 33 = .ok (.ifCond .ne 9, 3) := by decide +kernel
theorem dX10_hedgeIt_36 : decode cX10_hedgeIt 36 = .ok (.aload_n 0, 1) := by decide +kernel
theorem dX10_hedgeIt_37 : decode cX10_hedgeIt 37 = .ok (.iconst 1, 1) := by decide +kernel
theorem dX10_hedgeIt_38 : decode cX10_hedgeIt 38 = .ok (.invokevirtual 101, 3) := by decide +kernel
theorem dX10_hedgeIt_41 : decode cX10_hedgeIt 41 = .ok (.ireturn, 1) := by decide +kernel
theorem dX10_hedgeIt_42 : decode cX10_hedgeIt 42 = .ok (.aload_n 0, 1) := by decide +kernel
theorem dX10_hedgeIt_43 : decode cX10_hedgeIt 43 = .ok (.getfield 9, 3) := by decide +kernel
theorem dX10_hedgeIt_46 : decode cX10_hedgeIt 46 = .ok (.iconst 0, 1) := by decide +kernel
theorem dX10_hedgeIt_47 : decode cX10_hedgeIt 47 = .ok (.iaload, 1) := by decide +kernel
theorem dX10_hedgeIt_48 : decode cX10_hedgeIt 48 = .ok (.bipush 6, 2) := by decide +kernel
theorem dX10_hedgeIt_50 : decode cX10_hedgeIt 50 = .ok (.if_icmp .ne 9, 3) := by decide +kernel
theorem dX10_hedgeIt_53 : decode cX10_hedgeIt 53 = .ok (.aload_n 0, 1) := by decide +kernel
theorem dX10_hedgeIt_54 : decode cX10_hedgeIt 54 = .ok (.iconst 2, 1) := by decide +kernel
theorem dX10_hedgeIt_55 : decode cX10_hedgeIt 55 = .ok (.invokevirtual 101, 3) := by decide +kernel
theorem dX10_hedgeIt_58 : decode cX10_hedgeIt 58 = .ok (.ireturn, 1) := by decide +kernel
theorem dX10_hedgeIt_59 : decode cX10_hedgeIt 59 = .ok (.aload_n 0, 1) := by decide +kernel
theorem dX10_hedgeIt_60 : decode cX10_hedgeIt 60 = .ok (.getfield 9, 3) := by decide +kernel
theorem dX10_hedgeIt_63 : decode cX10_hedgeIt 63 = .ok (.iconst 0, 1) := by decide +kernel
theorem dX10_hedgeIt_64 : decode cX10_hedgeIt 64 = .ok (.iaload, 1) := by decide +kernel
theorem dX10_hedgeIt_65 : decode cX10_hedgeIt 65 = .ok (.invokestatic 86, 3) := by decide +kernel
theorem dX10_hedgeIt_68 : decode cX10_hedgeIt 68 = .ok (.istore 4, 2) := by decide +kernel
theorem dX10_hedgeIt_70 : decode cX10_hedgeIt 70 = .ok (.aload_n 0, 1) := by decide +kernel
theorem dX10_hedgeIt_71 : decode cX10_hedgeIt 71 = .ok (.getfield 9, 3) := by decide +kernel
theorem dX10_hedgeIt_74 : decode cX10_hedgeIt 74 = .ok (.iload 4, 2) := by decide +kernel
theorem dX10_hedgeIt_76 : decode cX10_hedgeIt 76 = .ok (.iload_n 1, 1) := by decide +kernel
theorem dX10_hedgeIt_77 : decode cX10_hedgeIt 77 = .ok (.iastore, 1) := by decide +kernel
theorem dX10_hedgeIt_78 : decode cX10_hedgeIt 78 = .ok (.aload_n 0, 1) := by decide +kernel
theorem dX10_hedgeIt_79 : decode cX10_hedgeIt 79 = .ok (.getfield 9, 3) := by decide +kernel
theorem dX10_hedgeIt_82 : decode cX10_hedgeIt 82 = .ok (.iload 4, 2) := by decide +kernel
theorem dX10_hedgeIt_84 : decode cX10_hedgeIt 84 = .ok (.iconst 1, 1) := by decide +kernel
theorem dX10_hedgeIt_85 : decode cX10_hedgeIt 85 = .ok (.iadd, 1) := by decide +kernel
theorem dX10_hedgeIt_86 : decode cX10_hedgeIt 86 = .ok (.iload_n 2, 1) := by decide +kernel
theorem dX10_hedgeIt_87 : decode cX10_hedgeIt 87 = .ok (.iastore, 1) := by decide +kernel
theorem dX10_hedgeIt_88 : decode cX10_hedgeIt 88 = .ok (.aload_n 0, 1) := by decide +kernel
theorem dX10_hedgeIt_89 : decode cX10_hedgeIt 89 = .ok (.getfield 9, 3) := by decide +kernel
theorem dX10_hedgeIt_92 : decode cX10_hedgeIt 92 = .ok (.iload 4, 2) := by decide +kernel
theorem dX10_hedgeIt_94 : decode cX10_hedgeIt 94 = .ok (.iconst 2, 1) := by decide +kernel
theorem dX10_hedgeIt_95 : decode cX10_hedgeIt 95 = .ok (.iadd, 1) := by decide +kernel
theorem dX10_hedgeIt_96 : decode cX10_hedgeIt 96 = .ok (.iload_n 3, 1) := by decide +kernel
theorem dX10_hedgeIt_97 : decode cX10_hedgeIt 97 = .ok (.iastore, 1) := by decide +kernel
theorem dX10_hedgeIt_98 : decode cX10_hedgeIt 98 = .ok (.aload_n 0, 1) := by decide +kernel
theorem dX10_hedgeIt_99 : decode cX10_hedgeIt 99 = .ok (.getfield 9, 3) := by decide +kernel
theorem dX10_hedgeIt_102 : decode cX10_hedgeIt 102 = .ok (.iconst 0, 1) := by decide +kernel
theorem dX10_hedgeIt_103 : decode cX10_hedgeIt 103 = .ok (.dup2, 1) := by decide +kernel
theorem dX10_hedgeIt_104 : decode cX10_hedgeIt 104 = .ok (.iaload, 1) := by decide +kernel
theorem dX10_hedgeIt_105 : decode cX10_hedgeIt 105 = .ok (.iconst 1, 1) := by decide +kernel
theorem dX10_hedgeIt_106 : decode cX10_hedgeIt 106 = .ok (.iadd, 1) := by decide +kernel
theorem dX10_hedgeIt_107 : decode cX10_hedgeIt 107 = .ok (.iastore, 1) := by decide +kernel
theorem dX10_hedgeIt_108 : decode cX10_hedgeIt 108 = .ok (.aload_n 0, 1) := by decide +kernel
theorem dX10_hedgeIt_109 : decode cX10_hedgeIt 109 = .ok (.getfield 9, 3) := by decide +kernel
theorem dX10_hedgeIt_112 : decode cX10_hedgeIt 112 = .ok (.iconst 0, 1) := by decide +kernel
theorem dX10_hedgeIt_113 : decode cX10_hedgeIt 113 = .ok (.iaload, 1) := by decide +kernel
theorem dX10_hedgeIt_114 : decode cX10_hedgeIt 114 = .ok (.iconst 1, 1) := by decide +kernel
theorem dX10_hedgeIt_115 : decode cX10_hedgeIt 115 = .ok (.isub, 1) := by decide +kernel
theorem dX10_hedgeIt_116 : decode cX10_hedgeIt 116 = .ok (.ireturn, 1) := by decide +kernel
set_option maxHeartbeats 1000000 in
set_option maxRecDepth 20000 in
theorem m_hedgeIt (l : Launch) (D : va_G) (aT : Nat → ClassId) (ad : Nat → Nat) (S : MSt) (x y z : Int32) (h : Nat) (hn : S 0 0 = nI h) (h6 : h ≤ 6) : MdI l yX10_hedgeIt cX10_hedgeIt 5 .int 1 25 D aT ad [.ref (ad 0), .int x, .int y, .int z] S (fun r S1 => ((rgB 1 99 x && rgB 0 9 y && rgB 0 9 z) = false ∧ r = -1 ∧ S1 = ss S 8 (nI 1)) ∨ ((rgB 1 99 x && rgB 0 9 y && rgB 0 9 z) = true ∧ h = 6 ∧ r = -1 ∧ S1 = ss S 8 (nI 2)) ∨ ((rgB 1 99 x && rgB 0 9 y && rgB 0 9 z) = true ∧ h < 6 ∧ r = nI h ∧ S1 = sr S 0 (hedgeF (S 0) h x y z))) := by
  refine MdI.of (by decide +kernel) rfl (Nat.le_of_ble_eq_true rfl) ?_
  intro p e s m below meth c A ls C hml hl hA hr hlocks hW
  have hl : lv_has ls 5 [(0, .ref (ad 0)), (1, .int x), (2, .int y), (3, .int z)] := hl
  have hx := C.1
  have hb := C.2.1
  refine lv_iload_n hx hb dX10_hedgeIt_0 rfl (lv_at hl 1 rfl) ?_
  refine lv_i2l (v := (x).toInt64) hx hb dX10_hedgeIt_1 rfl ?_
  refine lv_lconst (v := 1) hx hb dX10_hedgeIt_2 (by decide) ?_
  refine lv_ldc2 hx hb C.2.2.2.1 (C.2.2.1 _ gw_1714) dX10_hedgeIt_3 ?_
  refine md_calls C hml hl.1 (As := [.long ((x).toInt64), .long 1, .long 99]) (rest := []) (m_in l ((x).toInt64) 1 99) gT_in hd_in rfl ⟨Nat.le_of_ble_eq_true rfl, Nat.le_of_ble_eq_true rfl⟩ ⟨Nat.le_refl _, Nat.le_refl _⟩ rfl (Nat.le_of_ble_eq_true rfl) dX10_hedgeIt_6 (fun r_6 hq => ?_)
  subst hq
  refine r_bI_eq hx hb (b := (rgB 1 99 x)) (tgt := 36) dX10_hedgeIt_9 (by decide) (fun c_9 => ?_) (fun c_9 => ?_)
  · refine lv_aload_n hx hb dX10_hedgeIt_36 rfl (lv_at hl 0 rfl) ?_
    refine lv_iconst (v := nI 1) hx hb dX10_hedgeIt_37 (by decide) ?_
    refine md_calli C hml hl.1 (As := [.int (nI 1)]) (rest := []) (m_throwing l D aT ad S 1) gT_throwing hd_throwing rfl ⟨Nat.le_of_ble_eq_true rfl, Nat.le_of_ble_eq_true rfl⟩ ⟨Nat.le_refl _, Nat.le_refl _⟩ hW hA rfl (Nat.le_of_ble_eq_true rfl) dX10_hedgeIt_38 (fun r_38 S_38 H locs hq hW => ?_)
    obtain ⟨rfl, rfl⟩ := hq
    exact md_iret C hr hlocks rfl hW (Or.inl ⟨by simp [c_9], rfl, rfl⟩) dX10_hedgeIt_41
  · refine lv_iload_n hx hb dX10_hedgeIt_12 rfl (lv_at hl 2 rfl) ?_
    refine lv_i2l (v := (y).toInt64) hx hb dX10_hedgeIt_13 rfl ?_
    refine lv_lconst (v := 0) hx hb dX10_hedgeIt_14 (by decide) ?_
    refine lv_ldc2 hx hb C.2.2.2.1 (C.2.2.1 _ gw_1718) dX10_hedgeIt_15 ?_
    refine md_calls C hml hl.1 (As := [.long ((y).toInt64), .long 0, .long 9]) (rest := []) (m_in l ((y).toInt64) 0 9) gT_in hd_in rfl ⟨Nat.le_of_ble_eq_true rfl, Nat.le_of_ble_eq_true rfl⟩ ⟨Nat.le_refl _, Nat.le_refl _⟩ rfl (Nat.le_of_ble_eq_true rfl) dX10_hedgeIt_18 (fun r_18 hq => ?_)
    subst hq
    refine r_bI_eq hx hb (b := (rgB 0 9 y)) (tgt := 36) dX10_hedgeIt_21 (by decide) (fun c_21 => ?_) (fun c_21 => ?_)
    · refine lv_aload_n hx hb dX10_hedgeIt_36 rfl (lv_at hl 0 rfl) ?_
      refine lv_iconst (v := nI 1) hx hb dX10_hedgeIt_37 (by decide) ?_
      refine md_calli C hml hl.1 (As := [.int (nI 1)]) (rest := []) (m_throwing l D aT ad S 1) gT_throwing hd_throwing rfl ⟨Nat.le_of_ble_eq_true rfl, Nat.le_of_ble_eq_true rfl⟩ ⟨Nat.le_refl _, Nat.le_refl _⟩ hW hA rfl (Nat.le_of_ble_eq_true rfl) dX10_hedgeIt_38 (fun r_38 S_38 H locs hq hW => ?_)
      obtain ⟨rfl, rfl⟩ := hq
      exact md_iret C hr hlocks rfl hW (Or.inl ⟨by simp [c_9, c_21], rfl, rfl⟩) dX10_hedgeIt_41
    · refine lv_iload_n hx hb dX10_hedgeIt_24 rfl (lv_at hl 3 rfl) ?_
      refine lv_i2l (v := (z).toInt64) hx hb dX10_hedgeIt_25 rfl ?_
      refine lv_lconst (v := 0) hx hb dX10_hedgeIt_26 (by decide) ?_
      refine lv_ldc2 hx hb C.2.2.2.1 (C.2.2.1 _ gw_1718) dX10_hedgeIt_27 ?_
      refine md_calls C hml hl.1 (As := [.long ((z).toInt64), .long 0, .long 9]) (rest := []) (m_in l ((z).toInt64) 0 9) gT_in hd_in rfl ⟨Nat.le_of_ble_eq_true rfl, Nat.le_of_ble_eq_true rfl⟩ ⟨Nat.le_refl _, Nat.le_refl _⟩ rfl (Nat.le_of_ble_eq_true rfl) dX10_hedgeIt_30 (fun r_30 hq => ?_)
      subst hq
      refine r_bI_ne hx hb (b := (rgB 0 9 z)) (tgt := 42) dX10_hedgeIt_33 (by decide) (fun c_33 => ?_) (fun c_33 => ?_)
      · refine lv_aload_n hx hb dX10_hedgeIt_42 rfl (lv_at hl 0 rfl) ?_
        refine md_geta_m C hW dX10_hedgeIt_43 ?_
        refine lv_iconst (v := nI 0) hx hb dX10_hedgeIt_46 (by decide) ?_
        refine md_ald_m C hW (i := 0) (by omega) dX10_hedgeIt_47 ?_
        refine r_eq (y := (nI h)) (hn) ?_
        refine lv_bipush (v := nI 6) hx hb dX10_hedgeIt_48 (by decide) ?_
        refine r_neN hx hb (a := h) (b := 6) (by omega) (by omega) (tgt := 59) dX10_hedgeIt_50 (by decide) (fun c_50 => ?_) (fun c_50 => ?_)
        · refine lv_aload_n hx hb dX10_hedgeIt_59 rfl (lv_at hl 0 rfl) ?_
          refine md_geta_m C hW dX10_hedgeIt_60 ?_
          refine lv_iconst (v := nI 0) hx hb dX10_hedgeIt_63 (by decide) ?_
          refine md_ald_m C hW (i := 0) (by omega) dX10_hedgeIt_64 ?_
          refine r_eq (y := (nI h)) (hn) ?_
          refine md_calls C hml hl.1 (As := [.int (nI h)]) (rest := []) (m_hedgeAt l h) gT_hedgeAt hd_hedgeAt rfl ⟨Nat.le_of_ble_eq_true rfl, Nat.le_of_ble_eq_true rfl⟩ ⟨Nat.le_refl _, Nat.le_refl _⟩ rfl (Nat.le_of_ble_eq_true rfl) dX10_hedgeIt_65 (fun r_65 hq => ?_)
          subst hq
          refine lv_istore (lv' := [(4, .int (nI (11 + 3 * h))), (0, .ref (ad 0)), (1, .int x), (2, .int y), (3, .int z)]) hx hb dX10_hedgeIt_68 hl (by decide) rfl (fun ls hl => ?_)
          refine lv_aload_n hx hb dX10_hedgeIt_70 rfl (lv_at hl 1 rfl) ?_
          refine md_geta_m C hW dX10_hedgeIt_71 ?_
          refine lv_iload hx hb dX10_hedgeIt_74 (lv_at hl 0 rfl) ?_
          refine lv_iload_n hx hb dX10_hedgeIt_76 rfl (lv_at hl 2 rfl) ?_
          refine md_ast_m C hW (i := (11 + 3 * h)) (by omega) dX10_hedgeIt_77 (fun H locs hW => ?_)
          refine lv_aload_n hx hb dX10_hedgeIt_78 rfl (lv_at hl 1 rfl) ?_
          refine md_geta_m C hW dX10_hedgeIt_79 ?_
          refine lv_iload hx hb dX10_hedgeIt_82 (lv_at hl 0 rfl) ?_
          refine lv_iconst (v := nI 1) hx hb dX10_hedgeIt_84 (by decide) ?_
          refine r_iaddN hx hb (a := (11 + 3 * h)) (b := 1) dX10_hedgeIt_85 ?_
          refine lv_iload_n hx hb dX10_hedgeIt_86 rfl (lv_at hl 3 rfl) ?_
          refine md_ast_m C hW (i := 11 + 3 * h + 1) (by omega) dX10_hedgeIt_87 (fun H locs hW => ?_)
          refine lv_aload_n hx hb dX10_hedgeIt_88 rfl (lv_at hl 1 rfl) ?_
          refine md_geta_m C hW dX10_hedgeIt_89 ?_
          refine lv_iload hx hb dX10_hedgeIt_92 (lv_at hl 0 rfl) ?_
          refine lv_iconst (v := nI 2) hx hb dX10_hedgeIt_94 (by decide) ?_
          refine r_iaddN hx hb (a := (11 + 3 * h)) (b := 2) dX10_hedgeIt_95 ?_
          refine lv_iload_n hx hb dX10_hedgeIt_96 rfl (lv_at hl 4 rfl) ?_
          refine md_ast_m C hW (i := 11 + 3 * h + 2) (by omega) dX10_hedgeIt_97 (fun H locs hW => ?_)
          refine lv_aload_n hx hb dX10_hedgeIt_98 rfl (lv_at hl 1 rfl) ?_
          refine md_geta_m C hW dX10_hedgeIt_99 ?_
          refine lv_iconst (v := nI 0) hx hb dX10_hedgeIt_102 (by decide) ?_
          refine lv_dup2_11 hx hb dX10_hedgeIt_103 rfl rfl ?_
          refine md_ald_m C hW (i := 0) (by omega) dX10_hedgeIt_104 ?_
          refine r_eq (y := (nI h)) (by simp only [sr, upd, ↓reduceIte]; (repeat rw [if_neg (by omega)]); exact hn) ?_
          refine lv_iconst (v := nI 1) hx hb dX10_hedgeIt_105 (by decide) ?_
          refine r_iaddN hx hb (a := h) (b := 1) dX10_hedgeIt_106 ?_
          refine md_ast_m C hW (i := 0) (by omega) dX10_hedgeIt_107 (fun H locs hW => ?_)
          refine lv_aload_n hx hb dX10_hedgeIt_108 rfl (lv_at hl 1 rfl) ?_
          refine md_geta_m C hW dX10_hedgeIt_109 ?_
          refine lv_iconst (v := nI 0) hx hb dX10_hedgeIt_112 (by decide) ?_
          refine md_ald_m C hW (i := 0) (by omega) dX10_hedgeIt_113 ?_
          refine r_eq (y := (nI (h + 1))) (by simp only [sr, upd, ↓reduceIte]; (repeat rw [if_neg (by omega)]); first | done | rfl) ?_
          refine lv_iconst (v := nI 1) hx hb dX10_hedgeIt_114 (by decide) ?_
          refine r_isubN hx hb (a := (h + 1)) (b := 1) (by omega) dX10_hedgeIt_115 ?_
          exact md_iret C hr hlocks rfl hW (Or.inr (Or.inr ⟨by simp [c_9, c_21, c_33], by omega, rfl, by simp only [sr_sr, sr_s]; rfl⟩)) dX10_hedgeIt_116
        · refine lv_aload_n hx hb dX10_hedgeIt_53 rfl (lv_at hl 0 rfl) ?_
          refine lv_iconst (v := nI 2) hx hb dX10_hedgeIt_54 (by decide) ?_
          refine md_calli C hml hl.1 (As := [.int (nI 2)]) (rest := []) (m_throwing l D aT ad S 2) gT_throwing hd_throwing rfl ⟨Nat.le_of_ble_eq_true rfl, Nat.le_of_ble_eq_true rfl⟩ ⟨Nat.le_refl _, Nat.le_refl _⟩ hW hA rfl (Nat.le_of_ble_eq_true rfl) dX10_hedgeIt_55 (fun r_55 S_55 H locs hq hW => ?_)
          obtain ⟨rfl, rfl⟩ := hq
          exact md_iret C hr hlocks rfl hW (Or.inr (Or.inl ⟨by simp [c_9, c_21, c_33], c_50, rfl, rfl⟩)) dX10_hedgeIt_58
      · refine lv_aload_n hx hb dX10_hedgeIt_36 rfl (lv_at hl 0 rfl) ?_
        refine lv_iconst (v := nI 1) hx hb dX10_hedgeIt_37 (by decide) ?_
        refine md_calli C hml hl.1 (As := [.int (nI 1)]) (rest := []) (m_throwing l D aT ad S 1) gT_throwing hd_throwing rfl ⟨Nat.le_of_ble_eq_true rfl, Nat.le_of_ble_eq_true rfl⟩ ⟨Nat.le_refl _, Nat.le_refl _⟩ hW hA rfl (Nat.le_of_ble_eq_true rfl) dX10_hedgeIt_38 (fun r_38 S_38 H locs hq hW => ?_)
        obtain ⟨rfl, rfl⟩ := hq
        exact md_iret C hr hlocks rfl hW (Or.inl ⟨by simp [c_9, c_21, c_33], rfl, rfl⟩) dX10_hedgeIt_41
theorem gT_mainIt : GoodIn gw (wsV RX10 119 RX10 yX10_mainIt (Cond.code yX10_mainIt cX10_mainIt 3 (some .int) :: gw)) := gdV gw_1734 gw_1736 gw_25 gw_81 gw_1737
theorem hd_mainIt : yX10_mainIt.cls = RX10 ∧ yX10_mainIt.cls ≠ "java/lang/invoke/MethodHandle" ∧ yX10_mainIt.cls ≠ "java/lang/invoke/VarHandle" ∧ (parseMethodDescriptor yX10_mainIt.desc).map (fun d => d.parameters.length) = some 2 := ⟨rfl, by decide +kernel, by decide +kernel, by decide +kernel⟩
theorem dX10_mainIt_0 : decode cX10_mainIt 0 = .ok (.iload_n 1, 1) := by decide +kernel
theorem dX10_mainIt_1 : decode cX10_mainIt 1 = .ok (.i2l, 1) := by decide +kernel
theorem dX10_mainIt_2 : decode cX10_mainIt 2 = .ok (.lconst 0, 1) := by decide +kernel
theorem dX10_mainIt_3 : decode cX10_mainIt 3 = .ok (.ldc2_w 99, 3) := by decide +kernel
theorem dX10_mainIt_6 : decode cX10_mainIt 6 = .ok (.invokestatic 63, 3) := by decide +kernel
theorem dX10_mainIt_9 : decode cX10_mainIt 9 = .ok (.ifCond .eq 15, 3) := by decide +kernel
theorem dX10_mainIt_12 : decode cX10_mainIt 12 = .ok (.iload_n 2, 1) := by decide +kernel
theorem dX10_mainIt_13 : decode cX10_mainIt 13 = .ok (.i2l, 1) := by decide +kernel
theorem dX10_mainIt_14 : decode cX10_mainIt 14 = .ok (.lconst 1, 1) := by decide +kernel
theorem dX10_mainIt_15 : decode cX10_mainIt 15 = .ok (.ldc2_w 114, 3) := by decide +kernel
theorem dX10_mainIt_18 : decode cX10_mainIt 18 = .ok (.invokestatic 63, 3) := by decide +kernel
theorem dX10_mainIt_21 : decode cX10_mainIt 21 = .ok (.ifCond .ne 9, 3) := by decide +kernel
theorem dX10_mainIt_24 : decode cX10_mainIt 24 = .ok (.aload_n 0, 1) := by decide +kernel
theorem dX10_mainIt_25 : decode cX10_mainIt 25 = .ok (.iconst 1, 1) := by decide +kernel
theorem dX10_mainIt_26 : decode cX10_mainIt 26 = .ok (.invokevirtual 101, 3) := by decide +kernel
theorem dX10_mainIt_29 : decode cX10_mainIt 29 = .ok (.ireturn, 1) := by decide +kernel
theorem dX10_mainIt_30 : decode cX10_mainIt 30 = .ok (.aload_n 0, 1) := by decide +kernel
theorem dX10_mainIt_31 : decode cX10_mainIt 31 = .ok (.getfield 9, 3) := by decide +kernel
theorem dX10_mainIt_34 : decode cX10_mainIt 34 = .ok (.iconst 2, 1) := by decide +kernel
theorem dX10_mainIt_35 : decode cX10_mainIt 35 = .ok (.iaload, 1) := by decide +kernel
theorem dX10_mainIt_36 : decode cX10_mainIt 36 = .ok (.bipush 12, 2) := by decide +kernel
theorem dX10_mainIt_38 : decode cX10_mainIt 38 = .ok (.if_icmp .ne 11, 3) := by decide +kernel
theorem dX10_mainIt_41 : decode cX10_mainIt 41 = .ok (.aload_n 0, 1) := by decide +kernel
theorem dX10_mainIt_42 : decode cX10_mainIt 42 = .ok (.iconst 2, 1) := by decide +kernel
theorem dX10_mainIt_43 : decode cX10_mainIt 43 = .ok (.invokevirtual 101, 3) := by decide +kernel
theorem dX10_mainIt_46 : decode cX10_mainIt 46 = .ok (.goto 10, 3) := by decide +kernel
theorem dX10_mainIt_49 : decode cX10_mainIt 49 = .ok (.aload_n 0, 1) := by decide +kernel
theorem dX10_mainIt_50 : decode cX10_mainIt 50 = .ok (.iconst (-1), 1) := by decide +kernel
theorem dX10_mainIt_51 : decode cX10_mainIt 51 = .ok (.iload_n 1, 1) := by decide +kernel
theorem dX10_mainIt_52 : decode cX10_mainIt 52 = .ok (.iload_n 2, 1) := by decide +kernel
theorem dX10_mainIt_53 : decode cX10_mainIt 53 = .ok (.invokevirtual 116, 3) := by decide +kernel
theorem dX10_mainIt_56 : decode cX10_mainIt 56 = .ok (.ireturn, 1) := by decide +kernel
set_option maxHeartbeats 1000000 in
set_option maxRecDepth 20000 in
theorem m_mainIt (l : Launch) (D : va_G) (aT : Nat → ClassId) (ad : Nat → Nat) (S : MSt) (x y : Int32) (n : Nat) (hn : S 0 2 = nI n) (h12 : n ≤ 12) : MdI l yX10_mainIt cX10_mainIt 3 .int 1 25 D aT ad [.ref (ad 0), .int x, .int y] S (fun r S1 => ((rgB 0 9 x && rgB 1 20 y) = false ∧ r = -1 ∧ S1 = ss S 8 (nI 1)) ∨ ((rgB 0 9 x && rgB 1 20 y) = true ∧ n = 12 ∧ r = -1 ∧ S1 = ss S 8 (nI 2)) ∨ ((rgB 0 9 x && rgB 1 20 y) = true ∧ n < 12 ∧ r = S 0 1 ∧ S1 = sr S 0 (addF (S 0) n (-1) x y))) := by
  refine MdI.of (by decide +kernel) rfl (Nat.le_of_ble_eq_true rfl) ?_
  intro p e s m below meth c A ls C hml hl hA hr hlocks hW
  have hl : lv_has ls 3 [(0, .ref (ad 0)), (1, .int x), (2, .int y)] := hl
  have hx := C.1
  have hb := C.2.1
  refine lv_iload_n hx hb dX10_mainIt_0 rfl (lv_at hl 1 rfl) ?_
  refine lv_i2l (v := (x).toInt64) hx hb dX10_mainIt_1 rfl ?_
  refine lv_lconst (v := 0) hx hb dX10_mainIt_2 (by decide) ?_
  refine lv_ldc2 hx hb C.2.2.2.1 (C.2.2.1 _ gw_1718) dX10_mainIt_3 ?_
  refine md_calls C hml hl.1 (As := [.long ((x).toInt64), .long 0, .long 9]) (rest := []) (m_in l ((x).toInt64) 0 9) gT_in hd_in rfl ⟨Nat.le_of_ble_eq_true rfl, Nat.le_of_ble_eq_true rfl⟩ ⟨Nat.le_refl _, Nat.le_refl _⟩ rfl (Nat.le_of_ble_eq_true rfl) dX10_mainIt_6 (fun r_6 hq => ?_)
  subst hq
  refine r_bI_eq hx hb (b := (rgB 0 9 x)) (tgt := 24) dX10_mainIt_9 (by decide) (fun c_9 => ?_) (fun c_9 => ?_)
  · refine lv_aload_n hx hb dX10_mainIt_24 rfl (lv_at hl 0 rfl) ?_
    refine lv_iconst (v := nI 1) hx hb dX10_mainIt_25 (by decide) ?_
    refine md_calli C hml hl.1 (As := [.int (nI 1)]) (rest := []) (m_throwing l D aT ad S 1) gT_throwing hd_throwing rfl ⟨Nat.le_of_ble_eq_true rfl, Nat.le_of_ble_eq_true rfl⟩ ⟨Nat.le_refl _, Nat.le_refl _⟩ hW hA rfl (Nat.le_of_ble_eq_true rfl) dX10_mainIt_26 (fun r_26 S_26 H locs hq hW => ?_)
    obtain ⟨rfl, rfl⟩ := hq
    exact md_iret C hr hlocks rfl hW (Or.inl ⟨by simp [c_9], rfl, rfl⟩) dX10_mainIt_29
  · refine lv_iload_n hx hb dX10_mainIt_12 rfl (lv_at hl 2 rfl) ?_
    refine lv_i2l (v := (y).toInt64) hx hb dX10_mainIt_13 rfl ?_
    refine lv_lconst (v := 1) hx hb dX10_mainIt_14 (by decide) ?_
    refine lv_ldc2 hx hb C.2.2.2.1 (C.2.2.1 _ gw_1738) dX10_mainIt_15 ?_
    refine md_calls C hml hl.1 (As := [.long ((y).toInt64), .long 1, .long 20]) (rest := []) (m_in l ((y).toInt64) 1 20) gT_in hd_in rfl ⟨Nat.le_of_ble_eq_true rfl, Nat.le_of_ble_eq_true rfl⟩ ⟨Nat.le_refl _, Nat.le_refl _⟩ rfl (Nat.le_of_ble_eq_true rfl) dX10_mainIt_18 (fun r_18 hq => ?_)
    subst hq
    refine r_bI_ne hx hb (b := (rgB 1 20 y)) (tgt := 30) dX10_mainIt_21 (by decide) (fun c_21 => ?_) (fun c_21 => ?_)
    · refine lv_aload_n hx hb dX10_mainIt_30 rfl (lv_at hl 0 rfl) ?_
      refine md_geta_m C hW dX10_mainIt_31 ?_
      refine lv_iconst (v := nI 2) hx hb dX10_mainIt_34 (by decide) ?_
      refine md_ald_m C hW (i := 2) (by omega) dX10_mainIt_35 ?_
      refine r_eq (y := (nI n)) (hn) ?_
      refine lv_bipush (v := nI 12) hx hb dX10_mainIt_36 (by decide) ?_
      refine r_neN hx hb (a := n) (b := 12) (by omega) (by omega) (tgt := 49) dX10_mainIt_38 (by decide) (fun c_38 => ?_) (fun c_38 => ?_)
      · refine lv_aload_n hx hb dX10_mainIt_49 rfl (lv_at hl 0 rfl) ?_
        refine lv_iconst (v := (-1)) hx hb dX10_mainIt_50 (by decide) ?_
        refine lv_iload_n hx hb dX10_mainIt_51 rfl (lv_at hl 1 rfl) ?_
        refine lv_iload_n hx hb dX10_mainIt_52 rfl (lv_at hl 2 rfl) ?_
        refine md_calli C hml hl.1 (As := [.int (-1), .int x, .int y]) (rest := []) (m_adds l D aT ad S n ((-1)) (x) (y) hn (by omega)) gT_adds hd_adds rfl ⟨Nat.le_of_ble_eq_true rfl, Nat.le_of_ble_eq_true rfl⟩ ⟨Nat.le_refl _, Nat.le_refl _⟩ hW hA rfl (Nat.le_of_ble_eq_true rfl) dX10_mainIt_53 (fun r_53 S_53 H locs hq hW => ?_)
        obtain ⟨rfl, rfl⟩ := hq
        exact md_iret C hr hlocks rfl hW (Or.inr (Or.inr ⟨by simp [c_9, c_21], by omega, rfl, rfl⟩)) dX10_mainIt_56
      · refine lv_aload_n hx hb dX10_mainIt_41 rfl (lv_at hl 0 rfl) ?_
        refine lv_iconst (v := nI 2) hx hb dX10_mainIt_42 (by decide) ?_
        refine md_calli C hml hl.1 (As := [.int (nI 2)]) (rest := []) (m_throwing l D aT ad S 2) gT_throwing hd_throwing rfl ⟨Nat.le_of_ble_eq_true rfl, Nat.le_of_ble_eq_true rfl⟩ ⟨Nat.le_refl _, Nat.le_refl _⟩ hW hA rfl (Nat.le_of_ble_eq_true rfl) dX10_mainIt_43 (fun r_43 S_43 H locs hq hW => ?_)
        obtain ⟨rfl, rfl⟩ := hq
        refine lv_goto (tgt := 56) hx hb dX10_mainIt_46 (by decide) ?_
        exact md_iret C hr hlocks rfl hW (Or.inr (Or.inl ⟨by simp [c_9, c_21], c_38, rfl, rfl⟩)) dX10_mainIt_56
    · refine lv_aload_n hx hb dX10_mainIt_24 rfl (lv_at hl 0 rfl) ?_
      refine lv_iconst (v := nI 1) hx hb dX10_mainIt_25 (by decide) ?_
      refine md_calli C hml hl.1 (As := [.int (nI 1)]) (rest := []) (m_throwing l D aT ad S 1) gT_throwing hd_throwing rfl ⟨Nat.le_of_ble_eq_true rfl, Nat.le_of_ble_eq_true rfl⟩ ⟨Nat.le_refl _, Nat.le_refl _⟩ hW hA rfl (Nat.le_of_ble_eq_true rfl) dX10_mainIt_26 (fun r_26 S_26 H locs hq hW => ?_)
      obtain ⟨rfl, rfl⟩ := hq
      exact md_iret C hr hlocks rfl hW (Or.inl ⟨by simp [c_9, c_21], rfl, rfl⟩) dX10_mainIt_29
theorem gT_amendIt : GoodIn gw (wsV RX10 122 RX10 yX10_amendIt (Cond.code yX10_amendIt cX10_amendIt 4 (some .int) :: gw)) := gdV gw_1747 gw_1749 gw_27 gw_81 gw_1750
theorem hd_amendIt : yX10_amendIt.cls = RX10 ∧ yX10_amendIt.cls ≠ "java/lang/invoke/MethodHandle" ∧ yX10_amendIt.cls ≠ "java/lang/invoke/VarHandle" ∧ (parseMethodDescriptor yX10_amendIt.desc).map (fun d => d.parameters.length) = some 3 := ⟨rfl, by decide +kernel, by decide +kernel, by decide +kernel⟩
theorem dX10_amendIt_0 : decode cX10_amendIt 0 = .ok (.aload_n 0, 1) := by decide +kernel
theorem dX10_amendIt_1 : decode cX10_amendIt 1 = .ok (.iload_n 1, 1) := by decide +kernel
theorem dX10_amendIt_2 : decode cX10_amendIt 2 = .ok (.invokevirtual 71, 3) := by decide +kernel
theorem dX10_amendIt_5 : decode cX10_amendIt 5 = .ok (.iconst (-1), 1) := by decide +kernel
theorem dX10_amendIt_6 : decode cX10_amendIt 6 = .ok (.if_icmp .ne 9, 3) := by decide +kernel
theorem dX10_amendIt_9 : decode cX10_amendIt 9 = .ok (.aload_n 0, 1) := by decide +kernel
theorem dX10_amendIt_10 : decode cX10_amendIt 10 = .ok (.iconst 1, 1) := by decide +kernel
theorem dX10_amendIt_11 : decode cX10_amendIt 11 = .ok (.invokevirtual 101, 3) := by decide +kernel
theorem dX10_amendIt_14 : decode cX10_amendIt 14 = .ok (.ireturn, 1) := by decide +kernel
theorem dX10_amendIt_15 : decode cX10_amendIt 15 = .ok (.iload_n 2, 1) := by decide +kernel
theorem dX10_amendIt_16 : decode cX10_amendIt 16 = .ok (.i2l, 1) := by decide +kernel
theorem dX10_amendIt_17 : decode cX10_amendIt 17 = .ok (.lconst 0, 1) := by decide +kernel
theorem dX10_amendIt_18 : decode cX10_amendIt 18 = .ok (.ldc2_w 99, 3) := by decide +kernel
theorem dX10_amendIt_21 : decode cX10_amendIt 21 = .ok (.invokestatic 63, 3) := by decide +kernel
theorem dX10_amendIt_24 : decode cX10_amendIt 24 = .ok (.ifCond .eq 15, 3) := by decide +kernel
theorem dX10_amendIt_27 : decode cX10_amendIt 27 = .ok (.iload_n 3, 1) := by decide +kernel
theorem dX10_amendIt_28 : decode cX10_amendIt 28 = .ok (.i2l, 1) := by decide +kernel
theorem dX10_amendIt_29 : decode cX10_amendIt 29 = .ok (.lconst 1, 1) := by decide +kernel
theorem dX10_amendIt_30 : decode cX10_amendIt 30 = .ok (.ldc2_w 114, 3) := by decide +kernel
theorem dX10_amendIt_33 : decode cX10_amendIt 33 = .ok (.invokestatic 63, 3) := by decide +kernel
theorem dX10_amendIt_36 : decode cX10_amendIt 36 = .ok (.ifCond .ne 9, 3) := by decide +kernel
theorem dX10_amendIt_39 : decode cX10_amendIt 39 = .ok (.aload_n 0, 1) := by decide +kernel
theorem dX10_amendIt_40 : decode cX10_amendIt 40 = .ok (.iconst 2, 1) := by decide +kernel
theorem dX10_amendIt_41 : decode cX10_amendIt 41 = .ok (.invokevirtual 101, 3) := by decide +kernel
theorem dX10_amendIt_44 : decode cX10_amendIt 44 = .ok (.ireturn, 1) := by decide +kernel
theorem dX10_amendIt_45 : decode cX10_amendIt 45 = .ok (.aload_n 0, 1) := by decide +kernel
theorem dX10_amendIt_46 : decode cX10_amendIt 46 = .ok (.getfield 9, 3) := by decide +kernel
theorem dX10_amendIt_49 : decode cX10_amendIt 49 = .ok (.iconst 2, 1) := by decide +kernel
theorem dX10_amendIt_50 : decode cX10_amendIt 50 = .ok (.iaload, 1) := by decide +kernel
theorem dX10_amendIt_51 : decode cX10_amendIt 51 = .ok (.bipush 12, 2) := by decide +kernel
theorem dX10_amendIt_53 : decode cX10_amendIt 53 = .ok (.if_icmp .ne 11, 3) := by decide +kernel
theorem dX10_amendIt_56 : decode cX10_amendIt 56 = .ok (.aload_n 0, 1) := by decide +kernel
theorem dX10_amendIt_57 : decode cX10_amendIt 57 = .ok (.iconst 3, 1) := by decide +kernel
theorem dX10_amendIt_58 : decode cX10_amendIt 58 = .ok (.invokevirtual 101, 3) := by decide +kernel
theorem dX10_amendIt_61 : decode cX10_amendIt 61 = .ok (.goto 10, 3) := by decide +kernel
theorem dX10_amendIt_64 : decode cX10_amendIt 64 = .ok (.aload_n 0, 1) := by decide +kernel
theorem dX10_amendIt_65 : decode cX10_amendIt 65 = .ok (.iload_n 1, 1) := by decide +kernel
theorem dX10_amendIt_66 : decode cX10_amendIt 66 = .ok (.iload_n 2, 1) := by decide +kernel
theorem dX10_amendIt_67 : decode cX10_amendIt 67 = .ok (.iload_n 3, 1) := by decide +kernel
theorem dX10_amendIt_68 : decode cX10_amendIt 68 = .ok (.invokevirtual 116, 3) := by decide +kernel
theorem dX10_amendIt_71 : decode cX10_amendIt 71 = .ok (.ireturn, 1) := by decide +kernel
set_option maxHeartbeats 1000000 in
set_option maxRecDepth 20000 in
theorem m_amendIt (l : Launch) (D : va_G) (aT : Nat → ClassId) (ad : Nat → Nat) (S : MSt) (x y z : Int32) (n : Nat) (hn : S 0 2 = nI n) (h12 : n ≤ 12) : MdI l yX10_amendIt cX10_amendIt 4 .int 2 44 D aT ad [.ref (ad 0), .int x, .int y, .int z] S (fun r S1 => (fnd (fun k => S 0 (29 + 4 * k)) x n = none ∧ r = -1 ∧ S1 = ss S 8 (nI 1)) ∨ (∃ q, fnd (fun k => S 0 (29 + 4 * k)) x n = some q ∧ (rgB 0 9 y && rgB 1 20 z) = false ∧ r = -1 ∧ S1 = ss S 8 (nI 2)) ∨ (∃ q, fnd (fun k => S 0 (29 + 4 * k)) x n = some q ∧ (rgB 0 9 y && rgB 1 20 z) = true ∧ n = 12 ∧ r = -1 ∧ S1 = ss S 8 (nI 3)) ∨ (∃ q, fnd (fun k => S 0 (29 + 4 * k)) x n = some q ∧ (rgB 0 9 y && rgB 1 20 z) = true ∧ n < 12 ∧ r = S 0 1 ∧ S1 = sr S 0 (addF (S 0) n x y z))) := by
  refine MdI.of (by decide +kernel) rfl (Nat.le_of_ble_eq_true rfl) ?_
  intro p e s m below meth c A ls C hml hl hA hr hlocks hW
  have hl : lv_has ls 4 [(0, .ref (ad 0)), (1, .int x), (2, .int y), (3, .int z)] := hl
  have hx := C.1
  have hb := C.2.1
  refine lv_aload_n hx hb dX10_amendIt_0 rfl (lv_at hl 0 rfl) ?_
  refine lv_iload_n hx hb dX10_amendIt_1 rfl (lv_at hl 1 rfl) ?_
  refine md_callg C hml hl.1 (As := [.int x]) (rest := []) (m_find l D aT ad S (x) n hn h12) gT_find hd_find rfl ⟨Nat.le_of_ble_eq_true rfl, Nat.le_of_ble_eq_true rfl⟩ ⟨Nat.le_refl _, Nat.le_refl _⟩ hW hA rfl (Nat.le_of_ble_eq_true rfl) dX10_amendIt_2 (fun r_2 H locs hq hW => ?_)
  subst hq
  refine lv_iconst (v := (-1)) hx hb dX10_amendIt_5 (by decide) ?_
  refine r_oi_ne hx hb (o := (fnd (fun k => S 0 (29 + 4 * k)) (x) n)) (fun j hj => by have := (fnd_some hj).1; omega) (tgt := 15) dX10_amendIt_6 (by decide) (fun j_6 c_6 => ?_) (fun c_6 => ?_)
  · refine lv_iload_n hx hb dX10_amendIt_15 rfl (lv_at hl 2 rfl) ?_
    refine lv_i2l (v := (y).toInt64) hx hb dX10_amendIt_16 rfl ?_
    refine lv_lconst (v := 0) hx hb dX10_amendIt_17 (by decide) ?_
    refine lv_ldc2 hx hb C.2.2.2.1 (C.2.2.1 _ gw_1718) dX10_amendIt_18 ?_
    refine md_calls C hml hl.1 (As := [.long ((y).toInt64), .long 0, .long 9]) (rest := []) (m_in l ((y).toInt64) 0 9) gT_in hd_in rfl ⟨Nat.le_of_ble_eq_true rfl, Nat.le_of_ble_eq_true rfl⟩ ⟨Nat.le_refl _, Nat.le_refl _⟩ rfl (Nat.le_of_ble_eq_true rfl) dX10_amendIt_21 (fun r_21 hq => ?_)
    subst hq
    refine r_bI_eq hx hb (b := (rgB 0 9 y)) (tgt := 39) dX10_amendIt_24 (by decide) (fun c_24 => ?_) (fun c_24 => ?_)
    · refine lv_aload_n hx hb dX10_amendIt_39 rfl (lv_at hl 0 rfl) ?_
      refine lv_iconst (v := nI 2) hx hb dX10_amendIt_40 (by decide) ?_
      refine md_calli C hml hl.1 (As := [.int (nI 2)]) (rest := []) (m_throwing l D aT ad S 2) gT_throwing hd_throwing rfl ⟨Nat.le_of_ble_eq_true rfl, Nat.le_of_ble_eq_true rfl⟩ ⟨Nat.le_refl _, Nat.le_refl _⟩ hW hA rfl (Nat.le_of_ble_eq_true rfl) dX10_amendIt_41 (fun r_41 S_41 H locs hq hW => ?_)
      obtain ⟨rfl, rfl⟩ := hq
      exact md_iret C hr hlocks rfl hW (Or.inr (Or.inl ⟨j_6, c_6, by simp [c_24], rfl, rfl⟩)) dX10_amendIt_44
    · refine lv_iload_n hx hb dX10_amendIt_27 rfl (lv_at hl 3 rfl) ?_
      refine lv_i2l (v := (z).toInt64) hx hb dX10_amendIt_28 rfl ?_
      refine lv_lconst (v := 1) hx hb dX10_amendIt_29 (by decide) ?_
      refine lv_ldc2 hx hb C.2.2.2.1 (C.2.2.1 _ gw_1738) dX10_amendIt_30 ?_
      refine md_calls C hml hl.1 (As := [.long ((z).toInt64), .long 1, .long 20]) (rest := []) (m_in l ((z).toInt64) 1 20) gT_in hd_in rfl ⟨Nat.le_of_ble_eq_true rfl, Nat.le_of_ble_eq_true rfl⟩ ⟨Nat.le_refl _, Nat.le_refl _⟩ rfl (Nat.le_of_ble_eq_true rfl) dX10_amendIt_33 (fun r_33 hq => ?_)
      subst hq
      refine r_bI_ne hx hb (b := (rgB 1 20 z)) (tgt := 45) dX10_amendIt_36 (by decide) (fun c_36 => ?_) (fun c_36 => ?_)
      · refine lv_aload_n hx hb dX10_amendIt_45 rfl (lv_at hl 0 rfl) ?_
        refine md_geta_m C hW dX10_amendIt_46 ?_
        refine lv_iconst (v := nI 2) hx hb dX10_amendIt_49 (by decide) ?_
        refine md_ald_m C hW (i := 2) (by omega) dX10_amendIt_50 ?_
        refine r_eq (y := (nI n)) (hn) ?_
        refine lv_bipush (v := nI 12) hx hb dX10_amendIt_51 (by decide) ?_
        refine r_neN hx hb (a := n) (b := 12) (by omega) (by omega) (tgt := 64) dX10_amendIt_53 (by decide) (fun c_53 => ?_) (fun c_53 => ?_)
        · refine lv_aload_n hx hb dX10_amendIt_64 rfl (lv_at hl 0 rfl) ?_
          refine lv_iload_n hx hb dX10_amendIt_65 rfl (lv_at hl 1 rfl) ?_
          refine lv_iload_n hx hb dX10_amendIt_66 rfl (lv_at hl 2 rfl) ?_
          refine lv_iload_n hx hb dX10_amendIt_67 rfl (lv_at hl 3 rfl) ?_
          refine md_calli C hml hl.1 (As := [.int x, .int y, .int z]) (rest := []) (m_adds l D aT ad S n (x) (y) (z) hn (by omega)) gT_adds hd_adds rfl ⟨Nat.le_of_ble_eq_true rfl, Nat.le_of_ble_eq_true rfl⟩ ⟨Nat.le_refl _, Nat.le_refl _⟩ hW hA rfl (Nat.le_of_ble_eq_true rfl) dX10_amendIt_68 (fun r_68 S_68 H locs hq hW => ?_)
          obtain ⟨rfl, rfl⟩ := hq
          exact md_iret C hr hlocks rfl hW (Or.inr (Or.inr (Or.inr ⟨j_6, c_6, by simp [c_24, c_36], by omega, rfl, rfl⟩))) dX10_amendIt_71
        · refine lv_aload_n hx hb dX10_amendIt_56 rfl (lv_at hl 0 rfl) ?_
          refine lv_iconst (v := nI 3) hx hb dX10_amendIt_57 (by decide) ?_
          refine md_calli C hml hl.1 (As := [.int (nI 3)]) (rest := []) (m_throwing l D aT ad S 3) gT_throwing hd_throwing rfl ⟨Nat.le_of_ble_eq_true rfl, Nat.le_of_ble_eq_true rfl⟩ ⟨Nat.le_refl _, Nat.le_refl _⟩ hW hA rfl (Nat.le_of_ble_eq_true rfl) dX10_amendIt_58 (fun r_58 S_58 H locs hq hW => ?_)
          obtain ⟨rfl, rfl⟩ := hq
          refine lv_goto (tgt := 71) hx hb dX10_amendIt_61 (by decide) ?_
          exact md_iret C hr hlocks rfl hW (Or.inr (Or.inr (Or.inl ⟨j_6, c_6, by simp [c_24, c_36], c_53, rfl, rfl⟩))) dX10_amendIt_71
      · refine lv_aload_n hx hb dX10_amendIt_39 rfl (lv_at hl 0 rfl) ?_
        refine lv_iconst (v := nI 2) hx hb dX10_amendIt_40 (by decide) ?_
        refine md_calli C hml hl.1 (As := [.int (nI 2)]) (rest := []) (m_throwing l D aT ad S 2) gT_throwing hd_throwing rfl ⟨Nat.le_of_ble_eq_true rfl, Nat.le_of_ble_eq_true rfl⟩ ⟨Nat.le_refl _, Nat.le_refl _⟩ hW hA rfl (Nat.le_of_ble_eq_true rfl) dX10_amendIt_41 (fun r_41 S_41 H locs hq hW => ?_)
        obtain ⟨rfl, rfl⟩ := hq
        exact md_iret C hr hlocks rfl hW (Or.inr (Or.inl ⟨j_6, c_6, by simp [c_24, c_36], rfl, rfl⟩)) dX10_amendIt_44
  · refine lv_aload_n hx hb dX10_amendIt_9 rfl (lv_at hl 0 rfl) ?_
    refine lv_iconst (v := nI 1) hx hb dX10_amendIt_10 (by decide) ?_
    refine md_calli C hml hl.1 (As := [.int (nI 1)]) (rest := []) (m_throwing l D aT ad S 1) gT_throwing hd_throwing rfl ⟨Nat.le_of_ble_eq_true rfl, Nat.le_of_ble_eq_true rfl⟩ ⟨Nat.le_refl _, Nat.le_refl _⟩ hW hA rfl (Nat.le_of_ble_eq_true rfl) dX10_amendIt_11 (fun r_11 S_11 H locs hq hW => ?_)
    obtain ⟨rfl, rfl⟩ := hq
    exact md_iret C hr hlocks rfl hW (Or.inl ⟨c_6, rfl, rfl⟩) dX10_amendIt_14
theorem gT_pruneIt : GoodIn gw (wsV RX10 132 RX10 yX10_pruneIt (Cond.code yX10_pruneIt cX10_pruneIt 7 (some .int) :: gw)) := gdV gw_1763 gw_1765 gw_30 gw_81 gw_1766
theorem hd_pruneIt : yX10_pruneIt.cls = RX10 ∧ yX10_pruneIt.cls ≠ "java/lang/invoke/MethodHandle" ∧ yX10_pruneIt.cls ≠ "java/lang/invoke/VarHandle" ∧ (parseMethodDescriptor yX10_pruneIt.desc).map (fun d => d.parameters.length) = some 2 := ⟨rfl, by decide +kernel, by decide +kernel, by decide +kernel⟩
theorem dX10_pruneIt_0 : decode cX10_pruneIt 0 = .ok (.aload_n 0, 1) := by decide +kernel
theorem dX10_pruneIt_1 : decode cX10_pruneIt 1 = .ok (.iload_n 1, 1) := by decide +kernel
theorem dX10_pruneIt_2 : decode cX10_pruneIt 2 = .ok (.invokevirtual 71, 3) := by decide +kernel
theorem dX10_pruneIt_5 : decode cX10_pruneIt 5 = .ok (.istore_n 3, 1) := by decide +kernel
theorem dX10_pruneIt_6 : decode cX10_pruneIt 6 = .ok (.iload_n 3, 1) := by decide +kernel
theorem dX10_pruneIt_7 : decode cX10_pruneIt 7 = .ok (.iconst (-1), 1) := by decide +kernel
theorem dX10_pruneIt_8 : decode cX10_pruneIt 8 = .ok (.if_icmp .ne 9, 3) := by decide +kernel
theorem dX10_pruneIt_11 : decode cX10_pruneIt 11 = .ok (.aload_n 0, 1) := by decide +kernel
theorem dX10_pruneIt_12 : decode cX10_pruneIt 12 = .ok (.iconst 1, 1) := by decide +kernel
theorem dX10_pruneIt_13 : decode cX10_pruneIt 13 = .ok (.invokevirtual 101, 3) := by decide +kernel
theorem dX10_pruneIt_16 : decode cX10_pruneIt 16 = .ok (.ireturn, 1) := by decide +kernel
theorem dX10_pruneIt_17 : decode cX10_pruneIt 17 = .ok (.iload_n 2, 1) := by decide +kernel
theorem dX10_pruneIt_18 : decode cX10_pruneIt 18 = .ok (.i2l, 1) := by decide +kernel
theorem dX10_pruneIt_19 : decode cX10_pruneIt 19 = .ok (.lconst 0, 1) := by decide +kernel
theorem dX10_pruneIt_20 : decode cX10_pruneIt 20 = .ok (.ldc2_w 99, 3) := by decide +kernel
theorem dX10_pruneIt_23 : decode cX10_pruneIt 23 = .ok (.invokestatic 63, 3) := by decide +kernel
theorem dX10_pruneIt_26 : decode cX10_pruneIt 26 = .ok (.ifCond .ne 9, 3) := by decide +kernel
theorem dX10_pruneIt_29 : decode cX10_pruneIt 29 = .ok (.aload_n 0, 1) := by decide +kernel
theorem dX10_pruneIt_30 : decode cX10_pruneIt 30 = .ok (.iconst 2, 1) := by decide +kernel
theorem dX10_pruneIt_31 : decode cX10_pruneIt 31 = .ok (.invokevirtual 101, 3) := by decide +kernel
theorem dX10_pruneIt_34 : decode cX10_pruneIt 34 = .ok (.ireturn, 1) := by decide +kernel
theorem dX10_pruneIt_35 : decode cX10_pruneIt 35 = .ok (.aload_n 0, 1) := by decide +kernel
theorem dX10_pruneIt_36 : decode cX10_pruneIt 36 = .ok (.iload_n 3, 1) := by decide +kernel
theorem dX10_pruneIt_37 : decode cX10_pruneIt 37 = .ok (.invokevirtual 125, 3) := by decide +kernel
theorem dX10_pruneIt_40 : decode cX10_pruneIt 40 = .ok (.iload_n 2, 1) := by decide +kernel
theorem dX10_pruneIt_41 : decode cX10_pruneIt 41 = .ok (.iadd, 1) := by decide +kernel
theorem dX10_pruneIt_42 : decode cX10_pruneIt 42 = .ok (.istore 4, 2) := by decide +kernel
theorem dX10_pruneIt_44 : decode cX10_pruneIt 44 = .ok (.iconst 0, 1) := by decide +kernel
theorem dX10_pruneIt_45 : decode cX10_pruneIt 45 = .ok (.istore 5, 2) := by decide +kernel
theorem dX10_pruneIt_47 : decode cX10_pruneIt 47 = .ok (.aload_n 0, 1) := by decide +kernel
theorem dX10_pruneIt_48 : decode cX10_pruneIt 48 = .ok (.getfield 9, 3) := by decide +kernel
theorem dX10_pruneIt_51 : decode cX10_pruneIt 51 = .ok (.iconst 2, 1) := by decide +kernel
theorem dX10_pruneIt_52 : decode cX10_pruneIt 52 = .ok (.iaload, 1) := by decide +kernel
theorem dX10_pruneIt_53 : decode cX10_pruneIt 53 = .ok (.iconst 1, 1) := by decide +kernel
theorem dX10_pruneIt_54 : decode cX10_pruneIt 54 = .ok (.isub, 1) := by decide +kernel
theorem dX10_pruneIt_55 : decode cX10_pruneIt 55 = .ok (.istore 6, 2) := by decide +kernel
theorem dX10_pruneIt_57 : decode cX10_pruneIt 57 = .ok (.iload 6, 2) := by decide +kernel
theorem dX10_pruneIt_59 : decode cX10_pruneIt 59 = .ok (.iload_n 3, 1) := by decide +kernel
theorem dX10_pruneIt_60 : decode cX10_pruneIt 60 = .ok (.if_icmp .le 39, 3) := by decide +kernel
theorem dX10_pruneIt_63 : decode cX10_pruneIt 63 = .ok (.aload_n 0, 1) := by decide +kernel
theorem dX10_pruneIt_64 : decode cX10_pruneIt 64 = .ok (.iload 6, 2) := by decide +kernel
theorem dX10_pruneIt_66 : decode cX10_pruneIt 66 = .ok (.iload_n 3, 1) := by decide +kernel
theorem dX10_pruneIt_67 : decode cX10_pruneIt 67 = .ok (.invokevirtual 78, 3) := by decide +kernel
theorem dX10_pruneIt_70 : decode cX10_pruneIt 70 = .ok (.ifCond .eq 23, 3) := by decide +kernel
theorem dX10_pruneIt_73 : decode cX10_pruneIt 73 = .ok (.aload_n 0, 1) := by decide +kernel
theorem dX10_pruneIt_74 : decode cX10_pruneIt 74 = .ok (.iload 6, 2) := by decide +kernel
theorem dX10_pruneIt_76 : decode cX10_pruneIt 76 = .ok (.invokevirtual 125, 3) := by decide +kernel
theorem dX10_pruneIt_79 : decode cX10_pruneIt 79 = .ok (.iload 4, 2) := by decide +kernel
theorem dX10_pruneIt_81 : decode cX10_pruneIt 81 = .ok (.if_icmp .le 12, 3) := by decide +kernel
theorem dX10_pruneIt_84 : decode cX10_pruneIt 84 = .ok (.aload_n 0, 1) := by decide +kernel
theorem dX10_pruneIt_85 : decode cX10_pruneIt 85 = .ok (.iload 6, 2) := by decide +kernel
theorem dX10_pruneIt_87 : decode cX10_pruneIt 87 = .ok (.invokevirtual 128, 3) := by decide +kernel
theorem dX10_pruneIt_90 : decode cX10_pruneIt 90 = .ok (.iinc 5 1, 3) := by decide +kernel
theorem dX10_pruneIt_93 : decode cX10_pruneIt 93 = .ok (.iinc 6 (-1), 3) := by decide +kernel
theorem dX10_pruneIt_96 : decode cX10_pruneIt 96 = .ok (.goto (-39), 3) := by decide +kernel
theorem dX10_pruneIt_99 : decode cX10_pruneIt 99 = .ok (.iload 5, 2) := by decide +kernel
theorem dX10_pruneIt_101 : decode cX10_pruneIt 101 = .ok (.ireturn, 1) := by decide +kernel
set_option maxHeartbeats 2000000 in
set_option maxRecDepth 20000 in
theorem m_pruneIt (l : Launch) (D : va_G) (aT : Nat → ClassId) (ad : Nat → Nat) (S : MSt) (x y : Int32) (hF : FoW (S 0)) : MdI l yX10_pruneIt cX10_pruneIt 7 .int 4 88 D aT ad [.ref (ad 0), .int x, .int y] S (fun r S1 => (fnd (fun k => S 0 (29 + 4 * k)) x (nM (S 0)) = none ∧ r = -1 ∧ S1 = ss S 8 (nI 1)) ∨ (∃ q, fnd (fun k => S 0 (29 + 4 * k)) x (nM (S 0)) = some q ∧ rgB 0 9 y = false ∧ r = -1 ∧ S1 = ss S 8 (nI 2)) ∨ (∃ q v, fnd (fun k => S 0 (29 + 4 * k)) x (nM (S 0)) = some q ∧ y = nI v ∧ v ≤ 9 ∧ rgB 0 9 y = true ∧ r = nI (prnR (S 0) q v).2 ∧ S1 = sr S 0 (prnR (S 0) q v).1)) := by
  refine MdI.of (by decide +kernel) rfl (Nat.le_of_ble_eq_true rfl) ?_
  intro p e s m below meth c A ls C hml hl hA hr hlocks hW
  have hl : lv_has ls 7 [(0, .ref (ad 0)), (1, .int x), (2, .int y)] := hl
  have hx := C.1
  have hb := C.2.1
  refine lv_aload_n hx hb dX10_pruneIt_0 rfl (lv_at hl 0 rfl) ?_
  refine lv_iload_n hx hb dX10_pruneIt_1 rfl (lv_at hl 1 rfl) ?_
  refine md_callg C hml hl.1 (As := [.int x]) (rest := []) (m_find l D aT ad S (x) (nM (S 0)) hF.1 hF.2.1) gT_find hd_find rfl ⟨Nat.le_of_ble_eq_true rfl, Nat.le_of_ble_eq_true rfl⟩ ⟨Nat.le_refl _, Nat.le_refl _⟩ hW hA rfl (Nat.le_of_ble_eq_true rfl) dX10_pruneIt_2 (fun r_2 H locs hq hW => ?_)
  subst hq
  refine lv_istore_n (lv' := [(3, .int (oi (fnd (fun k => S 0 (29 + 4 * k)) (x) (nM (S 0))))), (0, .ref (ad 0)), (1, .int x), (2, .int y)]) hx hb dX10_pruneIt_5 rfl hl (by decide) rfl (fun ls hl => ?_)
  refine lv_iload_n hx hb dX10_pruneIt_6 rfl (lv_at hl 0 rfl) ?_
  refine lv_iconst (v := (-1)) hx hb dX10_pruneIt_7 (by decide) ?_
  refine r_oi_ne hx hb (o := (fnd (fun k => S 0 (29 + 4 * k)) (x) (nM (S 0)))) (fun j hj => by have := (fnd_some hj).1; have := hF.n12; omega) (tgt := 17) dX10_pruneIt_8 (by decide) (fun j_8 c_8 => ?_) (fun c_8 => ?_)
  · have hl : lv_has ls 7 [(3, .int (nI j_8)), (0, .ref (ad 0)), (1, .int x), (2, .int y)] := by rw [c_8] at hl; exact hl
    have hq := (fnd_some c_8).1
    have h12 := hF.n12
    refine lv_iload_n hx hb dX10_pruneIt_17 rfl (lv_at hl 3 rfl) ?_
    refine lv_i2l (v := (y).toInt64) hx hb dX10_pruneIt_18 rfl ?_
    refine lv_lconst (v := 0) hx hb dX10_pruneIt_19 (by decide) ?_
    refine lv_ldc2 hx hb C.2.2.2.1 (C.2.2.1 _ gw_1718) dX10_pruneIt_20 ?_
    refine md_calls C hml hl.1 (As := [.long ((y).toInt64), .long 0, .long 9]) (rest := []) (m_in l ((y).toInt64) 0 9) gT_in hd_in rfl ⟨Nat.le_of_ble_eq_true rfl, Nat.le_of_ble_eq_true rfl⟩ ⟨Nat.le_refl _, Nat.le_refl _⟩ rfl (Nat.le_of_ble_eq_true rfl) dX10_pruneIt_23 (fun r_23 hq => ?_)
    subst hq
    refine r_bI_ne hx hb (b := (rgB 0 9 y)) (tgt := 35) dX10_pruneIt_26 (by decide) (fun c_26 => ?_) (fun c_26 => ?_)
    · obtain ⟨v, rfl, hv9, -⟩ := rg_nat c_26 (Or.inl (by decide)) (by decide)
      have hv9 : v ≤ 9 := by have : (9 : Int64).toInt = 9 := by decide
                             omega
      refine lv_aload_n hx hb dX10_pruneIt_35 rfl (lv_at hl 1 rfl) ?_
      refine lv_iload_n hx hb dX10_pruneIt_36 rfl (lv_at hl 0 rfl) ?_
      refine md_callg C hml hl.1 (As := [.int (nI j_8)]) (rest := []) (m_deep l D aT ad S (nM (S 0)) (idM (S 0)) (prM (S 0)) (tnM (S 0)) hF j_8 (hq)) gT_deep hd_deep rfl ⟨Nat.le_of_ble_eq_true rfl, Nat.le_of_ble_eq_true rfl⟩ ⟨Nat.le_refl _, Nat.le_refl _⟩ hW hA rfl (Nat.le_of_ble_eq_true rfl) dX10_pruneIt_37 (fun r_37 H locs hq hW => ?_)
      subst hq
      refine lv_iload_n hx hb dX10_pruneIt_40 rfl (lv_at hl 3 rfl) ?_
      refine r_iaddN hx hb (a := (dep (prM (S 0)) j_8)) (b := v) dX10_pruneIt_41 ?_
      refine lv_istore (lv' := [(4, .int (nI ((dep (prM (S 0)) j_8) + v))), (3, .int (nI j_8)), (0, .ref (ad 0)), (1, .int x), (2, .int (nI v))]) hx hb dX10_pruneIt_42 hl (by decide) rfl (fun ls hl => ?_)
      refine lv_iconst (v := nI 0) hx hb dX10_pruneIt_44 (by decide) ?_
      refine lv_istore (lv' := [(5, .int (nI 0)), (4, .int (nI ((dep (prM (S 0)) j_8) + v))), (3, .int (nI j_8)), (0, .ref (ad 0)), (1, .int x), (2, .int (nI v))]) hx hb dX10_pruneIt_45 hl (by decide) rfl (fun ls hl => ?_)
      refine lv_aload_n hx hb dX10_pruneIt_47 rfl (lv_at hl 3 rfl) ?_
      refine md_geta_m C hW dX10_pruneIt_48 ?_
      refine lv_iconst (v := nI 2) hx hb dX10_pruneIt_51 (by decide) ?_
      refine md_ald_m C hW (i := 2) (by omega) dX10_pruneIt_52 ?_
      refine r_eq (y := (nI (nM (S 0)))) (hF.1) ?_
      refine lv_iconst (v := nI 1) hx hb dX10_pruneIt_53 (by decide) ?_
      refine r_isubN hx hb (a := (nM (S 0))) (b := 1) (by omega) dX10_pruneIt_54 ?_
      refine r_eq (congrArg nI (by omega : (nM (S 0)) - 1 = j_8 + (nM (S 0) - 1 - j_8))) ?_
      refine lv_istore (lv' := [(6, .int (nI (j_8 + (nM (S 0) - 1 - j_8)))), (5, .int (nI 0)), (4, .int (nI ((dep (prM (S 0)) j_8) + v))), (3, .int (nI j_8)), (0, .ref (ad 0)), (1, .int x), (2, .int (nI v))]) hx hb dX10_pruneIt_55 hl (by decide) rfl (fun ls hl => ?_)
      refine W_loopH (σ := (Nat → Int32) × Nat × Nat) (fun z_ => z_.2.2) (fun z_ H locs g => ∃ ls, g = F0 m 57 ls [] ∧ lv_has ls 7 [(0, .ref (ad 0)), (2, .int (nI v)), (3, .int (nI j_8)), (4, .int (nI (dep (prM (S 0)) j_8 + v))), (5, .int (nI z_.2.1)), (6, .int (nI (j_8 + z_.2.2)))] ∧ MdB D aT ad (sr S 0 z_.1) A s.heap H locs ∧ (prnOk j_8 (dep (prM (S 0)) j_8 + v) z_.2.2 z_.1 ∧ prnF j_8 (dep (prM (S 0)) j_8 + v) z_.2.2 z_.1 z_.2.1 = prnR (S 0) j_8 v)) ?_ ((S 0), 0, (nM (S 0) - 1 - j_8)) _ ⟨_, rfl, lv_sub hl [4, 6, 3, 2, 1, 0] rfl, (by rw [sr_self]; exact hW), ⟨prnOk_0 hF hq, rfl⟩⟩
      clear hW hl
      rintro ⟨mm, c0, i⟩ H locs g ⟨ls, rfl, hl, hW, hok, he⟩ ih_57
      dsimp only at hl hW hok he ⊢
      refine lv_iload hx hb dX10_pruneIt_57 (lv_at hl 5 rfl) ?_
      refine lv_iload_n hx hb dX10_pruneIt_59 rfl (lv_at hl 2 rfl) ?_
      refine r_leN hx hb (a := j_8 + i) (b := j_8) (by have := hok.2.1; have := hok.1.n12; omega) (by have := hok.2.1; have := hok.1.n12; omega) (tgt := 99) dX10_pruneIt_60 (by decide) (fun c_60 => ?_) (fun c_60 => ?_)
      · refine lv_iload hx hb dX10_pruneIt_99 (lv_at hl 4 rfl) ?_
        exact md_iret C hr hlocks rfl hW (Or.inr (Or.inr ⟨j_8, v, c_8, rfl, hv9, c_26, by rw [← he, show i = 0 by omega]; rfl, by rw [← he, show i = 0 by omega]; rfl⟩)) dX10_pruneIt_101
      · obtain ⟨i, rfl⟩ : ∃ i2, i = i2 + 1 := ⟨i - 1, by omega⟩
        have hdl := dep_le hok.1.ok _ hok.2.1
        refine lv_aload_n hx hb dX10_pruneIt_63 rfl (lv_at hl 0 rfl) ?_
        refine lv_iload hx hb dX10_pruneIt_64 (lv_at hl 5 rfl) ?_
        refine lv_iload_n hx hb dX10_pruneIt_66 rfl (lv_at hl 2 rfl) ?_
        refine md_callg C hml hl.1 (As := [.int (nI (j_8 + (i + 1))), .int (nI j_8)]) (rest := []) (m_isIn l D aT ad (sr S 0 mm) (nM mm) (idM mm) (prM mm) (tnM mm) hok.1 (j_8 + (i + 1)) j_8 (hok.2.1) (by have := hok.2.1; omega)) gT_isIn hd_isIn rfl ⟨Nat.le_of_ble_eq_true rfl, Nat.le_of_ble_eq_true rfl⟩ ⟨Nat.le_refl _, Nat.le_refl _⟩ hW hA rfl (Nat.le_of_ble_eq_true rfl) dX10_pruneIt_67 (fun r_67 H locs hq hW => ?_)
        subst hq
        refine r_bI_eq hx hb (b := (anc (prM mm) j_8 (j_8 + (i + 1)))) (tgt := 93) dX10_pruneIt_70 (by decide) (fun c_70 => ?_) (fun c_70 => ?_)
        · refine lv_iinc (v := (nI (j_8 + i))) (lv' := [(6, .int (nI (j_8 + i))), (0, .ref (ad 0)), (2, .int (nI v)), (3, .int (nI j_8)), (4, .int (nI (dep (prM (S 0)) j_8 + v))), (5, .int (nI c0))]) hx hb dX10_pruneIt_93 hl (k := 5) rfl (pk_m1 _) (by decide) rfl (fun ls hl => ?_)
          refine lv_goto (tgt := 57) hx hb dX10_pruneIt_96 (by decide) ?_
          exact ih_57 (mm, c0, i) _ _ _ (by dsimp only; omega) ⟨_, rfl, lv_sub hl [1, 2, 3, 4, 5, 0] rfl, hW, ⟨prn_skip hok (fun z => by rw [c_70] at z; exact absurd z.1 (by decide)), by rw [← he, prnF_no (by rw [Bool.and_eq_false_iff]; exact Or.inl c_70)]⟩⟩
        · refine lv_aload_n hx hb dX10_pruneIt_73 rfl (lv_at hl 0 rfl) ?_
          refine lv_iload hx hb dX10_pruneIt_74 (lv_at hl 5 rfl) ?_
          refine md_callg C hml hl.1 (As := [.int (nI (j_8 + (i + 1)))]) (rest := []) (m_deep l D aT ad (sr S 0 mm) (nM mm) (idM mm) (prM mm) (tnM mm) hok.1 (j_8 + (i + 1)) (hok.2.1)) gT_deep hd_deep rfl ⟨Nat.le_of_ble_eq_true rfl, Nat.le_of_ble_eq_true rfl⟩ ⟨Nat.le_refl _, Nat.le_refl _⟩ hW hA rfl (Nat.le_of_ble_eq_true rfl) dX10_pruneIt_76 (fun r_76 H locs hq hW => ?_)
          subst hq
          refine lv_iload hx hb dX10_pruneIt_79 (lv_at hl 3 rfl) ?_
          refine r_leN hx hb (a := (dep (prM mm) (j_8 + (i + 1)))) (b := dep (prM (S 0)) j_8 + v) (by have := hok.2.1; have := hok.1.n12; have := dep_le hF.ok _ hq; omega) (by have := hok.2.1; have := hok.1.n12; have := dep_le hF.ok _ hq; omega) (tgt := 93) dX10_pruneIt_81 (by decide) (fun c_81 => ?_) (fun c_81 => ?_)
          · refine lv_iinc (v := (nI (j_8 + i))) (lv' := [(6, .int (nI (j_8 + i))), (0, .ref (ad 0)), (2, .int (nI v)), (3, .int (nI j_8)), (4, .int (nI (dep (prM (S 0)) j_8 + v))), (5, .int (nI c0))]) hx hb dX10_pruneIt_93 hl (k := 5) rfl (pk_m1 _) (by decide) rfl (fun ls hl => ?_)
            refine lv_goto (tgt := 57) hx hb dX10_pruneIt_96 (by decide) ?_
            exact ih_57 (mm, c0, i) _ _ _ (by dsimp only; omega) ⟨_, rfl, lv_sub hl [1, 2, 3, 4, 5, 0] rfl, hW, ⟨prn_skip hok (fun z => Nat.lt_irrefl _ (Nat.lt_of_lt_of_le z.2 c_81)), by rw [← he, prnF_no (by rw [Bool.and_eq_false_iff]; exact Or.inr (decide_eq_false (by omega)))]⟩⟩
          · refine lv_aload_n hx hb dX10_pruneIt_84 rfl (lv_at hl 0 rfl) ?_
            refine lv_iload hx hb dX10_pruneIt_85 (lv_at hl 5 rfl) ?_
            refine md_callv C hml hl.1 (As := [.int (nI (j_8 + (i + 1)))]) (rest := []) (m_drops l D aT ad (sr S 0 mm) (nM mm) (j_8 + (i + 1)) hok.1.1 hok.1.2.1 hok.2.1) gT_drops hd_drops rfl ⟨Nat.le_of_ble_eq_true rfl, Nat.le_of_ble_eq_true rfl⟩ ⟨Nat.le_refl _, Nat.le_refl _⟩ hW hA rfl (Nat.le_of_ble_eq_true rfl) dX10_pruneIt_87 (fun S_87 H locs hq hW => ?_)
            subst hq
            refine lv_iinc (v := (nI (c0 + 1))) (lv' := [(5, .int (nI (c0 + 1))), (0, .ref (ad 0)), (2, .int (nI v)), (3, .int (nI j_8)), (4, .int (nI (dep (prM (S 0)) j_8 + v))), (6, .int (nI (j_8 + (i + 1))))]) hx hb dX10_pruneIt_90 hl (k := 4) rfl (nI_1 _) (by decide) rfl (fun ls hl => ?_)
            refine lv_iinc (v := (nI (j_8 + i))) (lv' := [(6, .int (nI (j_8 + i))), (5, .int (nI (c0 + 1))), (0, .ref (ad 0)), (2, .int (nI v)), (3, .int (nI j_8)), (4, .int (nI (dep (prM (S 0)) j_8 + v)))]) hx hb dX10_pruneIt_93 hl (k := 5) rfl (pk_m1 _) (by decide) rfl (fun ls hl => ?_)
            refine lv_goto (tgt := 57) hx hb dX10_pruneIt_96 (by decide) ?_
            exact ih_57 ((dropF mm (j_8 + (i + 1)) (nM mm)), (c0 + 1), i) _ _ _ (by dsimp only; omega) ⟨_, rfl, lv_sub hl [2, 3, 4, 5, 1, 0] rfl, (by rw [sr_sr] at hW; exact hW), ⟨prn_drop hok c_70 c_81, by rw [← he, prnF_yes c_70 c_81]⟩⟩
    · refine lv_aload_n hx hb dX10_pruneIt_29 rfl (lv_at hl 1 rfl) ?_
      refine lv_iconst (v := nI 2) hx hb dX10_pruneIt_30 (by decide) ?_
      refine md_calli C hml hl.1 (As := [.int (nI 2)]) (rest := []) (m_throwing l D aT ad S 2) gT_throwing hd_throwing rfl ⟨Nat.le_of_ble_eq_true rfl, Nat.le_of_ble_eq_true rfl⟩ ⟨Nat.le_refl _, Nat.le_refl _⟩ hW hA rfl (Nat.le_of_ble_eq_true rfl) dX10_pruneIt_31 (fun r_31 S_31 H locs hq hW => ?_)
      obtain ⟨rfl, rfl⟩ := hq
      exact md_iret C hr hlocks rfl hW (Or.inr (Or.inl ⟨j_8, c_8, c_26, rfl, rfl⟩)) dX10_pruneIt_34
  · have hl : lv_has ls 7 [(3, .int (-1)), (0, .ref (ad 0)), (1, .int x), (2, .int y)] := by rw [c_8] at hl; exact hl
    refine lv_aload_n hx hb dX10_pruneIt_11 rfl (lv_at hl 1 rfl) ?_
    refine lv_iconst (v := nI 1) hx hb dX10_pruneIt_12 (by decide) ?_
    refine md_calli C hml hl.1 (As := [.int (nI 1)]) (rest := []) (m_throwing l D aT ad S 1) gT_throwing hd_throwing rfl ⟨Nat.le_of_ble_eq_true rfl, Nat.le_of_ble_eq_true rfl⟩ ⟨Nat.le_refl _, Nat.le_refl _⟩ hW hA rfl (Nat.le_of_ble_eq_true rfl) dX10_pruneIt_13 (fun r_13 S_13 H locs hq hW => ?_)
    obtain ⟨rfl, rfl⟩ := hq
    exact md_iret C hr hlocks rfl hW (Or.inl ⟨c_8, rfl, rfl⟩) dX10_pruneIt_16
theorem gT_regrowIt : GoodIn gw (wsV RX10 141 RX10 yX10_regrowIt (Cond.code yX10_regrowIt cX10_regrowIt 4 (some .int) :: gw)) := gdV gw_1787 gw_1789 gw_35 gw_81 gw_1790
theorem hd_regrowIt : yX10_regrowIt.cls = RX10 ∧ yX10_regrowIt.cls ≠ "java/lang/invoke/MethodHandle" ∧ yX10_regrowIt.cls ≠ "java/lang/invoke/VarHandle" ∧ (parseMethodDescriptor yX10_regrowIt.desc).map (fun d => d.parameters.length) = some 1 := ⟨rfl, by decide +kernel, by decide +kernel, by decide +kernel⟩
theorem dX10_regrowIt_0 : decode cX10_regrowIt 0 = .ok (.aload_n 0, 1) := by decide +kernel
theorem dX10_regrowIt_1 : decode cX10_regrowIt 1 = .ok (.iload_n 1, 1) := by decide +kernel
theorem dX10_regrowIt_2 : decode cX10_regrowIt 2 = .ok (.invokevirtual 71, 3) := by decide +kernel
theorem dX10_regrowIt_5 : decode cX10_regrowIt 5 = .ok (.istore_n 2, 1) := by decide +kernel
theorem dX10_regrowIt_6 : decode cX10_regrowIt 6 = .ok (.iload_n 2, 1) := by decide +kernel
theorem dX10_regrowIt_7 : decode cX10_regrowIt 7 = .ok (.iconst (-1), 1) := by decide +kernel
theorem dX10_regrowIt_8 : decode cX10_regrowIt 8 = .ok (.if_icmp .ne 9, 3) := by decide +kernel
theorem dX10_regrowIt_11 : decode cX10_regrowIt 11 = .ok (.aload_n 0, 1) := by decide +kernel
theorem dX10_regrowIt_12 : decode cX10_regrowIt 12 = .ok (.iconst 1, 1) := by decide +kernel
theorem dX10_regrowIt_13 : decode cX10_regrowIt 13 = .ok (.invokevirtual 101, 3) := by decide +kernel
theorem dX10_regrowIt_16 : decode cX10_regrowIt 16 = .ok (.ireturn, 1) := by decide +kernel
theorem dX10_regrowIt_17 : decode cX10_regrowIt 17 = .ok (.aload_n 0, 1) := by decide +kernel
theorem dX10_regrowIt_18 : decode cX10_regrowIt 18 = .ok (.getfield 9, 3) := by decide +kernel
theorem dX10_regrowIt_21 : decode cX10_regrowIt 21 = .ok (.iconst 2, 1) := by decide +kernel
theorem dX10_regrowIt_22 : decode cX10_regrowIt 22 = .ok (.iaload, 1) := by decide +kernel
theorem dX10_regrowIt_23 : decode cX10_regrowIt 23 = .ok (.bipush 12, 2) := by decide +kernel
theorem dX10_regrowIt_25 : decode cX10_regrowIt 25 = .ok (.if_icmp .ne 9, 3) := by decide +kernel
theorem dX10_regrowIt_28 : decode cX10_regrowIt 28 = .ok (.aload_n 0, 1) := by decide +kernel
theorem dX10_regrowIt_29 : decode cX10_regrowIt 29 = .ok (.iconst 2, 1) := by decide +kernel
theorem dX10_regrowIt_30 : decode cX10_regrowIt 30 = .ok (.invokevirtual 101, 3) := by decide +kernel
theorem dX10_regrowIt_33 : decode cX10_regrowIt 33 = .ok (.ireturn, 1) := by decide +kernel
theorem dX10_regrowIt_34 : decode cX10_regrowIt 34 = .ok (.aload_n 0, 1) := by decide +kernel
theorem dX10_regrowIt_35 : decode cX10_regrowIt 35 = .ok (.iload_n 2, 1) := by decide +kernel
theorem dX10_regrowIt_36 : decode cX10_regrowIt 36 = .ok (.invokevirtual 135, 3) := by decide +kernel
theorem dX10_regrowIt_39 : decode cX10_regrowIt 39 = .ok (.istore_n 3, 1) := by decide +kernel
theorem dX10_regrowIt_40 : decode cX10_regrowIt 40 = .ok (.aload_n 0, 1) := by decide +kernel
theorem dX10_regrowIt_41 : decode cX10_regrowIt 41 = .ok (.aload_n 0, 1) := by decide +kernel
theorem dX10_regrowIt_42 : decode cX10_regrowIt 42 = .ok (.iload_n 3, 1) := by decide +kernel
theorem dX10_regrowIt_43 : decode cX10_regrowIt 43 = .ok (.iconst 0, 1) := by decide +kernel
theorem dX10_regrowIt_44 : decode cX10_regrowIt 44 = .ok (.invokevirtual 67, 3) := by decide +kernel
theorem dX10_regrowIt_47 : decode cX10_regrowIt 47 = .ok (.aload_n 0, 1) := by decide +kernel
theorem dX10_regrowIt_48 : decode cX10_regrowIt 48 = .ok (.iload_n 3, 1) := by decide +kernel
theorem dX10_regrowIt_49 : decode cX10_regrowIt 49 = .ok (.iconst 2, 1) := by decide +kernel
theorem dX10_regrowIt_50 : decode cX10_regrowIt 50 = .ok (.invokevirtual 67, 3) := by decide +kernel
theorem dX10_regrowIt_53 : decode cX10_regrowIt 53 = .ok (.iconst 1, 1) := by decide +kernel
theorem dX10_regrowIt_54 : decode cX10_regrowIt 54 = .ok (.iadd, 1) := by decide +kernel
theorem dX10_regrowIt_55 : decode cX10_regrowIt 55 = .ok (.bipush 10, 2) := by decide +kernel
theorem dX10_regrowIt_57 : decode cX10_regrowIt 57 = .ok (.irem, 1) := by decide +kernel
theorem dX10_regrowIt_58 : decode cX10_regrowIt 58 = .ok (.iconst 1, 1) := by decide +kernel
theorem dX10_regrowIt_59 : decode cX10_regrowIt 59 = .ok (.aload_n 0, 1) := by decide +kernel
theorem dX10_regrowIt_60 : decode cX10_regrowIt 60 = .ok (.iload_n 3, 1) := by decide +kernel
theorem dX10_regrowIt_61 : decode cX10_regrowIt 61 = .ok (.iconst 3, 1) := by decide +kernel
theorem dX10_regrowIt_62 : decode cX10_regrowIt 62 = .ok (.invokevirtual 67, 3) := by decide +kernel
theorem dX10_regrowIt_65 : decode cX10_regrowIt 65 = .ok (.iconst 2, 1) := by decide +kernel
theorem dX10_regrowIt_66 : decode cX10_regrowIt 66 = .ok (.idiv, 1) := by decide +kernel
theorem dX10_regrowIt_67 : decode cX10_regrowIt 67 = .ok (.invokestatic 138, 3) := by decide +kernel
theorem dX10_regrowIt_70 : decode cX10_regrowIt 70 = .ok (.invokevirtual 116, 3) := by decide +kernel
theorem dX10_regrowIt_73 : decode cX10_regrowIt 73 = .ok (.ireturn, 1) := by decide +kernel
set_option maxHeartbeats 1000000 in
set_option maxRecDepth 20000 in
theorem m_regrowIt (l : Launch) (D : va_G) (aT : Nat → ClassId) (ad : Nat → Nat) (S : MSt) (x : Int32) (hF : FoW (S 0)) : MdI l yX10_regrowIt cX10_regrowIt 4 .int 5 111 D aT ad [.ref (ad 0), .int x] S (fun r S1 => (fnd (fun k => S 0 (29 + 4 * k)) x (nM (S 0)) = none ∧ r = -1 ∧ S1 = ss S 8 (nI 1)) ∨ (∃ q, fnd (fun k => S 0 (29 + 4 * k)) x (nM (S 0)) = some q ∧ nM (S 0) = 12 ∧ r = -1 ∧ S1 = ss S 8 (nI 2)) ∨ (∃ q t, fnd (fun k => S 0 (29 + 4 * k)) x (nM (S 0)) = some q ∧ nM (S 0) < 12 ∧ ltp (prM (S 0)) (nM (S 0)) q (nM (S 0)) = some t ∧ r = S 0 1 ∧ S1 = sr S 0 (addF (S 0) (nM (S 0)) (S 0 (29 + 4 * t)) (nI ((tnM (S 0) t + 1) % 10)) (hlfF (S 0 (29 + 4 * t + 3)))))) := by
  refine MdI.of (by decide +kernel) rfl (Nat.le_of_ble_eq_true rfl) ?_
  intro p e s m below meth c A ls C hml hl hA hr hlocks hW
  have hl : lv_has ls 4 [(0, .ref (ad 0)), (1, .int x)] := hl
  have hx := C.1
  have hb := C.2.1
  refine lv_aload_n hx hb dX10_regrowIt_0 rfl (lv_at hl 0 rfl) ?_
  refine lv_iload_n hx hb dX10_regrowIt_1 rfl (lv_at hl 1 rfl) ?_
  refine md_callg C hml hl.1 (As := [.int x]) (rest := []) (m_find l D aT ad S (x) (nM (S 0)) hF.1 hF.2.1) gT_find hd_find rfl ⟨Nat.le_of_ble_eq_true rfl, Nat.le_of_ble_eq_true rfl⟩ ⟨Nat.le_refl _, Nat.le_refl _⟩ hW hA rfl (Nat.le_of_ble_eq_true rfl) dX10_regrowIt_2 (fun r_2 H locs hq hW => ?_)
  subst hq
  refine lv_istore_n (lv' := [(2, .int (oi (fnd (fun k => S 0 (29 + 4 * k)) (x) (nM (S 0))))), (0, .ref (ad 0)), (1, .int x)]) hx hb dX10_regrowIt_5 rfl hl (by decide) rfl (fun ls hl => ?_)
  refine lv_iload_n hx hb dX10_regrowIt_6 rfl (lv_at hl 0 rfl) ?_
  refine lv_iconst (v := (-1)) hx hb dX10_regrowIt_7 (by decide) ?_
  refine r_oi_ne hx hb (o := (fnd (fun k => S 0 (29 + 4 * k)) (x) (nM (S 0)))) (fun j hj => by have := (fnd_some hj).1; have := hF.n12; omega) (tgt := 17) dX10_regrowIt_8 (by decide) (fun j_8 c_8 => ?_) (fun c_8 => ?_)
  · have hl : lv_has ls 4 [(2, .int (nI j_8)), (0, .ref (ad 0)), (1, .int x)] := by rw [c_8] at hl; exact hl
    have hq := (fnd_some c_8).1
    have h12 := hF.n12
    refine lv_aload_n hx hb dX10_regrowIt_17 rfl (lv_at hl 1 rfl) ?_
    refine md_geta_m C hW dX10_regrowIt_18 ?_
    refine lv_iconst (v := nI 2) hx hb dX10_regrowIt_21 (by decide) ?_
    refine md_ald_m C hW (i := 2) (by omega) dX10_regrowIt_22 ?_
    refine r_eq (y := (nI (nM (S 0)))) (hF.1) ?_
    refine lv_bipush (v := nI 12) hx hb dX10_regrowIt_23 (by decide) ?_
    refine r_neN hx hb (a := (nM (S 0))) (b := 12) (by omega) (by omega) (tgt := 34) dX10_regrowIt_25 (by decide) (fun c_25 => ?_) (fun c_25 => ?_)
    · refine lv_aload_n hx hb dX10_regrowIt_34 rfl (lv_at hl 1 rfl) ?_
      refine lv_iload_n hx hb dX10_regrowIt_35 rfl (lv_at hl 0 rfl) ?_
      obtain ⟨t, ht, htn⟩ := ltp_ex hF.ok hq
      refine md_callg C hml hl.1 (As := [.int (nI j_8)]) (rest := []) (m_lastTipAt l D aT ad S (nM (S 0)) (idM (S 0)) (prM (S 0)) (tnM (S 0)) hF j_8 (hq)) gT_lastTipAt hd_lastTipAt rfl ⟨Nat.le_of_ble_eq_true rfl, Nat.le_of_ble_eq_true rfl⟩ ⟨Nat.le_refl _, Nat.le_refl _⟩ hW hA rfl (Nat.le_of_ble_eq_true rfl) dX10_regrowIt_36 (fun r_36 H locs hq hW => ?_)
      subst hq
      refine r_eq (y := (nI t)) (by rw [ht]; rfl) ?_
      refine lv_istore_n (lv' := [(3, .int (nI t)), (2, .int (nI j_8)), (0, .ref (ad 0)), (1, .int x)]) hx hb dX10_regrowIt_39 rfl hl (by decide) rfl (fun ls hl => ?_)
      refine lv_aload_n hx hb dX10_regrowIt_40 rfl (lv_at hl 2 rfl) ?_
      refine lv_aload_n hx hb dX10_regrowIt_41 rfl (lv_at hl 2 rfl) ?_
      refine lv_iload_n hx hb dX10_regrowIt_42 rfl (lv_at hl 0 rfl) ?_
      refine lv_iconst (v := nI 0) hx hb dX10_regrowIt_43 (by decide) ?_
      refine md_callg C hml hl.1 (As := [.int (nI t), .int (nI 0)]) (rest := [.ref (ad 0)]) (m_of l D aT ad S t 0 (by omega)) gT_of hd_of rfl ⟨Nat.le_of_ble_eq_true rfl, Nat.le_of_ble_eq_true rfl⟩ ⟨Nat.le_refl _, Nat.le_refl _⟩ hW hA rfl (Nat.le_of_ble_eq_true rfl) dX10_regrowIt_44 (fun r_44 H locs hq hW => ?_)
      subst hq
      refine r_eq (y := (S 0 (29 + 4 * t))) (rfl) ?_
      refine lv_aload_n hx hb dX10_regrowIt_47 rfl (lv_at hl 2 rfl) ?_
      refine lv_iload_n hx hb dX10_regrowIt_48 rfl (lv_at hl 0 rfl) ?_
      refine lv_iconst (v := nI 2) hx hb dX10_regrowIt_49 (by decide) ?_
      refine md_callg C hml hl.1 (As := [.int (nI t), .int (nI 2)]) (rest := [.int (S 0 (29 + 4 * t)), .ref (ad 0)]) (m_of l D aT ad S t 2 (by omega)) gT_of hd_of rfl ⟨Nat.le_of_ble_eq_true rfl, Nat.le_of_ble_eq_true rfl⟩ ⟨Nat.le_refl _, Nat.le_refl _⟩ hW hA rfl (Nat.le_of_ble_eq_true rfl) dX10_regrowIt_50 (fun r_50 H locs hq hW => ?_)
      subst hq
      refine r_eq (y := (nI (tnM (S 0) t))) ((hF.2.2.2.2.2.2 t htn).1) ?_
      refine lv_iconst (v := nI 1) hx hb dX10_regrowIt_53 (by decide) ?_
      refine r_iaddN hx hb (a := (tnM (S 0) t)) (b := 1) dX10_regrowIt_54 ?_
      refine lv_bipush (v := nI 10) hx hb dX10_regrowIt_55 (by decide) ?_
      refine lv_irem hx hb dX10_regrowIt_57 (by decide) ?_
      refine r_eq (y := (nI ((tnM (S 0) t + 1) % 10))) (pk_rem (by have := (hF.2.2.2.2.2.2 t htn).2; omega) (by decide) (by decide)) ?_
      refine lv_iconst (v := nI 1) hx hb dX10_regrowIt_58 (by decide) ?_
      refine lv_aload_n hx hb dX10_regrowIt_59 rfl (lv_at hl 2 rfl) ?_
      refine lv_iload_n hx hb dX10_regrowIt_60 rfl (lv_at hl 0 rfl) ?_
      refine lv_iconst (v := nI 3) hx hb dX10_regrowIt_61 (by decide) ?_
      refine md_callg C hml hl.1 (As := [.int (nI t), .int (nI 3)]) (rest := [.int (nI 1), .int (nI ((tnM (S 0) t + 1) % 10)), .int (S 0 (29 + 4 * t)), .ref (ad 0)]) (m_of l D aT ad S t 3 (by omega)) gT_of hd_of rfl ⟨Nat.le_of_ble_eq_true rfl, Nat.le_of_ble_eq_true rfl⟩ ⟨Nat.le_refl _, Nat.le_refl _⟩ hW hA rfl (Nat.le_of_ble_eq_true rfl) dX10_regrowIt_62 (fun r_62 H locs hq hW => ?_)
      subst hq
      refine lv_iconst (v := nI 2) hx hb dX10_regrowIt_65 (by decide) ?_
      refine lv_idiv hx hb dX10_regrowIt_66 (by decide) ?_
      refine md_max C hml hl.1 gk_max ⟨Nat.le_of_ble_eq_true rfl, Nat.le_of_ble_eq_true rfl, Nat.le_of_ble_eq_true rfl⟩ ⟨Nat.le_refl _, Nat.le_refl _⟩ dX10_regrowIt_67 ?_
      refine md_calli C hml hl.1 (As := [.int (S 0 (29 + 4 * t)), .int (nI ((tnM (S 0) t + 1) % 10)), .int (if (nI 1) < ((S 0 (29 + 4 * t + 3)) / (nI 2)) then ((S 0 (29 + 4 * t + 3)) / (nI 2)) else (nI 1))]) (rest := []) (m_adds l D aT ad S (nM (S 0)) ((S 0 (29 + 4 * t))) ((nI ((tnM (S 0) t + 1) % 10))) ((if (nI 1) < ((S 0 (29 + 4 * t + 3)) / (nI 2)) then ((S 0 (29 + 4 * t + 3)) / (nI 2)) else (nI 1))) hF.1 (by omega)) gT_adds hd_adds rfl ⟨Nat.le_of_ble_eq_true rfl, Nat.le_of_ble_eq_true rfl⟩ ⟨Nat.le_refl _, Nat.le_refl _⟩ hW hA rfl (Nat.le_of_ble_eq_true rfl) dX10_regrowIt_70 (fun r_70 S_70 H locs hq hW => ?_)
      obtain ⟨rfl, rfl⟩ := hq
      exact md_iret C hr hlocks rfl hW (Or.inr (Or.inr ⟨j_8, t, c_8, by omega, ht, rfl, rfl⟩)) dX10_regrowIt_73
    · refine lv_aload_n hx hb dX10_regrowIt_28 rfl (lv_at hl 1 rfl) ?_
      refine lv_iconst (v := nI 2) hx hb dX10_regrowIt_29 (by decide) ?_
      refine md_calli C hml hl.1 (As := [.int (nI 2)]) (rest := []) (m_throwing l D aT ad S 2) gT_throwing hd_throwing rfl ⟨Nat.le_of_ble_eq_true rfl, Nat.le_of_ble_eq_true rfl⟩ ⟨Nat.le_refl _, Nat.le_refl _⟩ hW hA rfl (Nat.le_of_ble_eq_true rfl) dX10_regrowIt_30 (fun r_30 S_30 H locs hq hW => ?_)
      obtain ⟨rfl, rfl⟩ := hq
      exact md_iret C hr hlocks rfl hW (Or.inr (Or.inl ⟨j_8, c_8, c_25, rfl, rfl⟩)) dX10_regrowIt_33
  · have hl : lv_has ls 4 [(2, .int (-1)), (0, .ref (ad 0)), (1, .int x)] := by rw [c_8] at hl; exact hl
    refine lv_aload_n hx hb dX10_regrowIt_11 rfl (lv_at hl 1 rfl) ?_
    refine lv_iconst (v := nI 1) hx hb dX10_regrowIt_12 (by decide) ?_
    refine md_calli C hml hl.1 (As := [.int (nI 1)]) (rest := []) (m_throwing l D aT ad S 1) gT_throwing hd_throwing rfl ⟨Nat.le_of_ble_eq_true rfl, Nat.le_of_ble_eq_true rfl⟩ ⟨Nat.le_refl _, Nat.le_refl _⟩ hW hA rfl (Nat.le_of_ble_eq_true rfl) dX10_regrowIt_13 (fun r_13 S_13 H locs hq hW => ?_)
    obtain ⟨rfl, rfl⟩ := hq
    exact md_iret C hr hlocks rfl hW (Or.inl ⟨c_8, rfl, rfl⟩) dX10_regrowIt_16
