/-- the first place of those from one on, below another, whose parent is at a place -/
def chF (pr : Nat → Option Nat) (p n : Nat) : Nat → Option Nat
  | 0 => none
  | d + 1 => if pr (n - (d + 1)) = some p then some (n - (d + 1)) else chF pr p n d
theorem chF_lt {pr : Nat → Option Nat} {p n d q : Nat} (hd : d ≤ n) (h : chF pr p n d = some q) : q < n ∧ n - d ≤ q ∧ pr q = some p := by
  induction d with
  | zero => cases h
  | succ d ih =>
    rw [chF] at h
    split at h
    · rename_i z; cases h; exact ⟨by omega, Nat.le_refl _, z⟩
    · have := ih (by omega) h; exact ⟨this.1, by omega, this.2.2⟩
theorem pd_eq {x : Nat} (h : 0 < x) : nI x + -1 = nI (x - 1) := by
  obtain ⟨y, rfl⟩ : ∃ y, x = y + 1 := ⟨x - 1, by omega⟩
  exact pk_m1 y
theorem neg1_lt {q : Nat} (hq : q < 2 ^ 31) : (-1 : Int32) < nI q := by
  rw [Int32.lt_iff_toInt_lt, nI_toInt hq]
  have : (-1 : Int32).toInt = -1 := by decide
  omega
theorem pd_le {x q : Nat} (hx : x < 2 ^ 31) (hq : q < 2 ^ 31) (h : nI x + -1 < nI q) : x ≤ q := by
  rcases Nat.lt_or_ge q x with z | z
  · exfalso
    rw [pd_eq (by omega), nI_ltI (by omega) hq] at h
    omega
  · exact z
theorem pd_gt {x q : Nat} (hx : x < 2 ^ 31) (hq : q < 2 ^ 31) (h : ¬ nI x + -1 < nI q) : q < x := by
  rcases Nat.lt_or_ge q x with z | z
  · exact z
  · refine absurd ?_ h
    rcases Nat.eq_zero_or_pos x with y | y
    · subst y; exact neg1_lt hq
    · rw [pd_eq y, nI_ltI (by omega) hq]; omega
theorem gT_childFrom : GoodIn gw (wsV RX10 267 RX10 yX10_childFrom (Cond.code yX10_childFrom cX10_childFrom 5 (some .int) :: gw)) := gdV gw_2065 gw_2067 gw_64 gw_81 gw_2068
theorem hd_childFrom : yX10_childFrom.cls = RX10 ∧ yX10_childFrom.cls ≠ "java/lang/invoke/MethodHandle" ∧ yX10_childFrom.cls ≠ "java/lang/invoke/VarHandle" ∧ (parseMethodDescriptor yX10_childFrom.desc).map (fun d => d.parameters.length) = some 2 := ⟨rfl, by decide +kernel, by decide +kernel, by decide +kernel⟩
theorem dX10_childFrom_0 : decode cX10_childFrom 0 = .ok (.iconst (-1), 1) := by decide +kernel
theorem dX10_childFrom_1 : decode cX10_childFrom 1 = .ok (.istore_n 3, 1) := by decide +kernel
theorem dX10_childFrom_2 : decode cX10_childFrom 2 = .ok (.aload_n 0, 1) := by decide +kernel
theorem dX10_childFrom_3 : decode cX10_childFrom 3 = .ok (.getfield 9, 3) := by decide +kernel
theorem dX10_childFrom_6 : decode cX10_childFrom 6 = .ok (.iconst 2, 1) := by decide +kernel
theorem dX10_childFrom_7 : decode cX10_childFrom 7 = .ok (.iaload, 1) := by decide +kernel
theorem dX10_childFrom_8 : decode cX10_childFrom 8 = .ok (.iconst 1, 1) := by decide +kernel
theorem dX10_childFrom_9 : decode cX10_childFrom 9 = .ok (.isub, 1) := by decide +kernel
theorem dX10_childFrom_10 : decode cX10_childFrom 10 = .ok (.istore 4, 2) := by decide +kernel
theorem dX10_childFrom_12 : decode cX10_childFrom 12 = .ok (.iload 4, 2) := by decide +kernel
theorem dX10_childFrom_14 : decode cX10_childFrom 14 = .ok (.iload_n 1, 1) := by decide +kernel
theorem dX10_childFrom_15 : decode cX10_childFrom 15 = .ok (.if_icmp .lt 26, 3) := by decide +kernel
theorem dX10_childFrom_18 : decode cX10_childFrom 18 = .ok (.aload_n 0, 1) := by decide +kernel
theorem dX10_childFrom_19 : decode cX10_childFrom 19 = .ok (.iload 4, 2) := by decide +kernel
theorem dX10_childFrom_21 : decode cX10_childFrom 21 = .ok (.invokevirtual 75, 3) := by decide +kernel
theorem dX10_childFrom_24 : decode cX10_childFrom 24 = .ok (.iload_n 2, 1) := by decide +kernel
theorem dX10_childFrom_25 : decode cX10_childFrom 25 = .ok (.if_icmp .ne 8, 3) := by decide +kernel
theorem dX10_childFrom_28 : decode cX10_childFrom 28 = .ok (.iload 4, 2) := by decide +kernel
theorem dX10_childFrom_30 : decode cX10_childFrom 30 = .ok (.goto 4, 3) := by decide +kernel
theorem dX10_childFrom_33 : decode cX10_childFrom 33 = .ok (.iload_n 3, 1) := by decide +kernel
theorem dX10_childFrom_34 : decode cX10_childFrom 34 = .ok (.istore_n 3, 1) := by decide +kernel
theorem dX10_childFrom_35 : decode cX10_childFrom 35 = .ok (.iinc 4 (-1), 3) := by decide +kernel
theorem dX10_childFrom_38 : decode cX10_childFrom 38 = .ok (.goto (-26), 3) := by decide +kernel
theorem dX10_childFrom_41 : decode cX10_childFrom 41 = .ok (.iload_n 3, 1) := by decide +kernel
theorem dX10_childFrom_42 : decode cX10_childFrom 42 = .ok (.ireturn, 1) := by decide +kernel
set_option maxHeartbeats 1000000 in
set_option maxRecDepth 20000 in
theorem m_childFrom (l : Launch) (D : va_G) (aT : Nat → ClassId) (ad : Nat → Nat) (S : MSt) (n : Nat) (idn : Nat → Nat) (pr : Nat → Option Nat) (tn : Nat → Nat) (hF : FoR (S 0) n idn pr tn) (fr pa : Nat) (hfr : fr ≤ n) (hp12 : pa < n) : MdG l yX10_childFrom cX10_childFrom 5 .int 3 65 D aT ad [.ref (ad 0), .int (nI fr), .int (nI pa)] S (fun q => q = oi (chF pr pa n (n - fr))) := by
  refine MdI.of (by decide +kernel) rfl (Nat.le_of_ble_eq_true rfl) ?_
  intro p e s m below meth c A ls C hml hl hA hr hlocks hW
  have hl : lv_has ls 5 [(0, .ref (ad 0)), (1, .int (nI fr)), (2, .int (nI pa))] := hl
  have hx := C.1
  have hb := C.2.1
  refine lv_iconst (v := (-1)) hx hb dX10_childFrom_0 (by decide) ?_
  refine lv_istore_n (lv' := [(3, .int (-1)), (0, .ref (ad 0)), (1, .int (nI fr)), (2, .int (nI pa))]) hx hb dX10_childFrom_1 rfl hl (by decide) rfl (fun ls hl => ?_)
  refine lv_aload_n hx hb dX10_childFrom_2 rfl (lv_at hl 1 rfl) ?_
  refine md_geta_m C hW dX10_childFrom_3 ?_
  refine lv_iconst (v := nI 2) hx hb dX10_childFrom_6 (by decide) ?_
  refine md_ald_m C hW (i := 2) (by omega) dX10_childFrom_7 ?_
  refine r_eq (y := (nI n)) (hF.1) ?_
  refine lv_iconst (v := nI 1) hx hb dX10_childFrom_8 (by decide) ?_
  refine lv_isub hx hb dX10_childFrom_9 ?_
  refine r_eq (y := (nI n + -1)) ((by rw [Int32.sub_eq_add_neg]; rfl)) ?_
  refine lv_istore (lv' := [(4, .int (nI n + -1)), (3, .int (-1)), (0, .ref (ad 0)), (1, .int (nI fr)), (2, .int (nI pa))]) hx hb dX10_childFrom_10 hl (by decide) rfl (fun ls hl => ?_)
  refine W_loopH (σ := Option Nat × Nat) (fun z_ => z_.2) (fun z_ H locs g => ∃ ls, g = F0 m 12 ls [] ∧ lv_has ls 5 [(0, .ref (ad 0)), (1, .int (nI fr)), (2, .int (nI pa)), (3, .int (oi z_.1)), (4, .int (nI z_.2 + -1))] ∧ MdB D aT ad S A s.heap H locs ∧ (z_.1 = chF pr pa n (n - z_.2) ∧ fr ≤ z_.2 ∧ z_.2 ≤ n)) ?_ (none, n) _ ⟨_, rfl, lv_sub hl [2, 3, 4, 1, 0] rfl, hW, ⟨by rw [Nat.sub_self]; rfl, hfr, Nat.le_refl _⟩⟩
  clear hW hl
  rintro ⟨o, x⟩ H locs g ⟨ls, rfl, hl, hW, hi, hfx, hxn⟩ ih_12
  dsimp only at hl hW hi hfx hxn ⊢
  refine lv_iload hx hb dX10_childFrom_12 (lv_at hl 4 rfl) ?_
  refine lv_iload_n hx hb dX10_childFrom_14 rfl (lv_at hl 1 rfl) ?_
  refine lv_icmp_lt hx hb (x := (nI x + -1)) (y := (nI fr)) (tgt := 41) dX10_childFrom_15 (by decide) (fun c_15 => ?_) (fun c_15 => ?_)
  · have hxf := pd_le (by have := hF.2.1; omega) (by have := hF.2.1; omega) c_15
    refine lv_iload_n hx hb dX10_childFrom_41 rfl (lv_at hl 3 rfl) ?_
    exact md_iret C hr hlocks rfl hW (⟨by rw [hi, show x = fr by omega], rfl⟩) dX10_childFrom_42
  · have hxf := pd_gt (by have := hF.2.1; omega) (by have := hF.2.1; omega) c_15
    have hl : lv_has ls 5 [(0, .ref (ad 0)), (1, .int (nI fr)), (2, .int (nI pa)), (3, .int (oi o)), (4, .int (nI (x - 1)))] := by rw [pd_eq (by omega)] at hl; exact hl
    refine lv_aload_n hx hb dX10_childFrom_18 rfl (lv_at hl 0 rfl) ?_
    refine lv_iload hx hb dX10_childFrom_19 (lv_at hl 4 rfl) ?_
    refine md_callg C hml hl.1 (As := [.int (nI (x - 1))]) (rest := []) (m_above l D aT ad S n idn pr tn hF (x - 1) (by omega)) gT_above hd_above rfl ⟨Nat.le_of_ble_eq_true rfl, Nat.le_of_ble_eq_true rfl⟩ ⟨Nat.le_refl _, Nat.le_refl _⟩ hW hA rfl (Nat.le_of_ble_eq_true rfl) dX10_childFrom_21 (fun r_21 H locs hq hW => ?_)
    subst hq
    refine lv_iload_n hx hb dX10_childFrom_24 rfl (lv_at hl 2 rfl) ?_
    refine r_on_ne hx hb (o := (pr (x - 1))) (q := pa) (hF.plim (by omega)) (by have := hF.2.1; omega) (tgt := 33) dX10_childFrom_25 (by decide) (fun c_25 => ?_) (fun c_25 => ?_)
    · refine lv_iload_n hx hb dX10_childFrom_33 rfl (lv_at hl 3 rfl) ?_
      refine lv_istore_n (lv' := [(3, .int (oi o)), (0, .ref (ad 0)), (1, .int (nI fr)), (2, .int (nI pa)), (4, .int (nI (x - 1)))]) hx hb dX10_childFrom_34 rfl hl (by decide) rfl (fun ls hl => ?_)
      refine lv_iinc (v := ((nI (x - 1)) + -1)) (lv' := [(4, .int ((nI (x - 1)) + -1)), (3, .int (oi o)), (0, .ref (ad 0)), (1, .int (nI fr)), (2, .int (nI pa))]) hx hb dX10_childFrom_35 hl (k := 4) rfl rfl (by decide) rfl (fun ls hl => ?_)
      refine lv_goto (tgt := 12) hx hb dX10_childFrom_38 (by decide) ?_
      exact ih_12 (o, (x - 1)) _ _ _ (by dsimp only; omega) ⟨_, rfl, lv_sub hl [2, 3, 4, 1, 0] rfl, hW, ⟨by rw [show n - (x - 1) = n - x + 1 by omega, chF, show n - (n - x + 1) = x - 1 by omega, if_neg c_25]; exact hi, by omega, by omega⟩⟩
    · refine lv_iload hx hb dX10_childFrom_28 (lv_at hl 4 rfl) ?_
      refine lv_goto (tgt := 34) hx hb dX10_childFrom_30 (by decide) ?_
      refine lv_istore_n (lv' := [(3, .int (nI (x - 1))), (0, .ref (ad 0)), (1, .int (nI fr)), (2, .int (nI pa)), (4, .int (nI (x - 1)))]) hx hb dX10_childFrom_34 rfl hl (by decide) rfl (fun ls hl => ?_)
      refine lv_iinc (v := ((nI (x - 1)) + -1)) (lv' := [(4, .int ((nI (x - 1)) + -1)), (3, .int (nI (x - 1))), (0, .ref (ad 0)), (1, .int (nI fr)), (2, .int (nI pa))]) hx hb dX10_childFrom_35 hl (k := 4) rfl rfl (by decide) rfl (fun ls hl => ?_)
      refine lv_goto (tgt := 12) hx hb dX10_childFrom_38 (by decide) ?_
      exact ih_12 ((some (x - 1)), (x - 1)) _ _ _ (by dsimp only; omega) ⟨_, rfl, lv_sub hl [2, 3, 4, 1, 0] rfl, hW, ⟨by rw [show n - (x - 1) = n - x + 1 by omega, chF, show n - (n - x + 1) = x - 1 by omega, if_pos c_25], by omega, by omega⟩⟩
