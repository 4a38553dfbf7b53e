/-- the first place of those from one on, below another, whose parent is at a place -/
def chF (pr : Nat → Option Nat) (p n : Nat) : Nat → Option Nat
  | 0 => none
  | d + 1 => if pr (n - (d + 1)) = some p then some (n - (d + 1)) else chF pr p n d
theorem chF_lt {pr : Nat → Option Nat} {p n d q : Nat} (hd : d ≤ n) (h : chF pr p n d = some q) : q < n ∧ n - d ≤ q ∧ pr q = some p := by
  induction d with
  | zero => cases h
  | succ d ih =>
    rw [chF] at h
    split at h
    · rename_i z; cases h; exact ⟨by omega, Nat.le_refl _, z⟩
    · have := ih (by omega) h; exact ⟨this.1, by omega, this.2.2⟩
theorem pd_eq {x : Nat} (h : 0 < x) : nI x + -1 = nI (x - 1) := by
  obtain ⟨y, rfl⟩ : ∃ y, x = y + 1 := ⟨x - 1, by omega⟩
  exact pk_m1 y
theorem neg1_lt {q : Nat} (hq : q < 2 ^ 31) : (-1 : Int32) < nI q := by
  rw [Int32.lt_iff_toInt_lt, nI_toInt hq]
  have : (-1 : Int32).toInt = -1 := by decide
  omega
theorem pd_le {x q : Nat} (hx : x < 2 ^ 31) (hq : q < 2 ^ 31) (h : nI x + -1 < nI q) : x ≤ q := by
  rcases Nat.lt_or_ge q x with z | z
  · exfalso
    rw [pd_eq (by omega), nI_ltI (by omega) hq] at h
    omega
  · exact z
theorem pd_gt {x q : Nat} (hx : x < 2 ^ 31) (hq : q < 2 ^ 31) (h : ¬ nI x + -1 < nI q) : q < x := by
  rcases Nat.lt_or_ge q x with z | z
  · exact z
  · refine absurd ?_ h
    rcases Nat.eq_zero_or_pos x with y | y
    · subst y; exact neg1_lt hq
    · rw [pd_eq y, nI_ltI (by omega) hq]; omega
/-- the state with the line as it is being written -/
def lnS (S : MSt) (f : Nat → Int32) (k : Nat) : MSt := ss (sr S 12 f) 25 (nI k)
theorem lnS_i {S : MSt} {f g : Nat → Int32} {k j : Nat} : ss (sr (lnS S f k) 12 g) 25 (nI j) = lnS S g j := by
  funext r i
  by_cases h : r = 13
  · subst h
    show upd (upd (S 13) 25 (nI k)) 25 (nI j) i = upd (S 13) 25 (nI j) i
    by_cases h2 : i = 25
    · subst h2; exact pk_us.trans pk_us.symm
    · rw [pk_un h2, pk_un h2, pk_un h2]
  · by_cases h1 : r = 12
    · subst h1; rfl
    · simp [lnS, ss, sr, h, h1]
theorem lnS_0 {S : MSt} {k : Nat} (h : S 13 25 = nI k) : lnS S (S 12) k = S := by
  funext r i
  by_cases h1 : r = 13
  · subst h1
    show upd (S 13) 25 (nI k) i = S 13 i
    by_cases h2 : i = 25
    · subst h2; exact pk_us.trans h.symm
    · rw [pk_un h2]
  · by_cases h2 : r = 12
    · subst h2; rfl
    · simp [lnS, ss, sr, h1, h2]
theorem gT_childFrom : GoodIn gw (wsV RX10 267 RX10 yX10_childFrom (Cond.code yX10_childFrom cX10_childFrom 5 (some .int) :: gw)) := gdV gw_2065 gw_2067 gw_64 gw_81 gw_2068
theorem hd_childFrom : yX10_childFrom.cls = RX10 ∧ yX10_childFrom.cls ≠ "java/lang/invoke/MethodHandle" ∧ yX10_childFrom.cls ≠ "java/lang/invoke/VarHandle" ∧ (parseMethodDescriptor yX10_childFrom.desc).map (fun d => d.parameters.length) = some 2 := ⟨rfl, by decide +kernel, by decide +kernel, by decide +kernel⟩
theorem dX10_childFrom_0 : decode cX10_childFrom 0 = .ok (.iconst (-1), 1) := by decide +kernel
theorem dX10_childFrom_1 : decode cX10_childFrom 1 = .ok (.istore_n 3, 1) := by decide +kernel
theorem dX10_childFrom_2 : decode cX10_childFrom 2 = .ok (.aload_n 0, 1) := by decide +kernel
theorem dX10_childFrom_3 : decode cX10_childFrom 3 = .ok (.getfield 9, 3) := by decide +kernel
theorem dX10_childFrom_6 : decode cX10_childFrom 6 = .ok (.iconst 2, 1) := by decide +kernel
theorem dX10_childFrom_7 : decode cX10_childFrom 7 = .ok (.iaload, 1) := by decide +kernel
theorem dX10_childFrom_8 : decode cX10_childFrom 8 = .ok (.iconst 1, 1) := by decide +kernel
theorem dX10_childFrom_9 : decode cX10_childFrom 9 = .ok (.isub, 1) := by decide +kernel
theorem dX10_childFrom_10 : decode cX10_childFrom 10 = .ok (.istore 4, 2) := by decide +kernel
theorem dX10_childFrom_12 : decode cX10_childFrom 12 = .ok (.iload 4, 2) := by decide +kernel
theorem dX10_childFrom_14 : decode cX10_childFrom 14 = .ok (.iload_n 1, 1) := by decide +kernel
theorem dX10_childFrom_15 : decode cX10_childFrom 15 = .ok (.if_icmp .lt 26, 3) := by decide +kernel
theorem dX10_childFrom_18 : decode cX10_childFrom 18 = .ok (.aload_n 0, 1) := by decide +kernel
theorem dX10_childFrom_19 : decode cX10_childFrom 19 = .ok (.iload 4, 2) := by decide +kernel
theorem dX10_childFrom_21 : decode cX10_childFrom 21 = .ok (.invokevirtual 75, 3) := by decide +kernel
theorem dX10_childFrom_24 : decode cX10_childFrom 24 = .ok (.iload_n 2, 1) := by decide +kernel
theorem dX10_childFrom_25 : decode cX10_childFrom 25 = .ok (.if_icmp .ne 8, 3) := by decide +kernel
theorem dX10_childFrom_28 : decode cX10_childFrom 28 = .ok (.iload 4, 2) := by decide +kernel
theorem dX10_childFrom_30 : decode cX10_childFrom 30 = .ok (.goto 4, 3) := by decide +kernel
theorem dX10_childFrom_33 : decode cX10_childFrom 33 = .ok (.iload_n 3, 1) := by decide +kernel
theorem dX10_childFrom_34 : decode cX10_childFrom 34 = .ok (.istore_n 3, 1) := by decide +kernel
theorem dX10_childFrom_35 : decode cX10_childFrom 35 = .ok (.iinc 4 (-1), 3) := by decide +kernel
theorem dX10_childFrom_38 : decode cX10_childFrom 38 = .ok (.goto (-26), 3) := by decide +kernel
theorem dX10_childFrom_41 : decode cX10_childFrom 41 = .ok (.iload_n 3, 1) := by decide +kernel
theorem dX10_childFrom_42 : decode cX10_childFrom 42 = .ok (.ireturn, 1) := by decide +kernel
set_option maxHeartbeats 1000000 in
set_option maxRecDepth 20000 in
theorem m_childFrom (l : Launch) (D : va_G) (aT : Nat → ClassId) (ad : Nat → Nat) (S : MSt) (n : Nat) (idn : Nat → Nat) (pr : Nat → Option Nat) (tn : Nat → Nat) (hF : FoR (S 0) n idn pr tn) (fr pa : Nat) (hfr : fr ≤ n) (hp12 : pa < n) : MdG l yX10_childFrom cX10_childFrom 5 .int 3 65 D aT ad [.ref (ad 0), .int (nI fr), .int (nI pa)] S (fun q => q = oi (chF pr pa n (n - fr))) := by
  refine MdI.of (by decide +kernel) rfl (Nat.le_of_ble_eq_true rfl) ?_
  intro p e s m below meth c A ls C hml hl hA hr hlocks hW
  have hl : lv_has ls 5 [(0, .ref (ad 0)), (1, .int (nI fr)), (2, .int (nI pa))] := hl
  have hx := C.1
  have hb := C.2.1
  refine lv_iconst (v := (-1)) hx hb dX10_childFrom_0 (by decide) ?_
  refine lv_istore_n (lv' := [(3, .int (-1)), (0, .ref (ad 0)), (1, .int (nI fr)), (2, .int (nI pa))]) hx hb dX10_childFrom_1 rfl hl (by decide) rfl (fun ls hl => ?_)
  refine lv_aload_n hx hb dX10_childFrom_2 rfl (lv_at hl 1 rfl) ?_
  refine md_geta_m C hW dX10_childFrom_3 ?_
  refine lv_iconst (v := nI 2) hx hb dX10_childFrom_6 (by decide) ?_
  refine md_ald_m C hW (i := 2) (by omega) dX10_childFrom_7 ?_
  refine r_eq (y := (nI n)) (hF.1) ?_
  refine lv_iconst (v := nI 1) hx hb dX10_childFrom_8 (by decide) ?_
  refine lv_isub hx hb dX10_childFrom_9 ?_
  refine r_eq (y := (nI n + -1)) ((by rw [Int32.sub_eq_add_neg]; rfl)) ?_
  refine lv_istore (lv' := [(4, .int (nI n + -1)), (3, .int (-1)), (0, .ref (ad 0)), (1, .int (nI fr)), (2, .int (nI pa))]) hx hb dX10_childFrom_10 hl (by decide) rfl (fun ls hl => ?_)
  refine W_loopH (σ := Option Nat × Nat) (fun z_ => z_.2) (fun z_ H locs g => ∃ ls, g = F0 m 12 ls [] ∧ lv_has ls 5 [(0, .ref (ad 0)), (1, .int (nI fr)), (2, .int (nI pa)), (3, .int (oi z_.1)), (4, .int (nI z_.2 + -1))] ∧ MdB D aT ad S A s.heap H locs ∧ (z_.1 = chF pr pa n (n - z_.2) ∧ fr ≤ z_.2 ∧ z_.2 ≤ n)) ?_ (none, n) _ ⟨_, rfl, lv_sub hl [2, 3, 4, 1, 0] rfl, hW, ⟨by rw [Nat.sub_self]; rfl, hfr, Nat.le_refl _⟩⟩
  clear hW hl
  rintro ⟨o, x⟩ H locs g ⟨ls, rfl, hl, hW, hi, hfx, hxn⟩ ih_12
  dsimp only at hl hW hi hfx hxn ⊢
  refine lv_iload hx hb dX10_childFrom_12 (lv_at hl 4 rfl) ?_
  refine lv_iload_n hx hb dX10_childFrom_14 rfl (lv_at hl 1 rfl) ?_
  refine lv_icmp_lt hx hb (x := (nI x + -1)) (y := (nI fr)) (tgt := 41) dX10_childFrom_15 (by decide) (fun c_15 => ?_) (fun c_15 => ?_)
  · have hxf := pd_le (by have := hF.2.1; omega) (by have := hF.2.1; omega) c_15
    refine lv_iload_n hx hb dX10_childFrom_41 rfl (lv_at hl 3 rfl) ?_
    exact md_iret C hr hlocks rfl hW (⟨by rw [hi, show x = fr by omega], rfl⟩) dX10_childFrom_42
  · have hxf := pd_gt (by have := hF.2.1; omega) (by have := hF.2.1; omega) c_15
    have hl : lv_has ls 5 [(0, .ref (ad 0)), (1, .int (nI fr)), (2, .int (nI pa)), (3, .int (oi o)), (4, .int (nI (x - 1)))] := by rw [pd_eq (by omega)] at hl; exact hl
    refine lv_aload_n hx hb dX10_childFrom_18 rfl (lv_at hl 0 rfl) ?_
    refine lv_iload hx hb dX10_childFrom_19 (lv_at hl 4 rfl) ?_
    refine md_callg C hml hl.1 (As := [.int (nI (x - 1))]) (rest := []) (m_above l D aT ad S n idn pr tn hF (x - 1) (by omega)) gT_above hd_above rfl ⟨Nat.le_of_ble_eq_true rfl, Nat.le_of_ble_eq_true rfl⟩ ⟨Nat.le_refl _, Nat.le_refl _⟩ hW hA rfl (Nat.le_of_ble_eq_true rfl) dX10_childFrom_21 (fun r_21 H locs hq hW => ?_)
    subst hq
    refine lv_iload_n hx hb dX10_childFrom_24 rfl (lv_at hl 2 rfl) ?_
    refine r_on_ne hx hb (o := (pr (x - 1))) (q := pa) (hF.plim (by omega)) (by have := hF.2.1; omega) (tgt := 33) dX10_childFrom_25 (by decide) (fun c_25 => ?_) (fun c_25 => ?_)
    · refine lv_iload_n hx hb dX10_childFrom_33 rfl (lv_at hl 3 rfl) ?_
      refine lv_istore_n (lv' := [(3, .int (oi o)), (0, .ref (ad 0)), (1, .int (nI fr)), (2, .int (nI pa)), (4, .int (nI (x - 1)))]) hx hb dX10_childFrom_34 rfl hl (by decide) rfl (fun ls hl => ?_)
      refine lv_iinc (v := ((nI (x - 1)) + -1)) (lv' := [(4, .int ((nI (x - 1)) + -1)), (3, .int (oi o)), (0, .ref (ad 0)), (1, .int (nI fr)), (2, .int (nI pa))]) hx hb dX10_childFrom_35 hl (k := 4) rfl rfl (by decide) rfl (fun ls hl => ?_)
      refine lv_goto (tgt := 12) hx hb dX10_childFrom_38 (by decide) ?_
      exact ih_12 (o, (x - 1)) _ _ _ (by dsimp only; omega) ⟨_, rfl, lv_sub hl [2, 3, 4, 1, 0] rfl, hW, ⟨by rw [show n - (x - 1) = n - x + 1 by omega, chF, show n - (n - x + 1) = x - 1 by omega, if_neg c_25]; exact hi, by omega, by omega⟩⟩
    · refine lv_iload hx hb dX10_childFrom_28 (lv_at hl 4 rfl) ?_
      refine lv_goto (tgt := 34) hx hb dX10_childFrom_30 (by decide) ?_
      refine lv_istore_n (lv' := [(3, .int (nI (x - 1))), (0, .ref (ad 0)), (1, .int (nI fr)), (2, .int (nI pa)), (4, .int (nI (x - 1)))]) hx hb dX10_childFrom_34 rfl hl (by decide) rfl (fun ls hl => ?_)
      refine lv_iinc (v := ((nI (x - 1)) + -1)) (lv' := [(4, .int ((nI (x - 1)) + -1)), (3, .int (nI (x - 1))), (0, .ref (ad 0)), (1, .int (nI fr)), (2, .int (nI pa))]) hx hb dX10_childFrom_35 hl (k := 4) rfl rfl (by decide) rfl (fun ls hl => ?_)
      refine lv_goto (tgt := 12) hx hb dX10_childFrom_38 (by decide) ?_
      exact ih_12 ((some (x - 1)), (x - 1)) _ _ _ (by dsimp only; omega) ⟨_, rfl, lv_sub hl [2, 3, 4, 1, 0] rfl, hW, ⟨by rw [show n - (x - 1) = n - x + 1 by omega, chF, show n - (n - x + 1) = x - 1 by omega, if_pos c_25], by omega, by omega⟩⟩
theorem gT_sign : GoodIn gw (wsV RX10 261 RX10 yX10_sign (Cond.code yX10_sign cX10_sign 2 (none) :: gw)) := gdV gw_2061 gw_2063 gw_63 gw_81 gw_2064
theorem hd_sign : yX10_sign.cls = RX10 ∧ yX10_sign.cls ≠ "java/lang/invoke/MethodHandle" ∧ yX10_sign.cls ≠ "java/lang/invoke/VarHandle" ∧ (parseMethodDescriptor yX10_sign.desc).map (fun d => d.parameters.length) = some 1 := ⟨rfl, by decide +kernel, by decide +kernel, by decide +kernel⟩
theorem dX10_sign_0 : decode cX10_sign 0 = .ok (.aload_n 0, 1) := by decide +kernel
theorem dX10_sign_1 : decode cX10_sign 1 = .ok (.getfield 54, 3) := by decide +kernel
theorem dX10_sign_4 : decode cX10_sign 4 = .ok (.aload_n 0, 1) := by decide +kernel
theorem dX10_sign_5 : decode cX10_sign 5 = .ok (.getfield 258, 3) := by decide +kernel
theorem dX10_sign_8 : decode cX10_sign 8 = .ok (.iload_n 1, 1) := by decide +kernel
theorem dX10_sign_9 : decode cX10_sign 9 = .ok (.iastore, 1) := by decide +kernel
theorem dX10_sign_10 : decode cX10_sign 10 = .ok (.aload_n 0, 1) := by decide +kernel
theorem dX10_sign_11 : decode cX10_sign 11 = .ok (.dup, 1) := by decide +kernel
theorem dX10_sign_12 : decode cX10_sign 12 = .ok (.getfield 258, 3) := by decide +kernel
theorem dX10_sign_15 : decode cX10_sign 15 = .ok (.iconst 1, 1) := by decide +kernel
theorem dX10_sign_16 : decode cX10_sign 16 = .ok (.iadd, 1) := by decide +kernel
theorem dX10_sign_17 : decode cX10_sign 17 = .ok (.putfield 258, 3) := by decide +kernel
theorem dX10_sign_20 : decode cX10_sign 20 = .ok (.return_, 1) := by decide +kernel
set_option maxHeartbeats 1000000 in
set_option maxRecDepth 20000 in
theorem m_sign (l : Launch) (D : va_G) (aT : Nat → ClassId) (ad : Nat → Nat) (S : MSt) (f : Nat → Int32) (k : Nat) (hk4 : k < 400) (c0 : Int32) : MdV l yX10_sign cX10_sign 2 0 0 D aT ad [.ref (ad 0), .int c0] (lnS S f k) (fun S1 => S1 = lnS S (upd f k c0) (k + 1)) := by
  refine MdV.of (by decide +kernel) rfl (Nat.le_of_ble_eq_true rfl) ?_
  intro p e s m below meth c A ls C hml hl hA hr hlocks hW
  have hl : lv_has ls 2 [(0, .ref (ad 0)), (1, .int c0)] := hl
  have hx := C.1
  have hb := C.2.1
  refine lv_aload_n hx hb dX10_sign_0 rfl (lv_at hl 0 rfl) ?_
  refine md_geta_line C hW dX10_sign_1 ?_
  refine lv_aload_n hx hb dX10_sign_4 rfl (lv_at hl 0 rfl) ?_
  refine md_get_lineMany C hW dX10_sign_5 ?_
  refine r_eq (y := (nI k)) (rfl) ?_
  refine lv_iload_n hx hb dX10_sign_8 rfl (lv_at hl 1 rfl) ?_
  refine md_ast_line C hW (i := k) (by omega) dX10_sign_9 (fun H locs hW => ?_)
  have hW : MdB D aT ad (sr (lnS S f k) 12 (upd ((lnS S f k) 12) k (c0))) A s.heap H locs := hW
  refine lv_aload_n hx hb dX10_sign_10 rfl (lv_at hl 0 rfl) ?_
  refine lv_dup hx hb dX10_sign_11 rfl ?_
  refine md_get_lineMany C hW dX10_sign_12 ?_
  refine r_eq (y := (nI k)) (rfl) ?_
  refine lv_iconst (v := nI 1) hx hb dX10_sign_15 (by decide) ?_
  refine r_iaddN hx hb (a := k) (b := 1) dX10_sign_16 ?_
  refine md_put_lineMany C hW dX10_sign_17 (fun H locs hW => ?_)
  have hW : MdB D aT ad (lnS S (upd f k c0) (k + 1)) A s.heap H locs := (congrArg (fun T1 => MdB D aT ad T1 A s.heap H locs) (lnS_i (S := S) (f := f) (g := upd f k c0) (k := k) (j := k + 1))).mp hW
  exact md_vret C hr hlocks hW (rfl) dX10_sign_20
