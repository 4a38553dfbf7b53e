/-- the first place of those from one on, below another, whose parent is at a place -/
def chF (pr : Nat → Option Nat) (p n : Nat) : Nat → Option Nat
  | 0 => none
  | d + 1 => if pr (n - (d + 1)) = some p then some (n - (d + 1)) else chF pr p n d
theorem chF_lt {pr : Nat → Option Nat} {p n d q : Nat} (hd : d ≤ n) (h : chF pr p n d = some q) : q < n ∧ n - d ≤ q ∧ pr q = some p := by
  induction d with
  | zero => cases h
  | succ d ih =>
    rw [chF] at h
    split at h
    · rename_i z; cases h; exact ⟨by omega, Nat.le_refl _, z⟩
    · have := ih (by omega) h; exact ⟨this.1, by omega, this.2.2⟩
theorem pd_eq {x : Nat} (h : 0 < x) : nI x + -1 = nI (x - 1) := by
  obtain ⟨y, rfl⟩ : ∃ y, x = y + 1 := ⟨x - 1, by omega⟩
  exact pk_m1 y
theorem neg1_lt {q : Nat} (hq : q < 2 ^ 31) : (-1 : Int32) < nI q := by
  rw [Int32.lt_iff_toInt_lt, nI_toInt hq]
  have : (-1 : Int32).toInt = -1 := by decide
  omega
theorem pd_le {x q : Nat} (hx : x < 2 ^ 31) (hq : q < 2 ^ 31) (h : nI x + -1 < nI q) : x ≤ q := by
  rcases Nat.lt_or_ge q x with z | z
  · exfalso
    rw [pd_eq (by omega), nI_ltI (by omega) hq] at h
    omega
  · exact z
theorem pd_gt {x q : Nat} (hx : x < 2 ^ 31) (hq : q < 2 ^ 31) (h : ¬ nI x + -1 < nI q) : q < x := by
  rcases Nat.lt_or_ge q x with z | z
  · exact z
  · refine absurd ?_ h
    rcases Nat.eq_zero_or_pos x with y | y
    · subst y; exact neg1_lt hq
    · rw [pd_eq y, nI_ltI (by omega) hq]; omega
/-- the state with the line as it is being written -/
def lnS (S : MSt) (f : Nat → Int32) (k : Nat) : MSt := ss (sr S 12 f) 25 (nI k)
theorem lnS_i {S : MSt} {f g : Nat → Int32} {k j : Nat} : ss (sr (lnS S f k) 12 g) 25 (nI j) = lnS S g j := by
  funext r i
  by_cases h : r = 13
  · subst h
    show upd (upd (S 13) 25 (nI k)) 25 (nI j) i = upd (S 13) 25 (nI j) i
    by_cases h2 : i = 25
    · subst h2; exact pk_us.trans pk_us.symm
    · rw [pk_un h2, pk_un h2, pk_un h2]
  · by_cases h1 : r = 12
    · subst h1; rfl
    · simp [lnS, ss, sr, h, h1]
theorem lnS_0 {S : MSt} {k : Nat} (h : S 13 25 = nI k) : lnS S (S 12) k = S := by
  funext r i
  by_cases h1 : r = 13
  · subst h1
    show upd (S 13) 25 (nI k) i = S 13 i
    by_cases h2 : i = 25
    · subst h2; exact pk_us.trans h.symm
    · rw [pk_un h2]
  · by_cases h2 : r = 12
    · subst h2; rfl
    · simp [lnS, ss, sr, h1, h2]
theorem not9 (v : Int32) : ¬ nI 9 < v / nI (10 ^ 9) := by
  rw [show (10 ^ 9 : Nat) = 1000000000 from rfl, Int32.lt_iff_toInt_lt, Int32.toInt_div, nI_toInt (by omega), nI_toInt (by omega)]
  have h1 := Int32.toInt_lt v
  have h2 := Int32.le_toInt v
  have h3 : v.toInt.tdiv ((1000000000 : Nat) : Int) ≤ 2 ∧ -3 ≤ v.toInt.tdiv ((1000000000 : Nat) : Int) := by
    rw [Int.tdiv_eq_ediv]
    have hs : Int.sign ((1000000000 : Nat) : Int) = 1 := by decide
    split <;> omega
  rw [Int.bmod_eq_of_le (by omega) (by omega)]
  omega
/-- how many zeros stand behind the first digit of a number -/
def tnJ (v : Int32) : Nat → Nat → Nat
  | 0, j => j
  | d + 1, j => if nI 9 < v / nI (10 ^ j) then tnJ v d (j + 1) else j
theorem tnJ_stop {v : Int32} {d j : Nat} (h : ¬ nI 9 < v / nI (10 ^ j)) : tnJ v d j = j := by
  cases d with
  | zero => rfl
  | succ d => rw [tnJ, if_neg h]
theorem tnJ_go {v : Int32} {j : Nat} (h9 : j ≤ 9) (h : nI 9 < v / nI (10 ^ j)) : j < 9 ∧ tnJ v (9 - j) j = tnJ v (9 - (j + 1)) (j + 1) := by
  have h8 : j < 9 := by
    rcases Nat.lt_or_ge j 9 with z | z
    · exact z
    · exfalso
      have e : j = 9 := by omega
      subst e
      exact not9 v h
  refine ⟨h8, ?_⟩
  rw [show 9 - j = (9 - (j + 1)) + 1 by omega, tnJ, if_pos h]
theorem tnJ_le {v : Int32} : ∀ d j, tnJ v d j ≤ d + j
  | 0, j => by rw [tnJ]; omega
  | d + 1, j => by
    rw [tnJ]
    split
    · have := tnJ_le (v := v) d (j + 1); omega
    · omega
/-- the digits of a number written from a place of it on, into the line -/
def wlF (v : Int32) : Nat → (Nat → Int32) → Nat → (Nat → Int32) × Nat
  | 0, f, k => (f, k)
  | j + 1, f, k => wlF v j (upd f k (nI 48 + (v / nI (10 ^ j) - v / nI (10 ^ j) / nI 10 * nI 10))) (k + 1)
def whF (v : Int32) (f : Nat → Int32) (k : Nat) : (Nat → Int32) × Nat := wlF v (tnJ v 9 0 + 1) f k
theorem wlF_k {v : Int32} : ∀ (j : Nat) (f : Nat → Int32) (k : Nat), (wlF v j f k).2 = k + j
  | 0, f, k => rfl
  | j + 1, f, k => by rw [wlF, wlF_k j]; omega
theorem whF_k {v : Int32} {f : Nat → Int32} {k : Nat} : (whF v f k).2 ≤ k + 10 ∧ k < (whF v f k).2 := by
  have := tnJ_le (v := v) 9 0
  rw [whF, wlF_k]; omega
def tnV : Nat → Nat
  | 0 => 0
  | j + 1 => 10 ^ j
theorem tn_le {j : Nat} (h : j ≤ 9) : 10 ^ j ≤ 1000000000 := Nat.pow_le_pow_right (by decide) h
theorem tn_pos {j : Nat} : 0 < 10 ^ j := Nat.pow_pos (by decide)
theorem tnV_le {j : Nat} (h : j ≤ 10) : tnV j ≤ 1000000000 := by
  cases j with
  | zero => exact Nat.zero_le _
  | succ j => exact tn_le (by omega)
theorem tnV_0 {j : Nat} (h : tnV j = 0) : j = 0 := by
  cases j with
  | zero => rfl
  | succ j => have := tn_pos (j := j); rw [tnV] at h; omega
theorem tnV_d {i : Nat} (h : i ≤ 9) : nI (tnV (i + 1)) / nI 10 = nI (tnV i) := by
  have := tn_le h
  rw [tnV, pk_div (by omega) (by decide) (by decide)]
  cases i with
  | zero => rfl
  | succ i => rw [tnV, Nat.pow_succ, Nat.mul_div_cancel _ (by decide)]
theorem nI_nz {a : Nat} (h0 : 0 < a) (h : a < 2 ^ 31) : nI a ≠ 0 := by
  intro z
  have := congrArg Int32.toInt z
  rw [nI_toInt h] at this
  have e : (0 : Int32).toInt = 0 := by decide
  omega
/-- behind a tip: the branches that are done are closed; where it goes on, and the line -/
def nxF (pr : Nat → Option Nat) (n ro : Nat) : Nat → Nat → (Nat → Int32) → Nat → Option Nat × (Nat → Int32) × Nat
  | 0, _, f, k => (none, f, k)
  | d + 1, w, f, k => if w = ro then (none, f, k) else match pr w with
    | none => (none, f, k)
    | some p => match chF pr p n (n - (w + 1)) with
      | some b => (some b, upd f k (nI 44), k + 1)
      | none => nxF pr n ro d p (upd f k (nI 41)) (k + 1)
theorem nxF_root {pr : Nat → Option Nat} {n ro d k : Nat} {f : Nat → Int32} : nxF pr n ro d ro f k = (none, f, k) := by
  cases d with
  | zero => rfl
  | succ d => rw [nxF, if_pos rfl]
theorem nxF_some {pr : Nat → Option Nat} {n ro d k w p b : Nat} {f : Nat → Int32} (h : w ≠ ro) (hp : pr w = some p) (hc : chF pr p n (n - (w + 1)) = some b) : nxF pr n ro (d + 1) w f k = (some b, upd f k (nI 44), k + 1) := by
  rw [nxF, if_neg h, hp]; dsimp only; rw [hc]
theorem nxF_none {pr : Nat → Option Nat} {n ro d k w p : Nat} {f : Nat → Int32} (h : w ≠ ro) (hp : pr w = some p) (hc : chF pr p n (n - (w + 1)) = none) : nxF pr n ro (d + 1) w f k = nxF pr n ro d p (upd f k (nI 41)) (k + 1) := by
  rw [nxF, if_neg h, hp]; dsimp only; rw [hc]
theorem anc_up {pr : Nat → Option Nat} {n k r : Nat} (h : ParOk pr n) (hk : k < n) (hr : k ≠ r) (ha : anc pr r k = true) : ∃ p, pr k = some p ∧ anc pr r p = true ∧ p < k := by
  rw [anc_O h hk hr] at ha
  cases hp : pr k with
  | none => rw [hp] at ha; exact absurd ha (by simp [ancO])
  | some p => rw [hp] at ha; exact ⟨p, rfl, ha, h k p hk hp⟩
theorem gT_childFrom : GoodIn gw (wsV RX10 267 RX10 yX10_childFrom (Cond.code yX10_childFrom cX10_childFrom 5 (some .int) :: gw)) := gdV gw_2071 gw_2073 gw_64 gw_81 gw_2074
theorem hd_childFrom : yX10_childFrom.cls = RX10 ∧ yX10_childFrom.cls ≠ "java/lang/invoke/MethodHandle" ∧ yX10_childFrom.cls ≠ "java/lang/invoke/VarHandle" ∧ (parseMethodDescriptor yX10_childFrom.desc).map (fun d => d.parameters.length) = some 2 := ⟨rfl, by decide +kernel, by decide +kernel, by decide +kernel⟩
theorem dX10_childFrom_0 : decode cX10_childFrom 0 = .ok (.iconst (-1), 1) := by decide +kernel
theorem dX10_childFrom_1 : decode cX10_childFrom 1 = .ok (.istore_n 3, 1) := by decide +kernel
theorem dX10_childFrom_2 : decode cX10_childFrom 2 = .ok (.aload_n 0, 1) := by decide +kernel
theorem dX10_childFrom_3 : decode cX10_childFrom 3 = .ok (.getfield 9, 3) := by decide +kernel
theorem dX10_childFrom_6 : decode cX10_childFrom 6 = .ok (.iconst 2, 1) := by decide +kernel
theorem dX10_childFrom_7 : decode cX10_childFrom 7 = .ok (.iaload, 1) := by decide +kernel
theorem dX10_childFrom_8 : decode cX10_childFrom 8 = .ok (.iconst 1, 1) := by decide +kernel
theorem dX10_childFrom_9 : decode cX10_childFrom 9 = .ok (.isub, 1) := by decide +kernel
theorem dX10_childFrom_10 : decode cX10_childFrom 10 = .ok (.istore 4, 2) := by decide +kernel
theorem dX10_childFrom_12 : decode cX10_childFrom 12 = .ok (.iload 4, 2) := by decide +kernel
theorem dX10_childFrom_14 : decode cX10_childFrom 14 = .ok (.iload_n 1, 1) := by decide +kernel
theorem dX10_childFrom_15 : decode cX10_childFrom 15 = .ok (.if_icmp .lt 26, 3) := by decide +kernel
theorem dX10_childFrom_18 : decode cX10_childFrom 18 = .ok (.aload_n 0, 1) := by decide +kernel
theorem dX10_childFrom_19 : decode cX10_childFrom 19 = .ok (.iload 4, 2) := by decide +kernel
theorem dX10_childFrom_21 : decode cX10_childFrom 21 = .ok (.invokevirtual 75, 3) := by decide +kernel
theorem dX10_childFrom_24 : decode cX10_childFrom 24 = .ok (.iload_n 2, 1) := by decide +kernel
theorem dX10_childFrom_25 : decode cX10_childFrom 25 = .ok (.if_icmp .ne 8, 3) := by decide +kernel
theorem dX10_childFrom_28 : decode cX10_childFrom 28 = .ok (.iload 4, 2) := by decide +kernel
theorem dX10_childFrom_30 : decode cX10_childFrom 30 = .ok (.goto 4, 3) := by decide +kernel
theorem dX10_childFrom_33 : decode cX10_childFrom 33 = .ok (.iload_n 3, 1) := by decide +kernel
theorem dX10_childFrom_34 : decode cX10_childFrom 34 = .ok (.istore_n 3, 1) := by decide +kernel
theorem dX10_childFrom_35 : decode cX10_childFrom 35 = .ok (.iinc 4 (-1), 3) := by decide +kernel
theorem dX10_childFrom_38 : decode cX10_childFrom 38 = .ok (.goto (-26), 3) := by decide +kernel
theorem dX10_childFrom_41 : decode cX10_childFrom 41 = .ok (.iload_n 3, 1) := by decide +kernel
theorem dX10_childFrom_42 : decode cX10_childFrom 42 = .ok (.ireturn, 1) := by decide +kernel
set_option maxHeartbeats 1000000 in
set_option maxRecDepth 20000 in
theorem m_childFrom (l : Launch) (D : va_G) (aT : Nat → ClassId) (ad : Nat → Nat) (S : MSt) (n : Nat) (idn : Nat → Nat) (pr : Nat → Option Nat) (tn : Nat → Nat) (hF : FoR (S 0) n idn pr tn) (fr pa : Nat) (hfr : fr ≤ n) (hp12 : pa < n) : MdG l yX10_childFrom cX10_childFrom 5 .int 3 65 D aT ad [.ref (ad 0), .int (nI fr), .int (nI pa)] S (fun q => q = oi (chF pr pa n (n - fr))) := by
  refine MdI.of (by decide +kernel) rfl (Nat.le_of_ble_eq_true rfl) ?_
  intro p e s m below meth c A ls C hml hl hA hr hlocks hW
  have hl : lv_has ls 5 [(0, .ref (ad 0)), (1, .int (nI fr)), (2, .int (nI pa))] := hl
  have hx := C.1
  have hb := C.2.1
  refine lv_iconst (v := (-1)) hx hb dX10_childFrom_0 (by decide) ?_
  refine lv_istore_n (lv' := [(3, .int (-1)), (0, .ref (ad 0)), (1, .int (nI fr)), (2, .int (nI pa))]) hx hb dX10_childFrom_1 rfl hl (by decide) rfl (fun ls hl => ?_)
  refine lv_aload_n hx hb dX10_childFrom_2 rfl (lv_at hl 1 rfl) ?_
  refine md_geta_m C hW dX10_childFrom_3 ?_
  refine lv_iconst (v := nI 2) hx hb dX10_childFrom_6 (by decide) ?_
  refine md_ald_m C hW (i := 2) (by omega) dX10_childFrom_7 ?_
  refine r_eq (y := (nI n)) (hF.1) ?_
  refine lv_iconst (v := nI 1) hx hb dX10_childFrom_8 (by decide) ?_
  refine lv_isub hx hb dX10_childFrom_9 ?_
  refine r_eq (y := (nI n + -1)) ((by rw [Int32.sub_eq_add_neg]; rfl)) ?_
  refine lv_istore (lv' := [(4, .int (nI n + -1)), (3, .int (-1)), (0, .ref (ad 0)), (1, .int (nI fr)), (2, .int (nI pa))]) hx hb dX10_childFrom_10 hl (by decide) rfl (fun ls hl => ?_)
  refine W_loopH (σ := Option Nat × Nat) (fun z_ => z_.2) (fun z_ H locs g => ∃ ls, g = F0 m 12 ls [] ∧ lv_has ls 5 [(0, .ref (ad 0)), (1, .int (nI fr)), (2, .int (nI pa)), (3, .int (oi z_.1)), (4, .int (nI z_.2 + -1))] ∧ MdB D aT ad S A s.heap H locs ∧ (z_.1 = chF pr pa n (n - z_.2) ∧ fr ≤ z_.2 ∧ z_.2 ≤ n)) ?_ (none, n) _ ⟨_, rfl, lv_sub hl [2, 3, 4, 1, 0] rfl, hW, ⟨by rw [Nat.sub_self]; rfl, hfr, Nat.le_refl _⟩⟩
  clear hW hl
  rintro ⟨o, x⟩ H locs g ⟨ls, rfl, hl, hW, hi, hfx, hxn⟩ ih_12
  dsimp only at hl hW hi hfx hxn ⊢
  refine lv_iload hx hb dX10_childFrom_12 (lv_at hl 4 rfl) ?_
  refine lv_iload_n hx hb dX10_childFrom_14 rfl (lv_at hl 1 rfl) ?_
  refine lv_icmp_lt hx hb (x := (nI x + -1)) (y := (nI fr)) (tgt := 41) dX10_childFrom_15 (by decide) (fun c_15 => ?_) (fun c_15 => ?_)
  · have hxf := pd_le (by have := hF.2.1; omega) (by have := hF.2.1; omega) c_15
    refine lv_iload_n hx hb dX10_childFrom_41 rfl (lv_at hl 3 rfl) ?_
    exact md_iret C hr hlocks rfl hW (⟨by rw [hi, show x = fr by omega], rfl⟩) dX10_childFrom_42
  · have hxf := pd_gt (by have := hF.2.1; omega) (by have := hF.2.1; omega) c_15
    have hl : lv_has ls 5 [(0, .ref (ad 0)), (1, .int (nI fr)), (2, .int (nI pa)), (3, .int (oi o)), (4, .int (nI (x - 1)))] := by rw [pd_eq (by omega)] at hl; exact hl
    refine lv_aload_n hx hb dX10_childFrom_18 rfl (lv_at hl 0 rfl) ?_
    refine lv_iload hx hb dX10_childFrom_19 (lv_at hl 4 rfl) ?_
    refine md_callg C hml hl.1 (As := [.int (nI (x - 1))]) (rest := []) (m_above l D aT ad S n idn pr tn hF (x - 1) (by omega)) gT_above hd_above rfl ⟨Nat.le_of_ble_eq_true rfl, Nat.le_of_ble_eq_true rfl⟩ ⟨Nat.le_refl _, Nat.le_refl _⟩ hW hA rfl (Nat.le_of_ble_eq_true rfl) dX10_childFrom_21 (fun r_21 H locs hq hW => ?_)
    subst hq
    refine lv_iload_n hx hb dX10_childFrom_24 rfl (lv_at hl 2 rfl) ?_
    refine r_on_ne hx hb (o := (pr (x - 1))) (q := pa) (hF.plim (by omega)) (by have := hF.2.1; omega) (tgt := 33) dX10_childFrom_25 (by decide) (fun c_25 => ?_) (fun c_25 => ?_)
    · refine lv_iload_n hx hb dX10_childFrom_33 rfl (lv_at hl 3 rfl) ?_
      refine lv_istore_n (lv' := [(3, .int (oi o)), (0, .ref (ad 0)), (1, .int (nI fr)), (2, .int (nI pa)), (4, .int (nI (x - 1)))]) hx hb dX10_childFrom_34 rfl hl (by decide) rfl (fun ls hl => ?_)
      refine lv_iinc (v := ((nI (x - 1)) + -1)) (lv' := [(4, .int ((nI (x - 1)) + -1)), (3, .int (oi o)), (0, .ref (ad 0)), (1, .int (nI fr)), (2, .int (nI pa))]) hx hb dX10_childFrom_35 hl (k := 4) rfl rfl (by decide) rfl (fun ls hl => ?_)
      refine lv_goto (tgt := 12) hx hb dX10_childFrom_38 (by decide) ?_
      exact ih_12 (o, (x - 1)) _ _ _ (by dsimp only; omega) ⟨_, rfl, lv_sub hl [2, 3, 4, 1, 0] rfl, hW, ⟨by rw [show n - (x - 1) = n - x + 1 by omega, chF, show n - (n - x + 1) = x - 1 by omega, if_neg c_25]; exact hi, by omega, by omega⟩⟩
    · refine lv_iload hx hb dX10_childFrom_28 (lv_at hl 4 rfl) ?_
      refine lv_goto (tgt := 34) hx hb dX10_childFrom_30 (by decide) ?_
      refine lv_istore_n (lv' := [(3, .int (nI (x - 1))), (0, .ref (ad 0)), (1, .int (nI fr)), (2, .int (nI pa)), (4, .int (nI (x - 1)))]) hx hb dX10_childFrom_34 rfl hl (by decide) rfl (fun ls hl => ?_)
      refine lv_iinc (v := ((nI (x - 1)) + -1)) (lv' := [(4, .int ((nI (x - 1)) + -1)), (3, .int (nI (x - 1))), (0, .ref (ad 0)), (1, .int (nI fr)), (2, .int (nI pa))]) hx hb dX10_childFrom_35 hl (k := 4) rfl rfl (by decide) rfl (fun ls hl => ?_)
      refine lv_goto (tgt := 12) hx hb dX10_childFrom_38 (by decide) ?_
      exact ih_12 ((some (x - 1)), (x - 1)) _ _ _ (by dsimp only; omega) ⟨_, rfl, lv_sub hl [2, 3, 4, 1, 0] rfl, hW, ⟨by rw [show n - (x - 1) = n - x + 1 by omega, chF, show n - (n - x + 1) = x - 1 by omega, if_pos c_25], by omega, by omega⟩⟩
theorem gT_sign : GoodIn gw (wsV RX10 261 RX10 yX10_sign (Cond.code yX10_sign cX10_sign 2 (none) :: gw)) := gdV gw_2067 gw_2069 gw_63 gw_81 gw_2070
theorem hd_sign : yX10_sign.cls = RX10 ∧ yX10_sign.cls ≠ "java/lang/invoke/MethodHandle" ∧ yX10_sign.cls ≠ "java/lang/invoke/VarHandle" ∧ (parseMethodDescriptor yX10_sign.desc).map (fun d => d.parameters.length) = some 1 := ⟨rfl, by decide +kernel, by decide +kernel, by decide +kernel⟩
theorem dX10_sign_0 : decode cX10_sign 0 = .ok (.aload_n 0, 1) := by decide +kernel
theorem dX10_sign_1 : decode cX10_sign 1 = .ok (.getfield 54, 3) := by decide +kernel
theorem dX10_sign_4 : decode cX10_sign 4 = .ok (.aload_n 0, 1) := by decide +kernel
theorem dX10_sign_5 : decode cX10_sign 5 = .ok (.getfield 258, 3) := by decide +kernel
theorem dX10_sign_8 : decode cX10_sign 8 = .ok (.iload_n 1, 1) := by decide +kernel
theorem dX10_sign_9 : decode cX10_sign 9 = .ok (.iastore, 1) := by decide +kernel
theorem dX10_sign_10 : decode cX10_sign 10 = .ok (.aload_n 0, 1) := by decide +kernel
theorem dX10_sign_11 : decode cX10_sign 11 = .ok (.dup, 1) := by decide +kernel
theorem dX10_sign_12 : decode cX10_sign 12 = .ok (.getfield 258, 3) := by decide +kernel
theorem dX10_sign_15 : decode cX10_sign 15 = .ok (.iconst 1, 1) := by decide +kernel
theorem dX10_sign_16 : decode cX10_sign 16 = .ok (.iadd, 1) := by decide +kernel
theorem dX10_sign_17 : decode cX10_sign 17 = .ok (.putfield 258, 3) := by decide +kernel
theorem dX10_sign_20 : decode cX10_sign 20 = .ok (.return_, 1) := by decide +kernel
set_option maxHeartbeats 1000000 in
set_option maxRecDepth 20000 in
theorem m_sign (l : Launch) (D : va_G) (aT : Nat → ClassId) (ad : Nat → Nat) (S : MSt) (f : Nat → Int32) (k : Nat) (hk4 : k < 400) (c0 : Int32) : MdV l yX10_sign cX10_sign 2 0 0 D aT ad [.ref (ad 0), .int c0] (lnS S f k) (fun S1 => S1 = lnS S (upd f k c0) (k + 1)) := by
  refine MdV.of (by decide +kernel) rfl (Nat.le_of_ble_eq_true rfl) ?_
  intro p e s m below meth c A ls C hml hl hA hr hlocks hW
  have hl : lv_has ls 2 [(0, .ref (ad 0)), (1, .int c0)] := hl
  have hx := C.1
  have hb := C.2.1
  refine lv_aload_n hx hb dX10_sign_0 rfl (lv_at hl 0 rfl) ?_
  refine md_geta_line C hW dX10_sign_1 ?_
  refine lv_aload_n hx hb dX10_sign_4 rfl (lv_at hl 0 rfl) ?_
  refine md_get_lineMany C hW dX10_sign_5 ?_
  refine r_eq (y := (nI k)) (rfl) ?_
  refine lv_iload_n hx hb dX10_sign_8 rfl (lv_at hl 1 rfl) ?_
  refine md_ast_line C hW (i := k) (by omega) dX10_sign_9 (fun H locs hW => ?_)
  have hW : MdB D aT ad (sr (lnS S f k) 12 (upd ((lnS S f k) 12) k (c0))) A s.heap H locs := hW
  refine lv_aload_n hx hb dX10_sign_10 rfl (lv_at hl 0 rfl) ?_
  refine lv_dup hx hb dX10_sign_11 rfl ?_
  refine md_get_lineMany C hW dX10_sign_12 ?_
  refine r_eq (y := (nI k)) (rfl) ?_
  refine lv_iconst (v := nI 1) hx hb dX10_sign_15 (by decide) ?_
  refine r_iaddN hx hb (a := k) (b := 1) dX10_sign_16 ?_
  refine md_put_lineMany C hW dX10_sign_17 (fun H locs hW => ?_)
  have hW : MdB D aT ad (lnS S (upd f k c0) (k + 1)) A s.heap H locs := (congrArg (fun T1 => MdB D aT ad T1 A s.heap H locs) (lnS_i (S := S) (f := f) (g := upd f k c0) (k := k) (j := k + 1))).mp hW
  exact md_vret C hr hlocks hW (rfl) dX10_sign_20
theorem gT_writesWhole : GoodIn gw (wsV RX10 264 RX10 yX10_writesWhole (Cond.code yX10_writesWhole cX10_writesWhole 3 (none) :: gw)) := gdV gw_2063 gw_2065 gw_62 gw_81 gw_2066
theorem hd_writesWhole : yX10_writesWhole.cls = RX10 ∧ yX10_writesWhole.cls ≠ "java/lang/invoke/MethodHandle" ∧ yX10_writesWhole.cls ≠ "java/lang/invoke/VarHandle" ∧ (parseMethodDescriptor yX10_writesWhole.desc).map (fun d => d.parameters.length) = some 1 := ⟨rfl, by decide +kernel, by decide +kernel, by decide +kernel⟩
theorem dX10_writesWhole_0 : decode cX10_writesWhole 0 = .ok (.iconst 1, 1) := by decide +kernel
theorem dX10_writesWhole_1 : decode cX10_writesWhole 1 = .ok (.istore_n 2, 1) := by decide +kernel
theorem dX10_writesWhole_2 : decode cX10_writesWhole 2 = .ok (.iload_n 1, 1) := by decide +kernel
theorem dX10_writesWhole_3 : decode cX10_writesWhole 3 = .ok (.iload_n 2, 1) := by decide +kernel
theorem dX10_writesWhole_4 : decode cX10_writesWhole 4 = .ok (.idiv, 1) := by decide +kernel
theorem dX10_writesWhole_5 : decode cX10_writesWhole 5 = .ok (.bipush 9, 2) := by decide +kernel
theorem dX10_writesWhole_7 : decode cX10_writesWhole 7 = .ok (.if_icmp .le 11, 3) := by decide +kernel
theorem dX10_writesWhole_10 : decode cX10_writesWhole 10 = .ok (.iload_n 2, 1) := by decide +kernel
theorem dX10_writesWhole_11 : decode cX10_writesWhole 11 = .ok (.bipush 10, 2) := by decide +kernel
theorem dX10_writesWhole_13 : decode cX10_writesWhole 13 = .ok (.imul, 1) := by decide +kernel
theorem dX10_writesWhole_14 : decode cX10_writesWhole 14 = .ok (.istore_n 2, 1) := by decide +kernel
theorem dX10_writesWhole_15 : decode cX10_writesWhole 15 = .ok (.goto (-13), 3) := by decide +kernel
theorem dX10_writesWhole_18 : decode cX10_writesWhole 18 = .ok (.iload_n 2, 1) := by decide +kernel
theorem dX10_writesWhole_19 : decode cX10_writesWhole 19 = .ok (.ifCond .le 24, 3) := by decide +kernel
theorem dX10_writesWhole_22 : decode cX10_writesWhole 22 = .ok (.aload_n 0, 1) := by decide +kernel
theorem dX10_writesWhole_23 : decode cX10_writesWhole 23 = .ok (.bipush 48, 2) := by decide +kernel
theorem dX10_writesWhole_25 : decode cX10_writesWhole 25 = .ok (.iload_n 1, 1) := by decide +kernel
theorem dX10_writesWhole_26 : decode cX10_writesWhole 26 = .ok (.iload_n 2, 1) := by decide +kernel
theorem dX10_writesWhole_27 : decode cX10_writesWhole 27 = .ok (.idiv, 1) := by decide +kernel
theorem dX10_writesWhole_28 : decode cX10_writesWhole 28 = .ok (.bipush 10, 2) := by decide +kernel
theorem dX10_writesWhole_30 : decode cX10_writesWhole 30 = .ok (.irem, 1) := by decide +kernel
theorem dX10_writesWhole_31 : decode cX10_writesWhole 31 = .ok (.iadd, 1) := by decide +kernel
theorem dX10_writesWhole_32 : decode cX10_writesWhole 32 = .ok (.invokevirtual 261, 3) := by decide +kernel
theorem dX10_writesWhole_35 : decode cX10_writesWhole 35 = .ok (.iload_n 2, 1) := by decide +kernel
theorem dX10_writesWhole_36 : decode cX10_writesWhole 36 = .ok (.bipush 10, 2) := by decide +kernel
theorem dX10_writesWhole_38 : decode cX10_writesWhole 38 = .ok (.idiv, 1) := by decide +kernel
theorem dX10_writesWhole_39 : decode cX10_writesWhole 39 = .ok (.istore_n 2, 1) := by decide +kernel
theorem dX10_writesWhole_40 : decode cX10_writesWhole 40 = .ok (.goto (-22), 3) := by decide +kernel
theorem dX10_writesWhole_43 : decode cX10_writesWhole 43 = .ok (.return_, 1) := by decide +kernel
set_option maxHeartbeats 1000000 in
set_option maxRecDepth 20000 in
theorem m_writesWhole (l : Launch) (D : va_G) (aT : Nat → ClassId) (ad : Nat → Nat) (S : MSt) (f0 : Nat → Int32) (k0 : Nat) (hk4 : k0 + 10 ≤ 400) (v : Int32) : MdV l yX10_writesWhole cX10_writesWhole 3 1 21 D aT ad [.ref (ad 0), .int v] (lnS S f0 k0) (fun S1 => S1 = lnS S (whF v f0 k0).1 (whF v f0 k0).2) := by
  refine MdV.of (by decide +kernel) rfl (Nat.le_of_ble_eq_true rfl) ?_
  intro p e s m below meth c A ls C hml hl hA hr hlocks hW
  have hl : lv_has ls 3 [(0, .ref (ad 0)), (1, .int v)] := hl
  have hx := C.1
  have hb := C.2.1
  refine lv_iconst (v := nI 1) hx hb dX10_writesWhole_0 (by decide) ?_
  refine lv_istore_n (lv' := [(2, .int (nI 1)), (0, .ref (ad 0)), (1, .int v)]) hx hb dX10_writesWhole_1 rfl hl (by decide) rfl (fun ls hl => ?_)
  refine W_loopH (σ := Nat) (fun z_ => 9 - z_) (fun z_ H locs g => ∃ ls, g = F0 m 2 ls [] ∧ lv_has ls 3 [(0, .ref (ad 0)), (1, .int v), (2, .int (nI (10 ^ z_)))] ∧ MdB D aT ad (lnS S f0 k0) A s.heap H locs ∧ (tnJ v (9 - z_) z_ = tnJ v 9 0 ∧ z_ ≤ 9)) ?_ 0 _ ⟨_, rfl, lv_sub hl [1, 2, 0] rfl, hW, ⟨rfl, Nat.zero_le _⟩⟩
  clear hW hl
  rintro j H locs g ⟨ls, rfl, hl, hW, hi, hj⟩ ih_2
  refine lv_iload_n hx hb dX10_writesWhole_2 rfl (lv_at hl 1 rfl) ?_
  refine lv_iload_n hx hb dX10_writesWhole_3 rfl (lv_at hl 2 rfl) ?_
  refine lv_idiv hx hb dX10_writesWhole_4 (nI_nz tn_pos (by have := tn_le hj; omega)) ?_
  refine lv_bipush (v := nI 9) hx hb dX10_writesWhole_5 (by decide) ?_
  refine lv_icmp_le hx hb (x := (v / (nI (10 ^ j)))) (y := (nI 9)) (tgt := 18) dX10_writesWhole_7 (by decide) (fun c_7 => ?_) (fun c_7 => ?_)
  · refine W_loopH (σ := Nat × (Nat → Int32) × Nat) (fun z_ => z_.1) (fun z_ H locs g => ∃ ls, g = F0 m 18 ls [] ∧ lv_has ls 3 [(0, .ref (ad 0)), (1, .int v), (2, .int (nI (tnV z_.1)))] ∧ MdB D aT ad (lnS S z_.2.1 z_.2.2) A s.heap H locs ∧ (wlF v z_.1 z_.2.1 z_.2.2 = whF v f0 k0 ∧ z_.2.2 + z_.1 ≤ 400 ∧ z_.1 ≤ 10)) ?_ ((j + 1), f0, k0) _ ⟨_, rfl, lv_sub hl [0, 1, 2] rfl, hW, ⟨by rw [whF, ← hi, tnJ_stop (Int32.not_lt.mpr c_7)], by dsimp only; omega, by dsimp only; omega⟩⟩
    clear hW hl
    rintro ⟨jj, f, k⟩ H locs g ⟨ls, rfl, hl, hW, hw, hk, hjj⟩ ih_18
    dsimp only at hl hW hw hk hjj ⊢
    refine lv_iload_n hx hb dX10_writesWhole_18 rfl (lv_at hl 2 rfl) ?_
    refine r_ifleN hx hb (a := (tnV jj)) (by have := tnV_le hjj; omega) (tgt := 43) dX10_writesWhole_19 (by decide) (fun c_19 => ?_) (fun c_19 => ?_)
    · have hj0 := tnV_0 c_19
      subst hj0
      exact md_vret C hr hlocks hW (by rw [← hw]; rfl) dX10_writesWhole_43
    · obtain ⟨i, rfl⟩ : ∃ i, jj = i + 1 := ⟨jj - 1, by rcases Nat.eq_zero_or_pos jj with z | z; subst z; exact absurd c_19 (by decide); omega⟩
      refine lv_aload_n hx hb dX10_writesWhole_22 rfl (lv_at hl 0 rfl) ?_
      refine lv_bipush (v := nI 48) hx hb dX10_writesWhole_23 (by decide) ?_
      refine lv_iload_n hx hb dX10_writesWhole_25 rfl (lv_at hl 1 rfl) ?_
      refine lv_iload_n hx hb dX10_writesWhole_26 rfl (lv_at hl 2 rfl) ?_
      refine lv_idiv hx hb dX10_writesWhole_27 (nI_nz tn_pos (by have := tn_le (j := i) (by omega); rw [tnV]; omega)) ?_
      refine lv_bipush (v := nI 10) hx hb dX10_writesWhole_28 (by decide) ?_
      refine lv_irem hx hb dX10_writesWhole_30 (by decide) ?_
      refine lv_iadd hx hb dX10_writesWhole_31 ?_
      refine md_callv C hml hl.1 (As := [.int ((nI 48) + ((v / (nI (tnV (i + 1)))) - (v / (nI (tnV (i + 1)))) / (nI 10) * (nI 10)))]) (rest := []) (m_sign l D aT ad S f k (by omega) ((nI 48) + ((v / (nI (tnV (i + 1)))) - (v / (nI (tnV (i + 1)))) / (nI 10) * (nI 10)))) gT_sign hd_sign rfl ⟨Nat.le_of_ble_eq_true rfl, Nat.le_of_ble_eq_true rfl⟩ ⟨Nat.le_refl _, Nat.le_refl _⟩ hW hA rfl (Nat.le_of_ble_eq_true rfl) dX10_writesWhole_32 (fun S_32 H locs hq hW => ?_)
      subst hq
      refine lv_iload_n hx hb dX10_writesWhole_35 rfl (lv_at hl 2 rfl) ?_
      refine lv_bipush (v := nI 10) hx hb dX10_writesWhole_36 (by decide) ?_
      refine lv_idiv hx hb dX10_writesWhole_38 (by decide) ?_
      refine r_eq (y := (nI (tnV i))) (tnV_d (by omega)) ?_
      refine lv_istore_n (lv' := [(2, .int (nI (tnV i))), (0, .ref (ad 0)), (1, .int v)]) hx hb dX10_writesWhole_39 rfl hl (by decide) rfl (fun ls hl => ?_)
      refine lv_goto (tgt := 18) hx hb dX10_writesWhole_40 (by decide) ?_
      exact ih_18 (i, (upd f k ((nI 48) + ((v / (nI (tnV (i + 1)))) - (v / (nI (tnV (i + 1)))) / (nI 10) * (nI 10)))), (k + 1)) _ _ _ (by dsimp only; omega) ⟨_, rfl, lv_sub hl [1, 2, 0] rfl, hW, ⟨by rw [← hw, wlF]; rfl, by dsimp only; omega, by dsimp only; omega⟩⟩
  · refine lv_iload_n hx hb dX10_writesWhole_10 rfl (lv_at hl 2 rfl) ?_
    refine lv_bipush (v := nI 10) hx hb dX10_writesWhole_11 (by decide) ?_
    refine r_imulN hx hb (a := 10 ^ j) (b := 10) dX10_writesWhole_13 ?_
    refine lv_istore_n (lv' := [(2, .int (nI ((10 ^ j) * 10))), (0, .ref (ad 0)), (1, .int v)]) hx hb dX10_writesWhole_14 rfl hl (by decide) rfl (fun ls hl => ?_)
    refine lv_goto (tgt := 2) hx hb dX10_writesWhole_15 (by decide) ?_
    exact ih_2 (j + 1) _ _ _ (by have := (tnJ_go hj (Int32.not_le.mp c_7)).1; omega) ⟨_, rfl, lv_sub hl [1, 2, 0] rfl, hW, ⟨by rw [← (tnJ_go hj (Int32.not_le.mp c_7)).2]; exact hi, by have := (tnJ_go hj (Int32.not_le.mp c_7)).1; omega⟩⟩
theorem gT_next : GoodIn gw (wsV RX10 270 RX10 yX10_next (Cond.code yX10_next cX10_next 5 (some .int) :: gw)) := gdV gw_2075 gw_2077 gw_65 gw_81 gw_2078
theorem hd_next : yX10_next.cls = RX10 ∧ yX10_next.cls ≠ "java/lang/invoke/MethodHandle" ∧ yX10_next.cls ≠ "java/lang/invoke/VarHandle" ∧ (parseMethodDescriptor yX10_next.desc).map (fun d => d.parameters.length) = some 2 := ⟨rfl, by decide +kernel, by decide +kernel, by decide +kernel⟩
theorem dX10_next_0 : decode cX10_next 0 = .ok (.iload_n 1, 1) := by decide +kernel
theorem dX10_next_1 : decode cX10_next 1 = .ok (.istore_n 3, 1) := by decide +kernel
theorem dX10_next_2 : decode cX10_next 2 = .ok (.iload_n 3, 1) := by decide +kernel
theorem dX10_next_3 : decode cX10_next 3 = .ok (.iload_n 2, 1) := by decide +kernel
theorem dX10_next_4 : decode cX10_next 4 = .ok (.if_icmp .eq 47, 3) := by decide +kernel
theorem dX10_next_7 : decode cX10_next 7 = .ok (.aload_n 0, 1) := by decide +kernel
theorem dX10_next_8 : decode cX10_next 8 = .ok (.iload_n 3, 1) := by decide +kernel
theorem dX10_next_9 : decode cX10_next 9 = .ok (.iconst 1, 1) := by decide +kernel
theorem dX10_next_10 : decode cX10_next 10 = .ok (.iadd, 1) := by decide +kernel
theorem dX10_next_11 : decode cX10_next 11 = .ok (.aload_n 0, 1) := by decide +kernel
theorem dX10_next_12 : decode cX10_next 12 = .ok (.iload_n 3, 1) := by decide +kernel
theorem dX10_next_13 : decode cX10_next 13 = .ok (.invokevirtual 75, 3) := by decide +kernel
theorem dX10_next_16 : decode cX10_next 16 = .ok (.invokevirtual 267, 3) := by decide +kernel
theorem dX10_next_19 : decode cX10_next 19 = .ok (.istore 4, 2) := by decide +kernel
theorem dX10_next_21 : decode cX10_next 21 = .ok (.iload 4, 2) := by decide +kernel
theorem dX10_next_23 : decode cX10_next 23 = .ok (.iconst (-1), 1) := by decide +kernel
theorem dX10_next_24 : decode cX10_next 24 = .ok (.if_icmp .eq 12, 3) := by decide +kernel
theorem dX10_next_27 : decode cX10_next 27 = .ok (.aload_n 0, 1) := by decide +kernel
theorem dX10_next_28 : decode cX10_next 28 = .ok (.bipush 44, 2) := by decide +kernel
theorem dX10_next_30 : decode cX10_next 30 = .ok (.invokevirtual 261, 3) := by decide +kernel
theorem dX10_next_33 : decode cX10_next 33 = .ok (.iload 4, 2) := by decide +kernel
theorem dX10_next_35 : decode cX10_next 35 = .ok (.ireturn, 1) := by decide +kernel
theorem dX10_next_36 : decode cX10_next 36 = .ok (.aload_n 0, 1) := by decide +kernel
theorem dX10_next_37 : decode cX10_next 37 = .ok (.bipush 41, 2) := by decide +kernel
theorem dX10_next_39 : decode cX10_next 39 = .ok (.invokevirtual 261, 3) := by decide +kernel
theorem dX10_next_42 : decode cX10_next 42 = .ok (.aload_n 0, 1) := by decide +kernel
theorem dX10_next_43 : decode cX10_next 43 = .ok (.iload_n 3, 1) := by decide +kernel
theorem dX10_next_44 : decode cX10_next 44 = .ok (.invokevirtual 75, 3) := by decide +kernel
theorem dX10_next_47 : decode cX10_next 47 = .ok (.istore_n 3, 1) := by decide +kernel
theorem dX10_next_48 : decode cX10_next 48 = .ok (.goto (-46), 3) := by decide +kernel
theorem dX10_next_51 : decode cX10_next 51 = .ok (.iconst (-1), 1) := by decide +kernel
theorem dX10_next_52 : decode cX10_next 52 = .ok (.ireturn, 1) := by decide +kernel
set_option maxHeartbeats 1000000 in
set_option maxRecDepth 20000 in
theorem m_next (l : Launch) (D : va_G) (aT : Nat → ClassId) (ad : Nat → Nat) (S : MSt) (n : Nat) (idn : Nat → Nat) (pr : Nat → Option Nat) (tn : Nat → Nat) (hF : FoR (S 0) n idn pr tn) (t ro : Nat) (htn12 : t < n) (hro12 : ro < n) (hanc0 : anc pr ro t = true) (f0 : Nat → Int32) (k0 : Nat) (hk4 : k0 + n ≤ 400) : MdI l yX10_next cX10_next 5 .int 4 89 D aT ad [.ref (ad 0), .int (nI t), .int (nI ro)] (lnS S f0 k0) (fun r S1 => r = oi (nxF pr n ro n t f0 k0).1 ∧ S1 = lnS S (nxF pr n ro n t f0 k0).2.1 (nxF pr n ro n t f0 k0).2.2) := by
  refine MdI.of (by decide +kernel) rfl (Nat.le_of_ble_eq_true rfl) ?_
  intro p e s m below meth c A ls C hml hl hA hr hlocks hW
  have hl : lv_has ls 5 [(0, .ref (ad 0)), (1, .int (nI t)), (2, .int (nI ro))] := hl
  have hx := C.1
  have hb := C.2.1
  refine lv_iload_n hx hb dX10_next_0 rfl (lv_at hl 1 rfl) ?_
  refine lv_istore_n (lv' := [(3, .int (nI t)), (0, .ref (ad 0)), (1, .int (nI t)), (2, .int (nI ro))]) hx hb dX10_next_1 rfl hl (by decide) rfl (fun ls hl => ?_)
  refine W_loopH (σ := Nat × (Nat → Int32) × Nat × Nat) (fun z_ => z_.1) (fun z_ H locs g => ∃ ls, g = F0 m 2 ls [] ∧ lv_has ls 5 [(0, .ref (ad 0)), (1, .int (nI t)), (2, .int (nI ro)), (3, .int (nI z_.1))] ∧ MdB D aT ad (lnS S z_.2.1 z_.2.2.1) A s.heap H locs ∧ (nxF pr n ro z_.2.2.2 z_.1 z_.2.1 z_.2.2.1 = (nxF pr n ro n t f0 k0) ∧ anc pr ro z_.1 = true ∧ z_.1 < n ∧ z_.1 < z_.2.2.2 ∧ z_.2.2.1 + z_.1 < 400)) ?_ (t, f0, k0, n) _ ⟨_, rfl, lv_sub hl [1, 2, 3, 0] rfl, hW, ⟨rfl, hanc0, htn12, htn12, by dsimp only; omega⟩⟩
  clear hW hl
  rintro ⟨w, f, k, d⟩ H locs g ⟨ls, rfl, hl, hW, hR, hanc, hwn, hwd, hk⟩ ih_2
  dsimp only at hl hW hR hanc hwn hwd hk ⊢
  refine lv_iload_n hx hb dX10_next_2 rfl (lv_at hl 3 rfl) ?_
  refine lv_iload_n hx hb dX10_next_3 rfl (lv_at hl 2 rfl) ?_
  refine r_eqN hx hb (a := w) (b := ro) (by have := hF.2.1; omega) (by have := hF.2.1; omega) (tgt := 51) dX10_next_4 (by decide) (fun c_4 => ?_) (fun c_4 => ?_)
  · refine lv_iconst (v := (-1)) hx hb dX10_next_51 (by decide) ?_
    exact md_iret C hr hlocks rfl hW (by subst c_4; rw [← hR, nxF_root]; exact ⟨rfl, rfl⟩) dX10_next_52
  · obtain ⟨pa, hpa, hpanc, hpw⟩ := anc_up hF.ok hwn c_4 hanc
    have hn12 := hF.2.1
    refine lv_aload_n hx hb dX10_next_7 rfl (lv_at hl 0 rfl) ?_
    refine lv_iload_n hx hb dX10_next_8 rfl (lv_at hl 3 rfl) ?_
    refine lv_iconst (v := nI 1) hx hb dX10_next_9 (by decide) ?_
    refine r_iaddN hx hb (a := w) (b := 1) dX10_next_10 ?_
    refine lv_aload_n hx hb dX10_next_11 rfl (lv_at hl 0 rfl) ?_
    refine lv_iload_n hx hb dX10_next_12 rfl (lv_at hl 3 rfl) ?_
    refine md_callg C hml hl.1 (As := [.int (nI w)]) (rest := [.int (nI (w + 1)), .ref (ad 0)]) (m_above l D aT ad (lnS S f k) n idn pr tn hF w (by omega)) gT_above hd_above rfl ⟨Nat.le_of_ble_eq_true rfl, Nat.le_of_ble_eq_true rfl⟩ ⟨Nat.le_refl _, Nat.le_refl _⟩ hW hA rfl (Nat.le_of_ble_eq_true rfl) dX10_next_13 (fun r_13 H locs hq hW => ?_)
    have hq := hq.trans (congrArg oi hpa)
    subst hq
    refine md_callg C hml hl.1 (As := [.int (nI (w + 1)), .int (nI pa)]) (rest := []) (m_childFrom l D aT ad (lnS S f k) n idn pr tn hF (w + 1) pa (by omega) (by omega)) gT_childFrom hd_childFrom rfl ⟨Nat.le_of_ble_eq_true rfl, Nat.le_of_ble_eq_true rfl⟩ ⟨Nat.le_refl _, Nat.le_refl _⟩ hW hA rfl (Nat.le_of_ble_eq_true rfl) dX10_next_16 (fun r_16 H locs hq hW => ?_)
    subst hq
    refine lv_istore (lv' := [(4, .int (oi (chF pr pa n (n - (w + 1))))), (0, .ref (ad 0)), (1, .int (nI t)), (2, .int (nI ro)), (3, .int (nI w))]) hx hb dX10_next_19 hl (by decide) rfl (fun ls hl => ?_)
    refine lv_iload hx hb dX10_next_21 (lv_at hl 0 rfl) ?_
    refine lv_iconst (v := (-1)) hx hb dX10_next_23 (by decide) ?_
    refine r_oi_eq hx hb (o := (chF pr pa n (n - (w + 1)))) (by intro q hq; have := chF_lt (by omega) hq; omega) (tgt := 36) dX10_next_24 (by decide) (fun c_24 => ?_) (fun j_24 c_24 => ?_)
    · have hl : lv_has ls 5 [(4, .int (-1)), (0, .ref (ad 0)), (1, .int (nI t)), (2, .int (nI ro)), (3, .int (nI w))] := by rw [c_24] at hl; exact hl
      refine lv_aload_n hx hb dX10_next_36 rfl (lv_at hl 1 rfl) ?_
      refine lv_bipush (v := nI 41) hx hb dX10_next_37 (by decide) ?_
      refine md_callv C hml hl.1 (As := [.int (nI 41)]) (rest := []) (m_sign l D aT ad S f k (by omega) (nI 41)) gT_sign hd_sign rfl ⟨Nat.le_of_ble_eq_true rfl, Nat.le_of_ble_eq_true rfl⟩ ⟨Nat.le_refl _, Nat.le_refl _⟩ hW hA rfl (Nat.le_of_ble_eq_true rfl) dX10_next_39 (fun S_39 H locs hq hW => ?_)
      subst hq
      refine lv_aload_n hx hb dX10_next_42 rfl (lv_at hl 1 rfl) ?_
      refine lv_iload_n hx hb dX10_next_43 rfl (lv_at hl 4 rfl) ?_
      refine md_callg C hml hl.1 (As := [.int (nI w)]) (rest := []) (m_above l D aT ad (lnS S (upd f k (nI 41)) (k + 1)) n idn pr tn hF w (by omega)) gT_above hd_above rfl ⟨Nat.le_of_ble_eq_true rfl, Nat.le_of_ble_eq_true rfl⟩ ⟨Nat.le_refl _, Nat.le_refl _⟩ hW hA rfl (Nat.le_of_ble_eq_true rfl) dX10_next_44 (fun r_44 H locs hq hW => ?_)
      have hq := hq.trans (congrArg oi hpa)
      subst hq
      refine lv_istore_n (lv' := [(3, .int (nI pa)), (4, .int (-1)), (0, .ref (ad 0)), (1, .int (nI t)), (2, .int (nI ro))]) hx hb dX10_next_47 rfl hl (by decide) rfl (fun ls hl => ?_)
      refine lv_goto (tgt := 2) hx hb dX10_next_48 (by decide) ?_
      exact ih_2 (pa, (upd f k (nI 41)), (k + 1), (d - 1)) _ _ _ (by dsimp only; omega) ⟨_, rfl, lv_sub hl [2, 3, 4, 0] rfl, hW, ⟨by rw [← hR, show d = d - 1 + 1 by omega, nxF_none c_4 hpa c_24]; rfl, hpanc, by dsimp only; omega, by dsimp only; omega, by dsimp only; omega⟩⟩
    · have hl : lv_has ls 5 [(4, .int (nI j_24)), (0, .ref (ad 0)), (1, .int (nI t)), (2, .int (nI ro)), (3, .int (nI w))] := by rw [c_24] at hl; exact hl
      refine lv_aload_n hx hb dX10_next_27 rfl (lv_at hl 1 rfl) ?_
      refine lv_bipush (v := nI 44) hx hb dX10_next_28 (by decide) ?_
      refine md_callv C hml hl.1 (As := [.int (nI 44)]) (rest := []) (m_sign l D aT ad S f k (by omega) (nI 44)) gT_sign hd_sign rfl ⟨Nat.le_of_ble_eq_true rfl, Nat.le_of_ble_eq_true rfl⟩ ⟨Nat.le_refl _, Nat.le_refl _⟩ hW hA rfl (Nat.le_of_ble_eq_true rfl) dX10_next_30 (fun S_30 H locs hq hW => ?_)
      subst hq
      refine lv_iload hx hb dX10_next_33 (lv_at hl 0 rfl) ?_
      exact md_iret C hr hlocks rfl hW (by rw [← hR, show d = d - 1 + 1 by omega, nxF_some c_4 hpa c_24]; exact ⟨rfl, rfl⟩) dX10_next_35
