/-- the sign at a place of the text, -1 behind its end -/
def hrF (f : Nat → Int32) (sz p : Nat) : Int32 := if p < sz then f p else -1
def isD (x : Int32) : Bool := rgB 48 57 x
/-- place and wrongness behind a sign that is due -/
def expP (f : Nat → Int32) (sz : Nat) (c : Int32) (s : Nat × Bool) : Nat × Bool := if s.2 = false ∧ hrF f sz s.1 = c then (s.1 + 1, false) else (s.1, true)
/-- a digit: its value, place and wrongness behind it -/
def digP (f : Nat → Int32) (sz : Nat) (s : Nat × Bool) : Int32 × Nat × Bool := if s.2 = false ∧ isD (hrF f sz s.1) = true then (hrF f sz s.1 - nI 48, s.1 + 1, false) else (nI 0, s.1, true)
def numP (f : Nat → Int32) (sz : Nat) (s : Nat × Bool) : Int32 × Nat × Bool := if (digP f sz s).2.2 = false ∧ isD (hrF f sz (digP f sz s).2.1) = true then (nI 10 * (digP f sz s).1 + (digP f sz (digP f sz s).2).1, (digP f sz (digP f sz s).2).2) else digP f sz s
/-- the state while a text is read: place, wrongness, commands -/
def psT (S : MSt) (p : Nat) (wr : Bool) (k : Nat) (cm : Nat → Int32) : MSt := fun r => if r = 11 then cm else if r = 13 then upd (upd (upd (S 13) 20 (nI k)) 21 (nI p)) 23 (bI wr) else S r
theorem psT_p (S : MSt) (p : Nat) (wr : Bool) (k : Nat) (cm : Nat → Int32) (q : Nat) : ss (psT S p wr k cm) 21 (nI q) = psT S q wr k cm := by
  funext r j; unfold ss sr psT; by_cases h : r = 13
  · subst h
    by_cases h1 : j = 21
    · subst h1; simp [upd]
    · by_cases h2 : j = 23
      · subst h2; simp [upd]
      · simp [upd, h1, h2]
  · simp [h]
theorem psT_w (S : MSt) (p : Nat) (wr : Bool) (k : Nat) (cm : Nat → Int32) (v : Bool) : ss (psT S p wr k cm) 23 (bI v) = psT S p v k cm := by
  funext r j; unfold ss sr psT; by_cases h : r = 13
  · subst h
    by_cases h2 : j = 23
    · subst h2; simp [upd]
    · simp [upd, h2]
  · simp [h]
theorem psT_k (S : MSt) (p : Nat) (wr : Bool) (k : Nat) (cm : Nat → Int32) (i : Nat) : ss (psT S p wr k cm) 20 (nI i) = psT S p wr i cm := by
  funext r j; unfold ss sr psT; by_cases h : r = 13
  · subst h
    by_cases h1 : j = 21
    · subst h1; simp [upd]
    · by_cases h2 : j = 23
      · subst h2; simp [upd]
      · by_cases h3 : j = 20
        · subst h3; simp [upd]
        · simp [upd, h1, h2, h3]
  · simp [h]
theorem psT_c (S : MSt) (p : Nat) (wr : Bool) (k : Nat) (cm f : Nat → Int32) : sr (psT S p wr k cm) 11 f = psT S p wr k f := by
  funext r; unfold sr psT; by_cases h : r = 11 <;> simp [h]
theorem expP_y {f : Nat → Int32} {sz p : Nat} {c : Int32} (h : hrF f sz p = c) : expP f sz c (p, false) = (p + 1, false) := by unfold expP; rw [if_pos ⟨rfl, h⟩]
theorem expP_n {f : Nat → Int32} {sz p : Nat} {c : Int32} {wr : Bool} (h : wr = true ∨ hrF f sz p ≠ c) : expP f sz c (p, wr) = (p, true) := by
  unfold expP; rw [if_neg]; rintro ⟨h1, h2⟩; rcases h with h | h
  · rw [h] at h1; cases h1
  · exact h h2
theorem digP_y {f : Nat → Int32} {sz p : Nat} (h : isD (hrF f sz p) = true) : digP f sz (p, false) = (hrF f sz p - nI 48, p + 1, false) := by unfold digP; rw [if_pos ⟨rfl, h⟩]
theorem digP_n {f : Nat → Int32} {sz p : Nat} {wr : Bool} (h : wr = true ∨ isD (hrF f sz p) = false) : digP f sz (p, wr) = (nI 0, p, true) := by
  unfold digP; rw [if_neg]; rintro ⟨h1, h2⟩; rcases h with h | h
  · rw [h] at h1; cases h1
  · dsimp only at h2; rw [h] at h2; cases h2
theorem hrF_in {f : Nat → Int32} {sz p : Nat} (h : isD (hrF f sz p) = true) : p < sz := by
  apply Decidable.byContradiction
  intro q
  unfold hrF at h
  rw [if_neg q] at h
  exact absurd h (by decide)
theorem expP_le {f : Nat → Int32} {sz : Nat} {c : Int32} {s : Nat × Bool} (hc : c ≠ -1) (h : s.1 ≤ sz) : (expP f sz c s).1 ≤ sz ∧ s.1 ≤ (expP f sz c s).1 := by
  unfold expP; split
  · rename_i z
    have : s.1 < sz := by
      apply Decidable.byContradiction
      intro q
      have z2 := z.2
      unfold hrF at z2
      rw [if_neg q] at z2
      exact hc z2.symm
    exact ⟨this, Nat.le_succ _⟩
  · exact ⟨h, Nat.le_refl _⟩
theorem digP_le {f : Nat → Int32} {sz : Nat} {s : Nat × Bool} (h : s.1 ≤ sz) : (digP f sz s).2.1 ≤ sz ∧ s.1 ≤ (digP f sz s).2.1 := by
  unfold digP; split
  · rename_i z; exact ⟨hrF_in z.2, Nat.le_succ _⟩
  · exact ⟨h, Nat.le_refl _⟩
theorem numP_le {f : Nat → Int32} {sz : Nat} {s : Nat × Bool} (h : s.1 ≤ sz) : (numP f sz s).2.1 ≤ sz ∧ s.1 ≤ (numP f sz s).2.1 := by
  have h1 := digP_le (f := f) h
  unfold numP; split
  · have h2 := digP_le (f := f) (s := (digP f sz s).2) h1.1
    exact ⟨h2.1, Nat.le_trans h1.2 h2.2⟩
  · exact h1
theorem gT_here : GoodIn gw (wsV RX10 220 RX10 yX10_here (Cond.code yX10_here cX10_here 1 (some .int) :: gw)) := gdV gw_2025 gw_2027 gw_56 gw_81 gw_2028
theorem hd_here : yX10_here.cls = RX10 ∧ yX10_here.cls ≠ "java/lang/invoke/MethodHandle" ∧ yX10_here.cls ≠ "java/lang/invoke/VarHandle" ∧ (parseMethodDescriptor yX10_here.desc).map (fun d => d.parameters.length) = some 0 := ⟨rfl, by decide +kernel, by decide +kernel, by decide +kernel⟩
theorem dX10_here_0 : decode cX10_here 0 = .ok (.aload_n 0, 1) := by decide +kernel
theorem dX10_here_1 : decode cX10_here 1 = .ok (.getfield 210, 3) := by decide +kernel
theorem dX10_here_4 : decode cX10_here 4 = .ok (.aload_n 0, 1) := by decide +kernel
theorem dX10_here_5 : decode cX10_here 5 = .ok (.getfield 213, 3) := by decide +kernel
theorem dX10_here_8 : decode cX10_here 8 = .ok (.if_icmp .ge 15, 3) := by decide +kernel
theorem dX10_here_11 : decode cX10_here 11 = .ok (.aload_n 0, 1) := by decide +kernel
theorem dX10_here_12 : decode cX10_here 12 = .ok (.getfield 29, 3) := by decide +kernel
theorem dX10_here_15 : decode cX10_here 15 = .ok (.aload_n 0, 1) := by decide +kernel
theorem dX10_here_16 : decode cX10_here 16 = .ok (.getfield 210, 3) := by decide +kernel
theorem dX10_here_19 : decode cX10_here 19 = .ok (.iaload, 1) := by decide +kernel
theorem dX10_here_20 : decode cX10_here 20 = .ok (.goto 4, 3) := by decide +kernel
theorem dX10_here_23 : decode cX10_here 23 = .ok (.iconst (-1), 1) := by decide +kernel
theorem dX10_here_24 : decode cX10_here 24 = .ok (.ireturn, 1) := by decide +kernel
set_option maxHeartbeats 1000000 in
set_option maxRecDepth 20000 in
theorem m_here (l : Launch) (D : va_G) (aT : Nat → ClassId) (ad : Nat → Nat) (S : MSt) (u sz k : Nat) (wr : Bool) (cm : Nat → Int32) (hsz : S 13 22 = nI sz) (h60 : sz ≤ 60) (hp : u ≤ sz) : MdG l yX10_here cX10_here 1 .int 0 0 D aT ad [.ref (ad 0)] (psT S u wr k cm) (fun r => r = hrF (S 4) sz u) := by
  refine MdI.of (by decide +kernel) rfl (Nat.le_of_ble_eq_true rfl) ?_
  intro p e s m below meth c A ls C hml hl hA hr hlocks hW
  have hl : lv_has ls 1 [(0, .ref (ad 0))] := hl
  have hx := C.1
  have hb := C.2.1
  refine lv_aload_n hx hb dX10_here_0 rfl (lv_at hl 0 rfl) ?_
  refine md_get_place0 C hW dX10_here_1 ?_
  refine r_eq (y := (nI u)) (rfl) ?_
  refine lv_aload_n hx hb dX10_here_4 rfl (lv_at hl 0 rfl) ?_
  refine md_get_size0 C hW dX10_here_5 ?_
  refine r_eq (y := (nI sz)) (hsz) ?_
  refine r_geN hx hb (a := u) (b := sz) (by omega) (by omega) (tgt := 23) dX10_here_8 (by decide) (fun c_8 => ?_) (fun c_8 => ?_)
  · refine lv_iconst (v := (-1)) hx hb dX10_here_23 (by decide) ?_
    exact md_iret C hr hlocks rfl hW (⟨by unfold hrF; rw [if_neg (by omega)], rfl⟩) dX10_here_24
  · refine lv_aload_n hx hb dX10_here_11 rfl (lv_at hl 0 rfl) ?_
    refine md_geta_input C hW dX10_here_12 ?_
    refine lv_aload_n hx hb dX10_here_15 rfl (lv_at hl 0 rfl) ?_
    refine md_get_place0 C hW dX10_here_16 ?_
    refine r_eq (y := (nI u)) (rfl) ?_
    refine md_ald_input C hW (i := u) (by omega) dX10_here_19 ?_
    refine r_eq (y := (S 4 u)) (rfl) ?_
    refine lv_goto (tgt := 24) hx hb dX10_here_20 (by decide) ?_
    exact md_iret C hr hlocks rfl hW (⟨by unfold hrF; rw [if_pos (by omega)], rfl⟩) dX10_here_24
theorem gT_expects : GoodIn gw (wsV RX10 230 RX10 yX10_expects (Cond.code yX10_expects cX10_expects 2 (none) :: gw)) := gdV gw_2039 gw_2041 gw_59 gw_81 gw_2042
theorem hd_expects : yX10_expects.cls = RX10 ∧ yX10_expects.cls ≠ "java/lang/invoke/MethodHandle" ∧ yX10_expects.cls ≠ "java/lang/invoke/VarHandle" ∧ (parseMethodDescriptor yX10_expects.desc).map (fun d => d.parameters.length) = some 1 := ⟨rfl, by decide +kernel, by decide +kernel, by decide +kernel⟩
theorem dX10_expects_0 : decode cX10_expects 0 = .ok (.aload_n 0, 1) := by decide +kernel
theorem dX10_expects_1 : decode cX10_expects 1 = .ok (.aload_n 0, 1) := by decide +kernel
theorem dX10_expects_2 : decode cX10_expects 2 = .ok (.getfield 216, 3) := by decide +kernel
theorem dX10_expects_5 : decode cX10_expects 5 = .ok (.ifCond .ne 11, 3) := by decide +kernel
theorem dX10_expects_8 : decode cX10_expects 8 = .ok (.aload_n 0, 1) := by decide +kernel
theorem dX10_expects_9 : decode cX10_expects 9 = .ok (.invokevirtual 220, 3) := by decide +kernel
theorem dX10_expects_12 : decode cX10_expects 12 = .ok (.iload_n 1, 1) := by decide +kernel
theorem dX10_expects_13 : decode cX10_expects 13 = .ok (.if_icmp .eq 7, 3) := by decide +kernel
theorem dX10_expects_16 : decode cX10_expects 16 = .ok (.iconst 1, 1) := by decide +kernel
theorem dX10_expects_17 : decode cX10_expects 17 = .ok (.goto 4, 3) := by decide +kernel
theorem dX10_expects_20 : decode cX10_expects 20 = .ok (.iconst 0, 1) := by decide +kernel
theorem dX10_expects_21 : decode cX10_expects 21 = .ok (.putfield 216, 3) := by decide +kernel
theorem dX10_expects_24 : decode cX10_expects 24 = .ok (.aload_n 0, 1) := by decide +kernel
theorem dX10_expects_25 : decode cX10_expects 25 = .ok (.dup, 1) := by decide +kernel
theorem dX10_expects_26 : decode cX10_expects 26 = .ok (.getfield 210, 3) := by decide +kernel
theorem dX10_expects_29 : decode cX10_expects 29 = .ok (.aload_n 0, 1) := by decide +kernel
theorem dX10_expects_30 : decode cX10_expects 30 = .ok (.getfield 216, 3) := by decide +kernel
theorem dX10_expects_33 : decode cX10_expects 33 = .ok (.ifCond .eq 7, 3) := by decide +kernel
theorem dX10_expects_36 : decode cX10_expects 36 = .ok (.iconst 0, 1) := by decide +kernel
theorem dX10_expects_37 : decode cX10_expects 37 = .ok (.goto 4, 3) := by decide +kernel
theorem dX10_expects_40 : decode cX10_expects 40 = .ok (.iconst 1, 1) := by decide +kernel
theorem dX10_expects_41 : decode cX10_expects 41 = .ok (.iadd, 1) := by decide +kernel
theorem dX10_expects_42 : decode cX10_expects 42 = .ok (.putfield 210, 3) := by decide +kernel
theorem dX10_expects_45 : decode cX10_expects 45 = .ok (.return_, 1) := by decide +kernel
set_option maxHeartbeats 1000000 in
set_option maxRecDepth 20000 in
theorem m_expects (l : Launch) (D : va_G) (aT : Nat → ClassId) (ad : Nat → Nat) (S : MSt) (u sz k : Nat) (wr : Bool) (cm : Nat → Int32) (hsz : S 13 22 = nI sz) (h60 : sz ≤ 60) (hp : u ≤ sz) (c0 : Int32) : MdV l yX10_expects cX10_expects 2 1 20 D aT ad [.ref (ad 0), .int c0] (psT S u wr k cm) (fun S1 => S1 = psT S (expP (S 4) sz c0 (u, wr)).1 (expP (S 4) sz c0 (u, wr)).2 k cm) := by
  refine MdV.of (by decide +kernel) rfl (Nat.le_of_ble_eq_true rfl) ?_
  intro p e s m below meth c A ls C hml hl hA hr hlocks hW
  have hl : lv_has ls 2 [(0, .ref (ad 0)), (1, .int c0)] := hl
  have hx := C.1
  have hb := C.2.1
  refine lv_aload_n hx hb dX10_expects_0 rfl (lv_at hl 0 rfl) ?_
  refine lv_aload_n hx hb dX10_expects_1 rfl (lv_at hl 0 rfl) ?_
  refine md_get_isWrong C hW dX10_expects_2 ?_
  refine r_eq (y := (bI wr)) (rfl) ?_
  refine r_bI_ne hx hb (b := wr) (tgt := 16) dX10_expects_5 (by decide) (fun c_5 => ?_) (fun c_5 => ?_)
  · refine lv_iconst (v := nI 1) hx hb dX10_expects_16 (by decide) ?_
    refine lv_goto (tgt := 21) hx hb dX10_expects_17 (by decide) ?_
    refine md_put_isWrong C hW (by decide) (by decide) dX10_expects_21 (fun H locs hW => ?_)
    have hW : MdB D aT ad (psT S u true k cm) A s.heap H locs := by rw [← psT_w S u wr k cm true]; exact hW
    refine lv_aload_n hx hb dX10_expects_24 rfl (lv_at hl 0 rfl) ?_
    refine lv_dup hx hb dX10_expects_25 rfl ?_
    refine md_get_place0 C hW dX10_expects_26 ?_
    refine r_eq (y := (nI u)) (rfl) ?_
    refine lv_aload_n hx hb dX10_expects_29 rfl (lv_at hl 0 rfl) ?_
    refine md_get_isWrong C hW dX10_expects_30 ?_
    refine r_eq (y := (bI true)) (rfl) ?_
    refine r_bI_eq hx hb (b := true) (tgt := 40) dX10_expects_33 (by decide) (fun c_33 => ?_) (fun c_33 => ?_)
    · exact absurd c_33 (by decide)
    · refine lv_iconst (v := nI 0) hx hb dX10_expects_36 (by decide) ?_
      refine lv_goto (tgt := 41) hx hb dX10_expects_37 (by decide) ?_
      refine r_iaddN hx hb (a := u) (b := 0) dX10_expects_41 ?_
      refine md_put_place0 C hW dX10_expects_42 (fun H locs hW => ?_)
      have hW : MdB D aT ad (psT S (u + 0) true k cm) A s.heap H locs := by rw [← psT_p S u true k cm (u + 0)]; exact hW
      exact md_vret C hr hlocks hW (by rw [expP_n (Or.inl c_5)]; try rfl) dX10_expects_45
  · refine lv_aload_n hx hb dX10_expects_8 rfl (lv_at hl 0 rfl) ?_
    refine md_callg C hml hl.1 (As := []) (rest := [.ref (ad 0)]) (m_here l D aT ad S u sz k wr cm hsz h60 (by omega)) gT_here hd_here rfl ⟨Nat.le_of_ble_eq_true rfl, Nat.le_of_ble_eq_true rfl⟩ ⟨Nat.le_refl _, Nat.le_refl _⟩ hW hA rfl (Nat.le_of_ble_eq_true rfl) dX10_expects_9 (fun r_9 H locs hq hW => ?_)
    subst hq
    refine lv_iload_n hx hb dX10_expects_12 rfl (lv_at hl 1 rfl) ?_
    refine lv_icmp_eq hx hb (x := (hrF (S 4) sz u)) (y := c0) (tgt := 20) dX10_expects_13 (by decide) (fun c_13 => ?_) (fun c_13 => ?_)
    · refine lv_iconst (v := nI 0) hx hb dX10_expects_20 (by decide) ?_
      refine md_put_isWrong C hW (by decide) (by decide) dX10_expects_21 (fun H locs hW => ?_)
      have hW : MdB D aT ad (psT S u false k cm) A s.heap H locs := by rw [← psT_w S u wr k cm false]; exact hW
      refine lv_aload_n hx hb dX10_expects_24 rfl (lv_at hl 0 rfl) ?_
      refine lv_dup hx hb dX10_expects_25 rfl ?_
      refine md_get_place0 C hW dX10_expects_26 ?_
      refine r_eq (y := (nI u)) (rfl) ?_
      refine lv_aload_n hx hb dX10_expects_29 rfl (lv_at hl 0 rfl) ?_
      refine md_get_isWrong C hW dX10_expects_30 ?_
      refine r_eq (y := (bI false)) (rfl) ?_
      refine r_bI_eq hx hb (b := false) (tgt := 40) dX10_expects_33 (by decide) (fun c_33 => ?_) (fun c_33 => ?_)
      · refine lv_iconst (v := nI 1) hx hb dX10_expects_40 (by decide) ?_
        refine r_iaddN hx hb (a := u) (b := 1) dX10_expects_41 ?_
        refine md_put_place0 C hW dX10_expects_42 (fun H locs hW => ?_)
        have hW : MdB D aT ad (psT S (u + 1) false k cm) A s.heap H locs := by rw [← psT_p S u false k cm (u + 1)]; exact hW
        exact md_vret C hr hlocks hW (by rw [c_5, expP_y c_13]; try rfl) dX10_expects_45
      · exact absurd c_33 (by decide)
    · refine lv_iconst (v := nI 1) hx hb dX10_expects_16 (by decide) ?_
      refine lv_goto (tgt := 21) hx hb dX10_expects_17 (by decide) ?_
      refine md_put_isWrong C hW (by decide) (by decide) dX10_expects_21 (fun H locs hW => ?_)
      have hW : MdB D aT ad (psT S u true k cm) A s.heap H locs := by rw [← psT_w S u wr k cm true]; exact hW
      refine lv_aload_n hx hb dX10_expects_24 rfl (lv_at hl 0 rfl) ?_
      refine lv_dup hx hb dX10_expects_25 rfl ?_
      refine md_get_place0 C hW dX10_expects_26 ?_
      refine r_eq (y := (nI u)) (rfl) ?_
      refine lv_aload_n hx hb dX10_expects_29 rfl (lv_at hl 0 rfl) ?_
      refine md_get_isWrong C hW dX10_expects_30 ?_
      refine r_eq (y := (bI true)) (rfl) ?_
      refine r_bI_eq hx hb (b := true) (tgt := 40) dX10_expects_33 (by decide) (fun c_33 => ?_) (fun c_33 => ?_)
      · exact absurd c_33 (by decide)
      · refine lv_iconst (v := nI 0) hx hb dX10_expects_36 (by decide) ?_
        refine lv_goto (tgt := 41) hx hb dX10_expects_37 (by decide) ?_
        refine r_iaddN hx hb (a := u) (b := 0) dX10_expects_41 ?_
        refine md_put_place0 C hW dX10_expects_42 (fun H locs hW => ?_)
        have hW : MdB D aT ad (psT S (u + 0) true k cm) A s.heap H locs := by rw [← psT_p S u true k cm (u + 0)]; exact hW
        exact md_vret C hr hlocks hW (by rw [expP_n (Or.inr c_13)]; try rfl) dX10_expects_45
theorem gT_digit : GoodIn gw (wsV RX10 227 RX10 yX10_digit (Cond.code yX10_digit cX10_digit 2 (some .int) :: gw)) := gdV gw_2021 gw_2023 gw_55 gw_81 gw_2024
theorem hd_digit : yX10_digit.cls = RX10 ∧ yX10_digit.cls ≠ "java/lang/invoke/MethodHandle" ∧ yX10_digit.cls ≠ "java/lang/invoke/VarHandle" ∧ (parseMethodDescriptor yX10_digit.desc).map (fun d => d.parameters.length) = some 0 := ⟨rfl, by decide +kernel, by decide +kernel, by decide +kernel⟩
theorem dX10_digit_0 : decode cX10_digit 0 = .ok (.aload_n 0, 1) := by decide +kernel
theorem dX10_digit_1 : decode cX10_digit 1 = .ok (.aload_n 0, 1) := by decide +kernel
theorem dX10_digit_2 : decode cX10_digit 2 = .ok (.getfield 216, 3) := by decide +kernel
theorem dX10_digit_5 : decode cX10_digit 5 = .ok (.ifCond .ne 20, 3) := by decide +kernel
theorem dX10_digit_8 : decode cX10_digit 8 = .ok (.aload_n 0, 1) := by decide +kernel
theorem dX10_digit_9 : decode cX10_digit 9 = .ok (.invokevirtual 220, 3) := by decide +kernel
theorem dX10_digit_12 : decode cX10_digit 12 = .ok (.i2l, 1) := by decide +kernel
theorem dX10_digit_13 : decode cX10_digit 13 = .ok (.ldc2_w 223, 3) := by decide +kernel
theorem dX10_digit_16 : decode cX10_digit 16 = .ok (.ldc2_w 225, 3) := by decide +kernel
theorem dX10_digit_19 : decode cX10_digit 19 = .ok (.invokestatic 63, 3) := by decide +kernel
theorem dX10_digit_22 : decode cX10_digit 22 = .ok (.ifCond .ne 7, 3) := by decide +kernel
theorem dX10_digit_25 : decode cX10_digit 25 = .ok (.iconst 1, 1) := by decide +kernel
theorem dX10_digit_26 : decode cX10_digit 26 = .ok (.goto 4, 3) := by decide +kernel
theorem dX10_digit_29 : decode cX10_digit 29 = .ok (.iconst 0, 1) := by decide +kernel
theorem dX10_digit_30 : decode cX10_digit 30 = .ok (.putfield 216, 3) := by decide +kernel
theorem dX10_digit_33 : decode cX10_digit 33 = .ok (.aload_n 0, 1) := by decide +kernel
theorem dX10_digit_34 : decode cX10_digit 34 = .ok (.getfield 216, 3) := by decide +kernel
theorem dX10_digit_37 : decode cX10_digit 37 = .ok (.ifCond .eq 7, 3) := by decide +kernel
theorem dX10_digit_40 : decode cX10_digit 40 = .ok (.iconst 0, 1) := by decide +kernel
theorem dX10_digit_41 : decode cX10_digit 41 = .ok (.goto 10, 3) := by decide +kernel
theorem dX10_digit_44 : decode cX10_digit 44 = .ok (.aload_n 0, 1) := by decide +kernel
theorem dX10_digit_45 : decode cX10_digit 45 = .ok (.invokevirtual 220, 3) := by decide +kernel
theorem dX10_digit_48 : decode cX10_digit 48 = .ok (.bipush 48, 2) := by decide +kernel
theorem dX10_digit_50 : decode cX10_digit 50 = .ok (.isub, 1) := by decide +kernel
theorem dX10_digit_51 : decode cX10_digit 51 = .ok (.istore_n 1, 1) := by decide +kernel
theorem dX10_digit_52 : decode cX10_digit 52 = .ok (.aload_n 0, 1) := by decide +kernel
theorem dX10_digit_53 : decode cX10_digit 53 = .ok (.dup, 1) := by decide +kernel
theorem dX10_digit_54 : decode cX10_digit 54 = .ok (.getfield 210, 3) := by decide +kernel
theorem dX10_digit_57 : decode cX10_digit 57 = .ok (.aload_n 0, 1) := by decide +kernel
theorem dX10_digit_58 : decode cX10_digit 58 = .ok (.getfield 216, 3) := by decide +kernel
theorem dX10_digit_61 : decode cX10_digit 61 = .ok (.ifCond .eq 7, 3) := by decide +kernel
theorem dX10_digit_64 : decode cX10_digit 64 = .ok (.iconst 0, 1) := by decide +kernel
theorem dX10_digit_65 : decode cX10_digit 65 = .ok (.goto 4, 3) := by decide +kernel
theorem dX10_digit_68 : decode cX10_digit 68 = .ok (.iconst 1, 1) := by decide +kernel
theorem dX10_digit_69 : decode cX10_digit 69 = .ok (.iadd, 1) := by decide +kernel
theorem dX10_digit_70 : decode cX10_digit 70 = .ok (.putfield 210, 3) := by decide +kernel
theorem dX10_digit_73 : decode cX10_digit 73 = .ok (.iload_n 1, 1) := by decide +kernel
theorem dX10_digit_74 : decode cX10_digit 74 = .ok (.ireturn, 1) := by decide +kernel
set_option maxHeartbeats 1000000 in
set_option maxRecDepth 20000 in
theorem m_digit (l : Launch) (D : va_G) (aT : Nat → ClassId) (ad : Nat → Nat) (S : MSt) (u sz k : Nat) (wr : Bool) (cm : Nat → Int32) (hsz : S 13 22 = nI sz) (h60 : sz ≤ 60) (hp : u ≤ sz) : MdI l yX10_digit cX10_digit 2 .int 1 25 D aT ad [.ref (ad 0)] (psT S u wr k cm) (fun r S1 => r = (digP (S 4) sz (u, wr)).1 ∧ S1 = psT S (digP (S 4) sz (u, wr)).2.1 (digP (S 4) sz (u, wr)).2.2 k cm) := by
  refine MdI.of (by decide +kernel) rfl (Nat.le_of_ble_eq_true rfl) ?_
  intro p e s m below meth c A ls C hml hl hA hr hlocks hW
  have hl : lv_has ls 2 [(0, .ref (ad 0))] := hl
  have hx := C.1
  have hb := C.2.1
  refine lv_aload_n hx hb dX10_digit_0 rfl (lv_at hl 0 rfl) ?_
  refine lv_aload_n hx hb dX10_digit_1 rfl (lv_at hl 0 rfl) ?_
  refine md_get_isWrong C hW dX10_digit_2 ?_
  refine r_eq (y := (bI wr)) (rfl) ?_
  refine r_bI_ne hx hb (b := wr) (tgt := 25) dX10_digit_5 (by decide) (fun c_5 => ?_) (fun c_5 => ?_)
  · refine lv_iconst (v := nI 1) hx hb dX10_digit_25 (by decide) ?_
    refine lv_goto (tgt := 30) hx hb dX10_digit_26 (by decide) ?_
    refine md_put_isWrong C hW (by decide) (by decide) dX10_digit_30 (fun H locs hW => ?_)
    have hW : MdB D aT ad (psT S u true k cm) A s.heap H locs := by rw [← psT_w S u wr k cm true]; exact hW
    refine lv_aload_n hx hb dX10_digit_33 rfl (lv_at hl 0 rfl) ?_
    refine md_get_isWrong C hW dX10_digit_34 ?_
    refine r_eq (y := (bI true)) (rfl) ?_
    refine r_bI_eq hx hb (b := true) (tgt := 44) dX10_digit_37 (by decide) (fun c_37 => ?_) (fun c_37 => ?_)
    · exact absurd c_37 (by decide)
    · refine lv_iconst (v := nI 0) hx hb dX10_digit_40 (by decide) ?_
      refine lv_goto (tgt := 51) hx hb dX10_digit_41 (by decide) ?_
      refine lv_istore_n (lv' := [(1, .int (nI 0)), (0, .ref (ad 0))]) hx hb dX10_digit_51 rfl hl (by decide) rfl (fun ls hl => ?_)
      refine lv_aload_n hx hb dX10_digit_52 rfl (lv_at hl 1 rfl) ?_
      refine lv_dup hx hb dX10_digit_53 rfl ?_
      refine md_get_place0 C hW dX10_digit_54 ?_
      refine r_eq (y := (nI u)) (rfl) ?_
      refine lv_aload_n hx hb dX10_digit_57 rfl (lv_at hl 1 rfl) ?_
      refine md_get_isWrong C hW dX10_digit_58 ?_
      refine r_eq (y := (bI true)) (rfl) ?_
      refine r_bI_eq hx hb (b := true) (tgt := 68) dX10_digit_61 (by decide) (fun c_61 => ?_) (fun c_61 => ?_)
      · exact absurd c_61 (by decide)
      · refine lv_iconst (v := nI 0) hx hb dX10_digit_64 (by decide) ?_
        refine lv_goto (tgt := 69) hx hb dX10_digit_65 (by decide) ?_
        refine r_iaddN hx hb (a := u) (b := 0) dX10_digit_69 ?_
        refine md_put_place0 C hW dX10_digit_70 (fun H locs hW => ?_)
        have hW : MdB D aT ad (psT S (u + 0) true k cm) A s.heap H locs := by rw [← psT_p S u true k cm (u + 0)]; exact hW
        refine lv_iload_n hx hb dX10_digit_73 rfl (lv_at hl 0 rfl) ?_
        exact md_iret C hr hlocks rfl hW (⟨by rw [digP_n (Or.inl c_5)]; try rfl, by rw [digP_n (Or.inl c_5)]; try rfl⟩) dX10_digit_74
  · refine lv_aload_n hx hb dX10_digit_8 rfl (lv_at hl 0 rfl) ?_
    refine md_callg C hml hl.1 (As := []) (rest := [.ref (ad 0)]) (m_here l D aT ad S u sz k wr cm hsz h60 (by omega)) gT_here hd_here rfl ⟨Nat.le_of_ble_eq_true rfl, Nat.le_of_ble_eq_true rfl⟩ ⟨Nat.le_refl _, Nat.le_refl _⟩ hW hA rfl (Nat.le_of_ble_eq_true rfl) dX10_digit_9 (fun r_9 H locs hq hW => ?_)
    subst hq
    refine lv_i2l (v := ((hrF (S 4) sz u)).toInt64) hx hb dX10_digit_12 rfl ?_
    refine lv_ldc2 hx hb C.2.2.2.1 (C.2.2.1 _ gw_2029) dX10_digit_13 ?_
    refine lv_ldc2 hx hb C.2.2.2.1 (C.2.2.1 _ gw_2030) dX10_digit_16 ?_
    refine md_calls C hml hl.1 (As := [.long (((hrF (S 4) sz u)).toInt64), .long 48, .long 57]) (rest := [.ref (ad 0)]) (m_in l (((hrF (S 4) sz u)).toInt64) 48 57) gT_in hd_in rfl ⟨Nat.le_of_ble_eq_true rfl, Nat.le_of_ble_eq_true rfl⟩ ⟨Nat.le_refl _, Nat.le_refl _⟩ rfl (Nat.le_of_ble_eq_true rfl) dX10_digit_19 (fun r_19 hq => ?_)
    subst hq
    refine r_bI_ne hx hb (b := (rgB 48 57 (hrF (S 4) sz u))) (tgt := 29) dX10_digit_22 (by decide) (fun c_22 => ?_) (fun c_22 => ?_)
    · refine lv_iconst (v := nI 0) hx hb dX10_digit_29 (by decide) ?_
      refine md_put_isWrong C hW (by decide) (by decide) dX10_digit_30 (fun H locs hW => ?_)
      have hW : MdB D aT ad (psT S u false k cm) A s.heap H locs := by rw [← psT_w S u wr k cm false]; exact hW
      refine lv_aload_n hx hb dX10_digit_33 rfl (lv_at hl 0 rfl) ?_
      refine md_get_isWrong C hW dX10_digit_34 ?_
      refine r_eq (y := (bI false)) (rfl) ?_
      refine r_bI_eq hx hb (b := false) (tgt := 44) dX10_digit_37 (by decide) (fun c_37 => ?_) (fun c_37 => ?_)
      · refine lv_aload_n hx hb dX10_digit_44 rfl (lv_at hl 0 rfl) ?_
        refine md_callg C hml hl.1 (As := []) (rest := []) (m_here l D aT ad S u sz k false cm hsz h60 (by omega)) gT_here hd_here rfl ⟨Nat.le_of_ble_eq_true rfl, Nat.le_of_ble_eq_true rfl⟩ ⟨Nat.le_refl _, Nat.le_refl _⟩ hW hA rfl (Nat.le_of_ble_eq_true rfl) dX10_digit_45 (fun r_45 H locs hq hW => ?_)
        subst hq
        refine lv_bipush (v := nI 48) hx hb dX10_digit_48 (by decide) ?_
        refine lv_isub hx hb dX10_digit_50 ?_
        refine lv_istore_n (lv' := [(1, .int ((hrF (S 4) sz u) - (nI 48))), (0, .ref (ad 0))]) hx hb dX10_digit_51 rfl hl (by decide) rfl (fun ls hl => ?_)
        refine lv_aload_n hx hb dX10_digit_52 rfl (lv_at hl 1 rfl) ?_
        refine lv_dup hx hb dX10_digit_53 rfl ?_
        refine md_get_place0 C hW dX10_digit_54 ?_
        refine r_eq (y := (nI u)) (rfl) ?_
        refine lv_aload_n hx hb dX10_digit_57 rfl (lv_at hl 1 rfl) ?_
        refine md_get_isWrong C hW dX10_digit_58 ?_
        refine r_eq (y := (bI false)) (rfl) ?_
        refine r_bI_eq hx hb (b := false) (tgt := 68) dX10_digit_61 (by decide) (fun c_61 => ?_) (fun c_61 => ?_)
        · refine lv_iconst (v := nI 1) hx hb dX10_digit_68 (by decide) ?_
          refine r_iaddN hx hb (a := u) (b := 1) dX10_digit_69 ?_
          refine md_put_place0 C hW dX10_digit_70 (fun H locs hW => ?_)
          have hW : MdB D aT ad (psT S (u + 1) false k cm) A s.heap H locs := by rw [← psT_p S u false k cm (u + 1)]; exact hW
          refine lv_iload_n hx hb dX10_digit_73 rfl (lv_at hl 0 rfl) ?_
          exact md_iret C hr hlocks rfl hW (⟨by rw [c_5, digP_y c_22]; try rfl, by rw [c_5, digP_y c_22]; try rfl⟩) dX10_digit_74
        · exact absurd c_61 (by decide)
      · exact absurd c_37 (by decide)
    · refine lv_iconst (v := nI 1) hx hb dX10_digit_25 (by decide) ?_
      refine lv_goto (tgt := 30) hx hb dX10_digit_26 (by decide) ?_
      refine md_put_isWrong C hW (by decide) (by decide) dX10_digit_30 (fun H locs hW => ?_)
      have hW : MdB D aT ad (psT S u true k cm) A s.heap H locs := by rw [← psT_w S u wr k cm true]; exact hW
      refine lv_aload_n hx hb dX10_digit_33 rfl (lv_at hl 0 rfl) ?_
      refine md_get_isWrong C hW dX10_digit_34 ?_
      refine r_eq (y := (bI true)) (rfl) ?_
      refine r_bI_eq hx hb (b := true) (tgt := 44) dX10_digit_37 (by decide) (fun c_37 => ?_) (fun c_37 => ?_)
      · exact absurd c_37 (by decide)
      · refine lv_iconst (v := nI 0) hx hb dX10_digit_40 (by decide) ?_
        refine lv_goto (tgt := 51) hx hb dX10_digit_41 (by decide) ?_
        refine lv_istore_n (lv' := [(1, .int (nI 0)), (0, .ref (ad 0))]) hx hb dX10_digit_51 rfl hl (by decide) rfl (fun ls hl => ?_)
        refine lv_aload_n hx hb dX10_digit_52 rfl (lv_at hl 1 rfl) ?_
        refine lv_dup hx hb dX10_digit_53 rfl ?_
        refine md_get_place0 C hW dX10_digit_54 ?_
        refine r_eq (y := (nI u)) (rfl) ?_
        refine lv_aload_n hx hb dX10_digit_57 rfl (lv_at hl 1 rfl) ?_
        refine md_get_isWrong C hW dX10_digit_58 ?_
        refine r_eq (y := (bI true)) (rfl) ?_
        refine r_bI_eq hx hb (b := true) (tgt := 68) dX10_digit_61 (by decide) (fun c_61 => ?_) (fun c_61 => ?_)
        · exact absurd c_61 (by decide)
        · refine lv_iconst (v := nI 0) hx hb dX10_digit_64 (by decide) ?_
          refine lv_goto (tgt := 69) hx hb dX10_digit_65 (by decide) ?_
          refine r_iaddN hx hb (a := u) (b := 0) dX10_digit_69 ?_
          refine md_put_place0 C hW dX10_digit_70 (fun H locs hW => ?_)
          have hW : MdB D aT ad (psT S (u + 0) true k cm) A s.heap H locs := by rw [← psT_p S u true k cm (u + 0)]; exact hW
          refine lv_iload_n hx hb dX10_digit_73 rfl (lv_at hl 0 rfl) ?_
          exact md_iret C hr hlocks rfl hW (⟨by rw [digP_n (Or.inr c_22)]; try rfl, by rw [digP_n (Or.inr c_22)]; try rfl⟩) dX10_digit_74
theorem gT_number : GoodIn gw (wsV RX10 233 RX10 yX10_number (Cond.code yX10_number cX10_number 2 (some .int) :: gw)) := gdV gw_2031 gw_2033 gw_57 gw_81 gw_2034
theorem hd_number : yX10_number.cls = RX10 ∧ yX10_number.cls ≠ "java/lang/invoke/MethodHandle" ∧ yX10_number.cls ≠ "java/lang/invoke/VarHandle" ∧ (parseMethodDescriptor yX10_number.desc).map (fun d => d.parameters.length) = some 0 := ⟨rfl, by decide +kernel, by decide +kernel, by decide +kernel⟩
theorem dX10_number_0 : decode cX10_number 0 = .ok (.aload_n 0, 1) := by decide +kernel
theorem dX10_number_1 : decode cX10_number 1 = .ok (.invokevirtual 227, 3) := by decide +kernel
theorem dX10_number_4 : decode cX10_number 4 = .ok (.istore_n 1, 1) := by decide +kernel
theorem dX10_number_5 : decode cX10_number 5 = .ok (.aload_n 0, 1) := by decide +kernel
theorem dX10_number_6 : decode cX10_number 6 = .ok (.getfield 216, 3) := by decide +kernel
theorem dX10_number_9 : decode cX10_number 9 = .ok (.ifCond .ne 32, 3) := by decide +kernel
theorem dX10_number_12 : decode cX10_number 12 = .ok (.aload_n 0, 1) := by decide +kernel
theorem dX10_number_13 : decode cX10_number 13 = .ok (.invokevirtual 220, 3) := by decide +kernel
theorem dX10_number_16 : decode cX10_number 16 = .ok (.i2l, 1) := by decide +kernel
theorem dX10_number_17 : decode cX10_number 17 = .ok (.ldc2_w 223, 3) := by decide +kernel
theorem dX10_number_20 : decode cX10_number 20 = .ok (.ldc2_w 225, 3) := by decide +kernel
theorem dX10_number_23 : decode cX10_number 23 = .ok (.invokestatic 63, 3) := by decide +kernel
theorem dX10_number_26 : decode cX10_number 26 = .ok (.ifCond .eq 15, 3) := by decide +kernel
theorem dX10_number_29 : decode cX10_number 29 = .ok (.bipush 10, 2) := by decide +kernel
theorem dX10_number_31 : decode cX10_number 31 = .ok (.iload_n 1, 1) := by decide +kernel
theorem dX10_number_32 : decode cX10_number 32 = .ok (.imul, 1) := by decide +kernel
theorem dX10_number_33 : decode cX10_number 33 = .ok (.aload_n 0, 1) := by decide +kernel
theorem dX10_number_34 : decode cX10_number 34 = .ok (.invokevirtual 227, 3) := by decide +kernel
theorem dX10_number_37 : decode cX10_number 37 = .ok (.iadd, 1) := by decide +kernel
theorem dX10_number_38 : decode cX10_number 38 = .ok (.goto 4, 3) := by decide +kernel
theorem dX10_number_41 : decode cX10_number 41 = .ok (.iload_n 1, 1) := by decide +kernel
theorem dX10_number_42 : decode cX10_number 42 = .ok (.ireturn, 1) := by decide +kernel
set_option maxHeartbeats 1000000 in
set_option maxRecDepth 20000 in
theorem m_number (l : Launch) (D : va_G) (aT : Nat → ClassId) (ad : Nat → Nat) (S : MSt) (u sz k : Nat) (wr : Bool) (cm : Nat → Int32) (hsz : S 13 22 = nI sz) (h60 : sz ≤ 60) (hp : u ≤ sz) : MdI l yX10_number cX10_number 2 .int 2 46 D aT ad [.ref (ad 0)] (psT S u wr k cm) (fun r S1 => r = (numP (S 4) sz (u, wr)).1 ∧ S1 = psT S (numP (S 4) sz (u, wr)).2.1 (numP (S 4) sz (u, wr)).2.2 k cm) := by
  refine MdI.of (by decide +kernel) rfl (Nat.le_of_ble_eq_true rfl) ?_
  intro p e s m below meth c A ls C hml hl hA hr hlocks hW
  have hl : lv_has ls 2 [(0, .ref (ad 0))] := hl
  have hx := C.1
  have hb := C.2.1
  refine lv_aload_n hx hb dX10_number_0 rfl (lv_at hl 0 rfl) ?_
  refine md_calli C hml hl.1 (As := []) (rest := []) (m_digit l D aT ad S u sz k wr cm hsz h60 (hp)) gT_digit hd_digit rfl ⟨Nat.le_of_ble_eq_true rfl, Nat.le_of_ble_eq_true rfl⟩ ⟨Nat.le_refl _, Nat.le_refl _⟩ hW hA rfl (Nat.le_of_ble_eq_true rfl) dX10_number_1 (fun r_1 S_1 H locs hq hW => ?_)
  obtain ⟨rfl, rfl⟩ := hq
  refine lv_istore_n (lv' := [(1, .int ((digP (S 4) sz (u, wr)).1)), (0, .ref (ad 0))]) hx hb dX10_number_4 rfl hl (by decide) rfl (fun ls hl => ?_)
  refine lv_aload_n hx hb dX10_number_5 rfl (lv_at hl 1 rfl) ?_
  refine md_get_isWrong C hW dX10_number_6 ?_
  refine r_eq (y := (bI ((digP (S 4) sz (u, wr)).2.2))) (rfl) ?_
  refine r_bI_ne hx hb (b := (digP (S 4) sz (u, wr)).2.2) (tgt := 41) dX10_number_9 (by decide) (fun c_9 => ?_) (fun c_9 => ?_)
  · refine lv_iload_n hx hb dX10_number_41 rfl (lv_at hl 0 rfl) ?_
    exact md_iret C hr hlocks rfl hW (⟨by unfold numP; rw [if_neg (by rintro ⟨z, -⟩; rw [c_9] at z; cases z)]; try rfl, by unfold numP; rw [if_neg (by rintro ⟨z, -⟩; rw [c_9] at z; cases z)]; try rfl⟩) dX10_number_42
  · refine lv_aload_n hx hb dX10_number_12 rfl (lv_at hl 1 rfl) ?_
    refine md_callg C hml hl.1 (As := []) (rest := []) (m_here l D aT ad S ((digP (S 4) sz (u, wr)).2.1) sz k ((digP (S 4) sz (u, wr)).2.2) cm hsz h60 ((digP_le hp).1)) gT_here hd_here rfl ⟨Nat.le_of_ble_eq_true rfl, Nat.le_of_ble_eq_true rfl⟩ ⟨Nat.le_refl _, Nat.le_refl _⟩ hW hA rfl (Nat.le_of_ble_eq_true rfl) dX10_number_13 (fun r_13 H locs hq hW => ?_)
    subst hq
    refine lv_i2l (v := ((hrF (S 4) sz ((digP (S 4) sz (u, wr)).2.1))).toInt64) hx hb dX10_number_16 rfl ?_
    refine lv_ldc2 hx hb C.2.2.2.1 (C.2.2.1 _ gw_2029) dX10_number_17 ?_
    refine lv_ldc2 hx hb C.2.2.2.1 (C.2.2.1 _ gw_2030) dX10_number_20 ?_
    refine md_calls C hml hl.1 (As := [.long (((hrF (S 4) sz ((digP (S 4) sz (u, wr)).2.1))).toInt64), .long 48, .long 57]) (rest := []) (m_in l (((hrF (S 4) sz ((digP (S 4) sz (u, wr)).2.1))).toInt64) 48 57) gT_in hd_in rfl ⟨Nat.le_of_ble_eq_true rfl, Nat.le_of_ble_eq_true rfl⟩ ⟨Nat.le_refl _, Nat.le_refl _⟩ rfl (Nat.le_of_ble_eq_true rfl) dX10_number_23 (fun r_23 hq => ?_)
    subst hq
    refine r_bI_eq hx hb (b := (rgB 48 57 (hrF (S 4) sz ((digP (S 4) sz (u, wr)).2.1)))) (tgt := 41) dX10_number_26 (by decide) (fun c_26 => ?_) (fun c_26 => ?_)
    · refine lv_iload_n hx hb dX10_number_41 rfl (lv_at hl 0 rfl) ?_
      exact md_iret C hr hlocks rfl hW (⟨by unfold numP; rw [if_neg (by rintro ⟨-, z⟩; exact absurd (c_26.symm.trans z) (by decide))]; try rfl, by unfold numP; rw [if_neg (by rintro ⟨-, z⟩; exact absurd (c_26.symm.trans z) (by decide))]; try rfl⟩) dX10_number_42
    · refine lv_bipush (v := nI 10) hx hb dX10_number_29 (by decide) ?_
      refine lv_iload_n hx hb dX10_number_31 rfl (lv_at hl 0 rfl) ?_
      refine lv_imul hx hb dX10_number_32 ?_
      refine lv_aload_n hx hb dX10_number_33 rfl (lv_at hl 1 rfl) ?_
      refine md_calli C hml hl.1 (As := []) (rest := [.int ((nI 10) * ((digP (S 4) sz (u, wr)).1))]) (m_digit l D aT ad S ((digP (S 4) sz (u, wr)).2.1) sz k ((digP (S 4) sz (u, wr)).2.2) cm hsz h60 ((digP_le hp).1)) gT_digit hd_digit rfl ⟨Nat.le_of_ble_eq_true rfl, Nat.le_of_ble_eq_true rfl⟩ ⟨Nat.le_refl _, Nat.le_refl _⟩ hW hA rfl (Nat.le_of_ble_eq_true rfl) dX10_number_34 (fun r_34 S_34 H locs hq hW => ?_)
      obtain ⟨rfl, rfl⟩ := hq
      refine lv_iadd hx hb dX10_number_37 ?_
      refine lv_goto (tgt := 42) hx hb dX10_number_38 (by decide) ?_
      exact md_iret C hr hlocks rfl hW (⟨by unfold numP; rw [if_pos ⟨c_9, c_26⟩]; try rfl, by unfold numP; rw [if_pos ⟨c_9, c_26⟩]; try rfl⟩) dX10_number_42
theorem gT_digitBehind : GoodIn gw (wsV RX10 236 RX10 yX10_digitBehind (Cond.code yX10_digitBehind cX10_digitBehind 1 (some .int) :: gw)) := gdV gw_2035 gw_2037 gw_58 gw_81 gw_2038
theorem hd_digitBehind : yX10_digitBehind.cls = RX10 ∧ yX10_digitBehind.cls ≠ "java/lang/invoke/MethodHandle" ∧ yX10_digitBehind.cls ≠ "java/lang/invoke/VarHandle" ∧ (parseMethodDescriptor yX10_digitBehind.desc).map (fun d => d.parameters.length) = some 0 := ⟨rfl, by decide +kernel, by decide +kernel, by decide +kernel⟩
theorem dX10_digitBehind_0 : decode cX10_digitBehind 0 = .ok (.aload_n 0, 1) := by decide +kernel
theorem dX10_digitBehind_1 : decode cX10_digitBehind 1 = .ok (.bipush 32, 2) := by decide +kernel
theorem dX10_digitBehind_3 : decode cX10_digitBehind 3 = .ok (.invokevirtual 230, 3) := by decide +kernel
theorem dX10_digitBehind_6 : decode cX10_digitBehind 6 = .ok (.aload_n 0, 1) := by decide +kernel
theorem dX10_digitBehind_7 : decode cX10_digitBehind 7 = .ok (.invokevirtual 227, 3) := by decide +kernel
theorem dX10_digitBehind_10 : decode cX10_digitBehind 10 = .ok (.ireturn, 1) := by decide +kernel
set_option maxHeartbeats 1000000 in
set_option maxRecDepth 20000 in
theorem m_digitBehind (l : Launch) (D : va_G) (aT : Nat → ClassId) (ad : Nat → Nat) (S : MSt) (u sz k : Nat) (wr : Bool) (cm : Nat → Int32) (hsz : S 13 22 = nI sz) (h60 : sz ≤ 60) (hp : u ≤ sz) : MdI l yX10_digitBehind cX10_digitBehind 1 .int 2 46 D aT ad [.ref (ad 0)] (psT S u wr k cm) (fun r S1 => r = (digP (S 4) sz (expP (S 4) sz (nI 32) (u, wr))).1 ∧ S1 = psT S (digP (S 4) sz (expP (S 4) sz (nI 32) (u, wr))).2.1 (digP (S 4) sz (expP (S 4) sz (nI 32) (u, wr))).2.2 k cm) := by
  refine MdI.of (by decide +kernel) rfl (Nat.le_of_ble_eq_true rfl) ?_
  intro p e s m below meth c A ls C hml hl hA hr hlocks hW
  have hl : lv_has ls 1 [(0, .ref (ad 0))] := hl
  have hx := C.1
  have hb := C.2.1
  refine lv_aload_n hx hb dX10_digitBehind_0 rfl (lv_at hl 0 rfl) ?_
  refine lv_bipush (v := nI 32) hx hb dX10_digitBehind_1 (by decide) ?_
  refine md_callv C hml hl.1 (As := [.int (nI 32)]) (rest := []) (m_expects l D aT ad S u sz k wr cm hsz h60 (hp) (nI 32)) gT_expects hd_expects rfl ⟨Nat.le_of_ble_eq_true rfl, Nat.le_of_ble_eq_true rfl⟩ ⟨Nat.le_refl _, Nat.le_refl _⟩ hW hA rfl (Nat.le_of_ble_eq_true rfl) dX10_digitBehind_3 (fun S_3 H locs hq hW => ?_)
  subst hq
  refine lv_aload_n hx hb dX10_digitBehind_6 rfl (lv_at hl 0 rfl) ?_
  refine md_calli C hml hl.1 (As := []) (rest := []) (m_digit l D aT ad S ((expP (S 4) sz (nI 32) (u, wr)).1) sz k ((expP (S 4) sz (nI 32) (u, wr)).2) cm hsz h60 ((expP_le (by decide) hp).1)) gT_digit hd_digit rfl ⟨Nat.le_of_ble_eq_true rfl, Nat.le_of_ble_eq_true rfl⟩ ⟨Nat.le_refl _, Nat.le_refl _⟩ hW hA rfl (Nat.le_of_ble_eq_true rfl) dX10_digitBehind_7 (fun r_7 S_7 H locs hq hW => ?_)
  obtain ⟨rfl, rfl⟩ := hq
  exact md_iret C hr hlocks rfl hW (⟨rfl, rfl⟩) dX10_digitBehind_10
theorem gT_numberBehind : GoodIn gw (wsV RX10 239 RX10 yX10_numberBehind (Cond.code yX10_numberBehind cX10_numberBehind 1 (some .int) :: gw)) := gdV gw_2043 gw_2045 gw_60 gw_81 gw_2046
theorem hd_numberBehind : yX10_numberBehind.cls = RX10 ∧ yX10_numberBehind.cls ≠ "java/lang/invoke/MethodHandle" ∧ yX10_numberBehind.cls ≠ "java/lang/invoke/VarHandle" ∧ (parseMethodDescriptor yX10_numberBehind.desc).map (fun d => d.parameters.length) = some 0 := ⟨rfl, by decide +kernel, by decide +kernel, by decide +kernel⟩
theorem dX10_numberBehind_0 : decode cX10_numberBehind 0 = .ok (.aload_n 0, 1) := by decide +kernel
theorem dX10_numberBehind_1 : decode cX10_numberBehind 1 = .ok (.bipush 32, 2) := by decide +kernel
theorem dX10_numberBehind_3 : decode cX10_numberBehind 3 = .ok (.invokevirtual 230, 3) := by decide +kernel
theorem dX10_numberBehind_6 : decode cX10_numberBehind 6 = .ok (.aload_n 0, 1) := by decide +kernel
theorem dX10_numberBehind_7 : decode cX10_numberBehind 7 = .ok (.invokevirtual 233, 3) := by decide +kernel
theorem dX10_numberBehind_10 : decode cX10_numberBehind 10 = .ok (.ireturn, 1) := by decide +kernel
set_option maxHeartbeats 1000000 in
set_option maxRecDepth 20000 in
theorem m_numberBehind (l : Launch) (D : va_G) (aT : Nat → ClassId) (ad : Nat → Nat) (S : MSt) (u sz k : Nat) (wr : Bool) (cm : Nat → Int32) (hsz : S 13 22 = nI sz) (h60 : sz ≤ 60) (hp : u ≤ sz) : MdI l yX10_numberBehind cX10_numberBehind 1 .int 3 67 D aT ad [.ref (ad 0)] (psT S u wr k cm) (fun r S1 => r = (numP (S 4) sz (expP (S 4) sz (nI 32) (u, wr))).1 ∧ S1 = psT S (numP (S 4) sz (expP (S 4) sz (nI 32) (u, wr))).2.1 (numP (S 4) sz (expP (S 4) sz (nI 32) (u, wr))).2.2 k cm) := by
  refine MdI.of (by decide +kernel) rfl (Nat.le_of_ble_eq_true rfl) ?_
  intro p e s m below meth c A ls C hml hl hA hr hlocks hW
  have hl : lv_has ls 1 [(0, .ref (ad 0))] := hl
  have hx := C.1
  have hb := C.2.1
  refine lv_aload_n hx hb dX10_numberBehind_0 rfl (lv_at hl 0 rfl) ?_
  refine lv_bipush (v := nI 32) hx hb dX10_numberBehind_1 (by decide) ?_
  refine md_callv C hml hl.1 (As := [.int (nI 32)]) (rest := []) (m_expects l D aT ad S u sz k wr cm hsz h60 (hp) (nI 32)) gT_expects hd_expects rfl ⟨Nat.le_of_ble_eq_true rfl, Nat.le_of_ble_eq_true rfl⟩ ⟨Nat.le_refl _, Nat.le_refl _⟩ hW hA rfl (Nat.le_of_ble_eq_true rfl) dX10_numberBehind_3 (fun S_3 H locs hq hW => ?_)
  subst hq
  refine lv_aload_n hx hb dX10_numberBehind_6 rfl (lv_at hl 0 rfl) ?_
  refine md_calli C hml hl.1 (As := []) (rest := []) (m_number l D aT ad S ((expP (S 4) sz (nI 32) (u, wr)).1) sz k ((expP (S 4) sz (nI 32) (u, wr)).2) cm hsz h60 ((expP_le (by decide) hp).1)) gT_number hd_number rfl ⟨Nat.le_of_ble_eq_true rfl, Nat.le_of_ble_eq_true rfl⟩ ⟨Nat.le_refl _, Nat.le_refl _⟩ hW hA rfl (Nat.le_of_ble_eq_true rfl) dX10_numberBehind_7 (fun r_7 S_7 H locs hq hW => ?_)
  obtain ⟨rfl, rfl⟩ := hq
  exact md_iret C hr hlocks rfl hW (⟨rfl, rfl⟩) dX10_numberBehind_10
