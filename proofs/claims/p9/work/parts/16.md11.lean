def bgN (w : Nat) : Nat := [0, 6, 11, 17, 23, 30, 35, 41].getD w 41
def ltN (j : Nat) : Nat := [104, 101, 100, 103, 101, 32, 109, 97, 105, 110, 32, 97, 109, 101, 110, 100, 32, 112, 114, 117, 110, 101, 32, 114, 101, 103, 114, 111, 119, 32, 118, 111, 116, 101, 32, 115, 101, 97, 115, 111, 110].getD j 0
theorem bgN_in : ∀ w, w < 7 → bgN w + 5 ≤ bgN (w + 1) ∧ bgN (w + 1) ≤ 41 := by decide
/-- how many letters of a word stand at a place -/
def lkA (f : Nat → Int32) (sz u b : Nat) : Nat → Nat → Nat
  | 0, n => n
  | d + 1, n => if u + n < sz ∧ f (u + n) = nI (ltN (b + n)) then lkA f sz u b d (n + 1) else n
def lkF (f : Nat → Int32) (sz u w : Nat) : Nat := lkA f sz u (bgN w) (bgN (w + 1) - bgN w) 0
theorem lkA_le {f : Nat → Int32} {sz u b : Nat} : ∀ d n, lkA f sz u b d n ≤ n + d ∧ (u + n ≤ sz → u + lkA f sz u b d n ≤ sz) := by
  intro d
  induction d with
  | zero => intro n; exact ⟨Nat.le_refl _, fun h => h⟩
  | succ d ih =>
    intro n
    unfold lkA
    split
    · rename_i h
      have h1 := ih (n + 1)
      exact ⟨by omega, fun _ => h1.2 (by omega)⟩
    · exact ⟨by omega, fun h => h⟩
def digB (f : Nat → Int32) (sz : Nat) (s : Nat × Bool) : Int32 × Nat × Bool := digP f sz (expP f sz (nI 32) s)
def numB (f : Nat → Int32) (sz : Nat) (s : Nat × Bool) : Int32 × Nat × Bool := numP f sz (expP f sz (nI 32) s)
/-- the arguments of a word: place and wrongness behind them, the commands with them -/
def argP (f : Nat → Int32) (sz : Nat) (s : Nat × Bool) (t : Nat) (cm : Nat → Int32) : Nat → (Nat × Bool) × (Nat → Int32)
  | 0 => ((digB f sz (digB f sz (numP f sz s).2).2).2, upd (upd (upd cm t (numP f sz s).1) (t + 1) (digB f sz (numP f sz s).2).1) (t + 2) (digB f sz (digB f sz (numP f sz s).2).2).1)
  | 1 => ((numB f sz (digP f sz s).2).2, upd (upd cm t (digP f sz s).1) (t + 1) (numB f sz (digP f sz s).2).1)
  | 2 => ((numB f sz (digB f sz (numP f sz s).2).2).2, upd (upd (upd cm t (numP f sz s).1) (t + 1) (digB f sz (numP f sz s).2).1) (t + 2) (numB f sz (digB f sz (numP f sz s).2).2).1)
  | 3 => ((digB f sz (numP f sz s).2).2, upd (upd cm t (numP f sz s).1) (t + 1) (digB f sz (numP f sz s).2).1)
  | 4 => ((numP f sz s).2, upd cm t (numP f sz s).1)
  | 5 => ((numP f sz s).2, upd cm t (numP f sz s).1)
  | _ => (s, upd cm t (nI 0))
theorem digB_le {f : Nat → Int32} {sz : Nat} {s : Nat × Bool} (h : s.1 ≤ sz) : (digB f sz s).2.1 ≤ sz ∧ s.1 ≤ (digB f sz s).2.1 := by
  have h1 := expP_le (f := f) (c := nI 32) (s := s) (by decide) h
  have h2 := digP_le (f := f) h1.1
  exact ⟨h2.1, Nat.le_trans h1.2 h2.2⟩
theorem numB_le {f : Nat → Int32} {sz : Nat} {s : Nat × Bool} (h : s.1 ≤ sz) : (numB f sz s).2.1 ≤ sz ∧ s.1 ≤ (numB f sz s).2.1 := by
  have h1 := expP_le (f := f) (c := nI 32) (s := s) (by decide) h
  have h2 := numP_le (f := f) h1.1
  exact ⟨h2.1, Nat.le_trans h1.2 h2.2⟩
theorem argP_le {f : Nat → Int32} {sz : Nat} {s : Nat × Bool} {t : Nat} {cm : Nat → Int32} (h : s.1 ≤ sz) : ∀ w, w < 7 → (argP f sz s t cm w).1.1 ≤ sz ∧ s.1 ≤ (argP f sz s t cm w).1.1 := by
  intro w hw
  have n1 := numP_le (f := f) h
  have d1 := digP_le (f := f) h
  have n1d := digB_le (f := f) n1.1
  have d1n := numB_le (f := f) d1.1
  have n1dd := digB_le (f := f) n1d.1
  have n1dn := numB_le (f := f) n1d.1
  match w, hw with
  | 0, _ => exact ⟨n1dd.1, Nat.le_trans n1.2 (Nat.le_trans n1d.2 n1dd.2)⟩
  | 1, _ => exact ⟨d1n.1, Nat.le_trans d1.2 d1n.2⟩
  | 2, _ => exact ⟨n1dn.1, Nat.le_trans n1.2 (Nat.le_trans n1d.2 n1dn.2)⟩
  | 3, _ => exact ⟨n1d.1, Nat.le_trans n1.2 n1d.2⟩
  | 4, _ => exact n1
  | 5, _ => exact n1
  | 6, _ => exact ⟨h, Nat.le_refl _⟩
/-- the word that is most like the text at a place, of the first -/
def wdP (f : Nat → Int32) (sz u : Nat) : Nat → Nat
  | 0 => 0
  | j + 1 => if lkF f sz u (wdP f sz u j) < lkF f sz u (j + 1) then j + 1 else wdP f sz u j
theorem wdP_le {f : Nat → Int32} {sz u : Nat} : ∀ j, wdP f sz u j ≤ j := by
  intro j
  induction j with
  | zero => exact Nat.le_refl _
  | succ j ih => unfold wdP; split <;> omega
/-- a command read at a place: place and wrongness, how many commands, the commands -/
def cmdP (f : Nat → Int32) (sz k : Nat) (cm : Nat → Int32) (u : Nat) : (Nat × Bool) × Nat × (Nat → Int32) :=
  if lkF f sz u (wdP f sz u 6) < bgN (wdP f sz u 6 + 1) - bgN (wdP f sz u 6) then ((u + lkF f sz u (wdP f sz u 6), true), k, cm)
  else ((argP f sz (u + lkF f sz u (wdP f sz u 6), false) (4 * k + 1) (upd cm (4 * k) (nI (wdP f sz u 6))) (wdP f sz u 6)).1, k + 1, (argP f sz (u + lkF f sz u (wdP f sz u 6), false) (4 * k + 1) (upd cm (4 * k) (nI (wdP f sz u 6))) (wdP f sz u 6)).2)
def WdOk (S : MSt) : Prop := (∀ j, j < 8 → S 10 j = nI (bgN j)) ∧ ∀ j, j < 41 → S 9 j = nI (ltN j)
theorem gT_likeness : GoodIn gw (wsV RX10 245 RX10 yX10_likeness (Cond.code yX10_likeness cX10_likeness 4 (some .int) :: gw)) := gdV gw_2013 gw_2015 gw_53 gw_81 gw_2016
theorem hd_likeness : yX10_likeness.cls = RX10 ∧ yX10_likeness.cls ≠ "java/lang/invoke/MethodHandle" ∧ yX10_likeness.cls ≠ "java/lang/invoke/VarHandle" ∧ (parseMethodDescriptor yX10_likeness.desc).map (fun d => d.parameters.length) = some 1 := ⟨rfl, by decide +kernel, by decide +kernel, by decide +kernel⟩
theorem dX10_likeness_0 : decode cX10_likeness 0 = .ok (.iconst 0, 1) := by decide +kernel
theorem dX10_likeness_1 : decode cX10_likeness 1 = .ok (.istore_n 2, 1) := by decide +kernel
theorem dX10_likeness_2 : decode cX10_likeness 2 = .ok (.aload_n 0, 1) := by decide +kernel
theorem dX10_likeness_3 : decode cX10_likeness 3 = .ok (.getfield 48, 3) := by decide +kernel
theorem dX10_likeness_6 : decode cX10_likeness 6 = .ok (.iload_n 1, 1) := by decide +kernel
theorem dX10_likeness_7 : decode cX10_likeness 7 = .ok (.iconst 1, 1) := by decide +kernel
theorem dX10_likeness_8 : decode cX10_likeness 8 = .ok (.iadd, 1) := by decide +kernel
theorem dX10_likeness_9 : decode cX10_likeness 9 = .ok (.iaload, 1) := by decide +kernel
theorem dX10_likeness_10 : decode cX10_likeness 10 = .ok (.aload_n 0, 1) := by decide +kernel
theorem dX10_likeness_11 : decode cX10_likeness 11 = .ok (.getfield 48, 3) := by decide +kernel
theorem dX10_likeness_14 : decode cX10_likeness 14 = .ok (.iload_n 1, 1) := by decide +kernel
theorem dX10_likeness_15 : decode cX10_likeness 15 = .ok (.iaload, 1) := by decide +kernel
theorem dX10_likeness_16 : decode cX10_likeness 16 = .ok (.isub, 1) := by decide +kernel
theorem dX10_likeness_17 : decode cX10_likeness 17 = .ok (.istore_n 3, 1) := by decide +kernel
theorem dX10_likeness_18 : decode cX10_likeness 18 = .ok (.iload_n 2, 1) := by decide +kernel
theorem dX10_likeness_19 : decode cX10_likeness 19 = .ok (.iload_n 3, 1) := by decide +kernel
theorem dX10_likeness_20 : decode cX10_likeness 20 = .ok (.if_icmp .ge 49, 3) := by decide +kernel
theorem dX10_likeness_23 : decode cX10_likeness 23 = .ok (.aload_n 0, 1) := by decide +kernel
theorem dX10_likeness_24 : decode cX10_likeness 24 = .ok (.getfield 210, 3) := by decide +kernel
theorem dX10_likeness_27 : decode cX10_likeness 27 = .ok (.iload_n 2, 1) := by decide +kernel
theorem dX10_likeness_28 : decode cX10_likeness 28 = .ok (.iadd, 1) := by decide +kernel
theorem dX10_likeness_29 : decode cX10_likeness 29 = .ok (.aload_n 0, 1) := by decide +kernel
theorem dX10_likeness_30 : decode cX10_likeness 30 = .ok (.getfield 213, 3) := by decide +kernel
theorem dX10_likeness_33 : decode cX10_likeness 33 = .ok (.if_icmp .ge 36, 3) := by decide +kernel
theorem dX10_likeness_36 : decode cX10_likeness 36 = .ok (.aload_n 0, 1) := by decide +kernel
theorem dX10_likeness_37 : decode cX10_likeness 37 = .ok (.getfield 29, 3) := by decide +kernel
theorem dX10_likeness_40 : decode cX10_likeness 40 = .ok (.aload_n 0, 1) := by decide +kernel
theorem dX10_likeness_41 : decode cX10_likeness 41 = .ok (.getfield 210, 3) := by decide +kernel
theorem dX10_likeness_44 : decode cX10_likeness 44 = .ok (.iload_n 2, 1) := by decide +kernel
theorem dX10_likeness_45 : decode cX10_likeness 45 = .ok (.iadd, 1) := by decide +kernel
theorem dX10_likeness_46 : decode cX10_likeness 46 = .ok (.iaload, 1) := by decide +kernel
theorem dX10_likeness_47 : decode cX10_likeness 47 = .ok (.aload_n 0, 1) := by decide +kernel
theorem dX10_likeness_48 : decode cX10_likeness 48 = .ok (.getfield 44, 3) := by decide +kernel
theorem dX10_likeness_51 : decode cX10_likeness 51 = .ok (.aload_n 0, 1) := by decide +kernel
theorem dX10_likeness_52 : decode cX10_likeness 52 = .ok (.getfield 48, 3) := by decide +kernel
theorem dX10_likeness_55 : decode cX10_likeness 55 = .ok (.iload_n 1, 1) := by decide +kernel
theorem dX10_likeness_56 : decode cX10_likeness 56 = .ok (.iaload, 1) := by decide +kernel
theorem dX10_likeness_57 : decode cX10_likeness 57 = .ok (.iload_n 2, 1) := by decide +kernel
theorem dX10_likeness_58 : decode cX10_likeness 58 = .ok (.iadd, 1) := by decide +kernel
theorem dX10_likeness_59 : decode cX10_likeness 59 = .ok (.caload, 1) := by decide +kernel
theorem dX10_likeness_60 : decode cX10_likeness 60 = .ok (.if_icmp .ne 9, 3) := by decide +kernel
theorem dX10_likeness_63 : decode cX10_likeness 63 = .ok (.iinc 2 1, 3) := by decide +kernel
theorem dX10_likeness_66 : decode cX10_likeness 66 = .ok (.goto (-48), 3) := by decide +kernel
theorem dX10_likeness_69 : decode cX10_likeness 69 = .ok (.iload_n 2, 1) := by decide +kernel
theorem dX10_likeness_70 : decode cX10_likeness 70 = .ok (.ireturn, 1) := by decide +kernel
set_option maxHeartbeats 1000000 in
set_option maxRecDepth 20000 in
theorem m_likeness (l : Launch) (D : va_G) (aT : Nat → ClassId) (ad : Nat → Nat) (S : MSt) (u sz k : Nat) (wr : Bool) (cm : Nat → Int32) (hsz : S 13 22 = nI sz) (h60 : sz ≤ 60) (hp : u ≤ sz) (w : Nat) (hw7 : w < 7) (hwd : WdOk S) : MdG l yX10_likeness cX10_likeness 4 .int 0 0 D aT ad [.ref (ad 0), .int (nI w)] (psT S u wr k cm) (fun r => r = nI (lkF (S 4) sz u w)) := by
  refine MdI.of (by decide +kernel) rfl (Nat.le_of_ble_eq_true rfl) ?_
  intro p e s m below meth c A ls C hml hl hA hr hlocks hW
  have hl : lv_has ls 4 [(0, .ref (ad 0)), (1, .int (nI w))] := hl
  have hx := C.1
  have hb := C.2.1
  refine lv_iconst (v := nI 0) hx hb dX10_likeness_0 (by decide) ?_
  refine lv_istore_n (lv' := [(2, .int (nI 0)), (0, .ref (ad 0)), (1, .int (nI w))]) hx hb dX10_likeness_1 rfl hl (by decide) rfl (fun ls hl => ?_)
  refine lv_aload_n hx hb dX10_likeness_2 rfl (lv_at hl 1 rfl) ?_
  refine md_geta_begins0 C hW dX10_likeness_3 ?_
  refine lv_iload_n hx hb dX10_likeness_6 rfl (lv_at hl 2 rfl) ?_
  refine lv_iconst (v := nI 1) hx hb dX10_likeness_7 (by decide) ?_
  refine r_iaddN hx hb (a := w) (b := 1) dX10_likeness_8 ?_
  refine md_ald_begins0 C hW (i := w + 1) (by omega) dX10_likeness_9 ?_
  refine r_eq (y := (nI (bgN (w + 1)))) (hwd.1 _ (by omega)) ?_
  refine lv_aload_n hx hb dX10_likeness_10 rfl (lv_at hl 1 rfl) ?_
  refine md_geta_begins0 C hW dX10_likeness_11 ?_
  refine lv_iload_n hx hb dX10_likeness_14 rfl (lv_at hl 2 rfl) ?_
  refine md_ald_begins0 C hW (i := w) (by omega) dX10_likeness_15 ?_
  refine r_eq (y := (nI (bgN w))) (hwd.1 _ (by omega)) ?_
  refine r_isubN hx hb (a := (bgN (w + 1))) (b := (bgN w)) (by have := bgN_in w hw7; omega) dX10_likeness_16 ?_
  refine lv_istore_n (lv' := [(3, .int (nI ((bgN (w + 1)) - (bgN w)))), (2, .int (nI 0)), (0, .ref (ad 0)), (1, .int (nI w))]) hx hb dX10_likeness_17 rfl hl (by decide) rfl (fun ls hl => ?_)
  refine W_loopH (σ := Nat) (fun z_ => (bgN (w + 1) - bgN w) - z_) (fun z_ H locs g => ∃ ls, g = F0 m 18 ls [] ∧ lv_has ls 4 [(0, .ref (ad 0)), (1, .int (nI w)), (2, .int (nI z_)), (3, .int (nI (bgN (w + 1) - bgN w)))] ∧ MdB D aT ad (psT S u wr k cm) A s.heap H locs ∧ (lkA (S 4) sz u (bgN w) ((bgN (w + 1) - bgN w) - z_) z_ = lkF (S 4) sz u w ∧ z_ ≤ (bgN (w + 1) - bgN w))) ?_ 0 _ ⟨_, rfl, lv_sub hl [2, 3, 1, 0] rfl, hW, ⟨rfl, Nat.zero_le _⟩⟩
  clear hW hl
  rintro n H locs g ⟨ls, rfl, hl, hW, he, hn⟩ ih_18
  have hb5 := bgN_in w hw7
  refine lv_iload_n hx hb dX10_likeness_18 rfl (lv_at hl 2 rfl) ?_
  refine lv_iload_n hx hb dX10_likeness_19 rfl (lv_at hl 3 rfl) ?_
  refine r_geN hx hb (a := n) (b := (bgN (w + 1) - bgN w)) (by omega) (by omega) (tgt := 69) dX10_likeness_20 (by decide) (fun c_20 => ?_) (fun c_20 => ?_)
  · refine lv_iload_n hx hb dX10_likeness_69 rfl (lv_at hl 2 rfl) ?_
    exact md_iret C hr hlocks rfl hW (⟨by rw [← he, show (bgN (w + 1) - bgN w) - n = 0 by omega]; rfl, rfl⟩) dX10_likeness_70
  · refine lv_aload_n hx hb dX10_likeness_23 rfl (lv_at hl 0 rfl) ?_
    refine md_get_place0 C hW dX10_likeness_24 ?_
    refine r_eq (y := (nI u)) (rfl) ?_
    refine lv_iload_n hx hb dX10_likeness_27 rfl (lv_at hl 2 rfl) ?_
    refine r_iaddN hx hb (a := u) (b := n) dX10_likeness_28 ?_
    refine lv_aload_n hx hb dX10_likeness_29 rfl (lv_at hl 0 rfl) ?_
    refine md_get_size0 C hW dX10_likeness_30 ?_
    refine r_eq (y := (nI sz)) (hsz) ?_
    refine r_geN hx hb (a := u + n) (b := sz) (by omega) (by omega) (tgt := 69) dX10_likeness_33 (by decide) (fun c_33 => ?_) (fun c_33 => ?_)
    · refine lv_iload_n hx hb dX10_likeness_69 rfl (lv_at hl 2 rfl) ?_
      exact md_iret C hr hlocks rfl hW (⟨by rw [← he, show (bgN (w + 1) - bgN w) - n = ((bgN (w + 1) - bgN w) - n - 1) + 1 by omega, lkA, if_neg (fun z => by have := z.1; omega)], rfl⟩) dX10_likeness_70
    · refine lv_aload_n hx hb dX10_likeness_36 rfl (lv_at hl 0 rfl) ?_
      refine md_geta_input C hW dX10_likeness_37 ?_
      refine lv_aload_n hx hb dX10_likeness_40 rfl (lv_at hl 0 rfl) ?_
      refine md_get_place0 C hW dX10_likeness_41 ?_
      refine r_eq (y := (nI u)) (rfl) ?_
      refine lv_iload_n hx hb dX10_likeness_44 rfl (lv_at hl 2 rfl) ?_
      refine r_iaddN hx hb (a := u) (b := n) dX10_likeness_45 ?_
      refine md_ald_input C hW (i := u + n) (by omega) dX10_likeness_46 ?_
      refine r_eq (y := (S 4 (u + n))) (rfl) ?_
      refine lv_aload_n hx hb dX10_likeness_47 rfl (lv_at hl 0 rfl) ?_
      refine md_geta_letters C hW dX10_likeness_48 ?_
      refine lv_aload_n hx hb dX10_likeness_51 rfl (lv_at hl 0 rfl) ?_
      refine md_geta_begins0 C hW dX10_likeness_52 ?_
      refine lv_iload_n hx hb dX10_likeness_55 rfl (lv_at hl 1 rfl) ?_
      refine md_ald_begins0 C hW (i := w) (by omega) dX10_likeness_56 ?_
      refine r_eq (y := (nI (bgN w))) (hwd.1 _ (by omega)) ?_
      refine lv_iload_n hx hb dX10_likeness_57 rfl (lv_at hl 2 rfl) ?_
      refine r_iaddN hx hb (a := (bgN w)) (b := n) dX10_likeness_58 ?_
      refine md_ald_letters C hW (i := bgN w + n) (by omega) dX10_likeness_59 ?_
      refine r_eq (y := (nI (ltN (bgN w + n)))) (hwd.2 _ (by have := bgN_in w hw7; omega)) ?_
      refine lv_icmp_ne hx hb (x := (S 4 (u + n))) (y := (nI (ltN (bgN w + n)))) (tgt := 69) dX10_likeness_60 (by decide) (fun c_60 => ?_) (fun c_60 => ?_)
      · refine lv_iload_n hx hb dX10_likeness_69 rfl (lv_at hl 2 rfl) ?_
        exact md_iret C hr hlocks rfl hW (⟨by rw [← he, show (bgN (w + 1) - bgN w) - n = ((bgN (w + 1) - bgN w) - n - 1) + 1 by omega, lkA, if_neg (fun z => c_60 z.2)], rfl⟩) dX10_likeness_70
      · refine lv_iinc (v := (nI (n + 1))) (lv' := [(2, .int (nI (n + 1))), (0, .ref (ad 0)), (1, .int (nI w)), (3, .int (nI (bgN (w + 1) - bgN w)))]) hx hb dX10_likeness_63 hl (k := 2) rfl (nI_1 _) (by decide) rfl (fun ls hl => ?_)
        refine lv_goto (tgt := 18) hx hb dX10_likeness_66 (by decide) ?_
        exact ih_18 (n + 1) _ _ _ (by omega) ⟨_, rfl, lv_sub hl [1, 2, 0, 3] rfl, hW, ⟨by rw [← he, show (bgN (w + 1) - bgN w) - n = ((bgN (w + 1) - bgN w) - (n + 1)) + 1 by omega, lkA, if_pos ⟨by omega, c_60⟩], by omega⟩⟩
theorem gT_readArguments : GoodIn gw (wsV RX10 248 RX10 yX10_readArguments (Cond.code yX10_readArguments cX10_readArguments 3 (none) :: gw)) := gdV gw_2017 gw_2019 gw_54 gw_81 gw_2020
theorem hd_readArguments : yX10_readArguments.cls = RX10 ∧ yX10_readArguments.cls ≠ "java/lang/invoke/MethodHandle" ∧ yX10_readArguments.cls ≠ "java/lang/invoke/VarHandle" ∧ (parseMethodDescriptor yX10_readArguments.desc).map (fun d => d.parameters.length) = some 2 := ⟨rfl, by decide +kernel, by decide +kernel, by decide +kernel⟩
theorem dX10_readArguments_0 : decode cX10_readArguments 0 = .ok (.aload_n 0, 1) := by decide +kernel
theorem dX10_readArguments_1 : decode cX10_readArguments 1 = .ok (.getfield 51, 3) := by decide +kernel
theorem dX10_readArguments_4 : decode cX10_readArguments 4 = .ok (.iload_n 2, 1) := by decide +kernel
theorem dX10_readArguments_5 : decode cX10_readArguments 5 = .ok (.iload_n 1, 1) := by decide +kernel
theorem dX10_readArguments_6 : decode cX10_readArguments 6 = .ok (.bipush 6, 2) := by decide +kernel
theorem dX10_readArguments_8 : decode cX10_readArguments 8 = .ok (.if_icmp .ne 7, 3) := by decide +kernel
theorem dX10_readArguments_11 : decode cX10_readArguments 11 = .ok (.iconst 0, 1) := by decide +kernel
theorem dX10_readArguments_12 : decode cX10_readArguments 12 = .ok (.goto 19, 3) := by decide +kernel
theorem dX10_readArguments_15 : decode cX10_readArguments 15 = .ok (.iload_n 1, 1) := by decide +kernel
theorem dX10_readArguments_16 : decode cX10_readArguments 16 = .ok (.iconst 1, 1) := by decide +kernel
theorem dX10_readArguments_17 : decode cX10_readArguments 17 = .ok (.if_icmp .ne 10, 3) := by decide +kernel
theorem dX10_readArguments_20 : decode cX10_readArguments 20 = .ok (.aload_n 0, 1) := by decide +kernel
theorem dX10_readArguments_21 : decode cX10_readArguments 21 = .ok (.invokevirtual 227, 3) := by decide +kernel
theorem dX10_readArguments_24 : decode cX10_readArguments 24 = .ok (.goto 7, 3) := by decide +kernel
theorem dX10_readArguments_27 : decode cX10_readArguments 27 = .ok (.aload_n 0, 1) := by decide +kernel
theorem dX10_readArguments_28 : decode cX10_readArguments 28 = .ok (.invokevirtual 233, 3) := by decide +kernel
theorem dX10_readArguments_31 : decode cX10_readArguments 31 = .ok (.iastore, 1) := by decide +kernel
theorem dX10_readArguments_32 : decode cX10_readArguments 32 = .ok (.iload_n 1, 1) := by decide +kernel
theorem dX10_readArguments_33 : decode cX10_readArguments 33 = .ok (.tableswitch 115 0 3 #[31, 58, 73, 100], 31) := by decide +kernel
theorem dX10_readArguments_64 : decode cX10_readArguments 64 = .ok (.aload_n 0, 1) := by decide +kernel
theorem dX10_readArguments_65 : decode cX10_readArguments 65 = .ok (.getfield 51, 3) := by decide +kernel
theorem dX10_readArguments_68 : decode cX10_readArguments 68 = .ok (.iload_n 2, 1) := by decide +kernel
theorem dX10_readArguments_69 : decode cX10_readArguments 69 = .ok (.iconst 1, 1) := by decide +kernel
theorem dX10_readArguments_70 : decode cX10_readArguments 70 = .ok (.iadd, 1) := by decide +kernel
theorem dX10_readArguments_71 : decode cX10_readArguments 71 = .ok (.aload_n 0, 1) := by decide +kernel
theorem dX10_readArguments_72 : decode cX10_readArguments 72 = .ok (.invokevirtual 236, 3) := by decide +kernel
theorem dX10_readArguments_75 : decode cX10_readArguments 75 = .ok (.iastore, 1) := by decide +kernel
theorem dX10_readArguments_76 : decode cX10_readArguments 76 = .ok (.aload_n 0, 1) := by decide +kernel
theorem dX10_readArguments_77 : decode cX10_readArguments 77 = .ok (.getfield 51, 3) := by decide +kernel
theorem dX10_readArguments_80 : decode cX10_readArguments 80 = .ok (.iload_n 2, 1) := by decide +kernel
theorem dX10_readArguments_81 : decode cX10_readArguments 81 = .ok (.iconst 2, 1) := by decide +kernel
theorem dX10_readArguments_82 : decode cX10_readArguments 82 = .ok (.iadd, 1) := by decide +kernel
theorem dX10_readArguments_83 : decode cX10_readArguments 83 = .ok (.aload_n 0, 1) := by decide +kernel
theorem dX10_readArguments_84 : decode cX10_readArguments 84 = .ok (.invokevirtual 236, 3) := by decide +kernel
theorem dX10_readArguments_87 : decode cX10_readArguments 87 = .ok (.iastore, 1) := by decide +kernel
theorem dX10_readArguments_88 : decode cX10_readArguments 88 = .ok (.goto 60, 3) := by decide +kernel
theorem dX10_readArguments_91 : decode cX10_readArguments 91 = .ok (.aload_n 0, 1) := by decide +kernel
theorem dX10_readArguments_92 : decode cX10_readArguments 92 = .ok (.getfield 51, 3) := by decide +kernel
theorem dX10_readArguments_95 : decode cX10_readArguments 95 = .ok (.iload_n 2, 1) := by decide +kernel
theorem dX10_readArguments_96 : decode cX10_readArguments 96 = .ok (.iconst 1, 1) := by decide +kernel
theorem dX10_readArguments_97 : decode cX10_readArguments 97 = .ok (.iadd, 1) := by decide +kernel
theorem dX10_readArguments_98 : decode cX10_readArguments 98 = .ok (.aload_n 0, 1) := by decide +kernel
theorem dX10_readArguments_99 : decode cX10_readArguments 99 = .ok (.invokevirtual 239, 3) := by decide +kernel
theorem dX10_readArguments_102 : decode cX10_readArguments 102 = .ok (.iastore, 1) := by decide +kernel
theorem dX10_readArguments_103 : decode cX10_readArguments 103 = .ok (.goto 45, 3) := by decide +kernel
theorem dX10_readArguments_106 : decode cX10_readArguments 106 = .ok (.aload_n 0, 1) := by decide +kernel
theorem dX10_readArguments_107 : decode cX10_readArguments 107 = .ok (.getfield 51, 3) := by decide +kernel
theorem dX10_readArguments_110 : decode cX10_readArguments 110 = .ok (.iload_n 2, 1) := by decide +kernel
theorem dX10_readArguments_111 : decode cX10_readArguments 111 = .ok (.iconst 1, 1) := by decide +kernel
theorem dX10_readArguments_112 : decode cX10_readArguments 112 = .ok (.iadd, 1) := by decide +kernel
theorem dX10_readArguments_113 : decode cX10_readArguments 113 = .ok (.aload_n 0, 1) := by decide +kernel
theorem dX10_readArguments_114 : decode cX10_readArguments 114 = .ok (.invokevirtual 236, 3) := by decide +kernel
theorem dX10_readArguments_117 : decode cX10_readArguments 117 = .ok (.iastore, 1) := by decide +kernel
theorem dX10_readArguments_118 : decode cX10_readArguments 118 = .ok (.aload_n 0, 1) := by decide +kernel
theorem dX10_readArguments_119 : decode cX10_readArguments 119 = .ok (.getfield 51, 3) := by decide +kernel
theorem dX10_readArguments_122 : decode cX10_readArguments 122 = .ok (.iload_n 2, 1) := by decide +kernel
theorem dX10_readArguments_123 : decode cX10_readArguments 123 = .ok (.iconst 2, 1) := by decide +kernel
theorem dX10_readArguments_124 : decode cX10_readArguments 124 = .ok (.iadd, 1) := by decide +kernel
theorem dX10_readArguments_125 : decode cX10_readArguments 125 = .ok (.aload_n 0, 1) := by decide +kernel
theorem dX10_readArguments_126 : decode cX10_readArguments 126 = .ok (.invokevirtual 239, 3) := by decide +kernel
theorem dX10_readArguments_129 : decode cX10_readArguments 129 = .ok (.iastore, 1) := by decide +kernel
theorem dX10_readArguments_130 : decode cX10_readArguments 130 = .ok (.goto 18, 3) := by decide +kernel
theorem dX10_readArguments_133 : decode cX10_readArguments 133 = .ok (.aload_n 0, 1) := by decide +kernel
theorem dX10_readArguments_134 : decode cX10_readArguments 134 = .ok (.getfield 51, 3) := by decide +kernel
theorem dX10_readArguments_137 : decode cX10_readArguments 137 = .ok (.iload_n 2, 1) := by decide +kernel
theorem dX10_readArguments_138 : decode cX10_readArguments 138 = .ok (.iconst 1, 1) := by decide +kernel
theorem dX10_readArguments_139 : decode cX10_readArguments 139 = .ok (.iadd, 1) := by decide +kernel
theorem dX10_readArguments_140 : decode cX10_readArguments 140 = .ok (.aload_n 0, 1) := by decide +kernel
theorem dX10_readArguments_141 : decode cX10_readArguments 141 = .ok (.invokevirtual 236, 3) := by decide +kernel
theorem dX10_readArguments_144 : decode cX10_readArguments 144 = .ok (.iastore, 1) := by decide +kernel
theorem dX10_readArguments_145 : decode cX10_readArguments 145 = .ok (.goto 3, 3) := by decide +kernel
theorem dX10_readArguments_148 : decode cX10_readArguments 148 = .ok (.return_, 1) := by decide +kernel
set_option maxHeartbeats 2000000 in
set_option maxRecDepth 20000 in
theorem m_readArguments (l : Launch) (D : va_G) (aT : Nat → ClassId) (ad : Nat → Nat) (S : MSt) (u sz k : Nat) (wr : Bool) (cm : Nat → Int32) (hsz : S 13 22 = nI sz) (h60 : sz ≤ 60) (hp : u ≤ sz) (t : Nat) (ht : t + 2 < 244) : MdV l yX10_readArguments cX10_readArguments 3 4 87 D aT ad [.ref (ad 0), .int (nI 0), .int (nI t)] (psT S u wr k cm) (fun S1 => S1 = psT S (argP (S 4) sz (u, wr) t cm 0).1.1 (argP (S 4) sz (u, wr) t cm 0).1.2 k (argP (S 4) sz (u, wr) t cm 0).2) := by
  refine MdV.of (by decide +kernel) rfl (Nat.le_of_ble_eq_true rfl) ?_
  intro p e s m below meth c A ls C hml hl hA hr hlocks hW
  have hl : lv_has ls 3 [(0, .ref (ad 0)), (1, .int (nI 0)), (2, .int (nI t))] := hl
  have hx := C.1
  have hb := C.2.1
  refine lv_aload_n hx hb dX10_readArguments_0 rfl (lv_at hl 0 rfl) ?_
  refine md_geta_commands C hW dX10_readArguments_1 ?_
  refine lv_iload_n hx hb dX10_readArguments_4 rfl (lv_at hl 2 rfl) ?_
  refine lv_iload_n hx hb dX10_readArguments_5 rfl (lv_at hl 1 rfl) ?_
  refine lv_bipush (v := nI 6) hx hb dX10_readArguments_6 (by decide) ?_
  refine r_neN hx hb (a := 0) (b := 6) (by omega) (by omega) (tgt := 15) dX10_readArguments_8 (by decide) (fun c_8 => ?_) (fun c_8 => ?_)
  · refine lv_iload_n hx hb dX10_readArguments_15 rfl (lv_at hl 1 rfl) ?_
    refine lv_iconst (v := nI 1) hx hb dX10_readArguments_16 (by decide) ?_
    refine r_neN hx hb (a := 0) (b := 1) (by omega) (by omega) (tgt := 27) dX10_readArguments_17 (by decide) (fun c_17 => ?_) (fun c_17 => ?_)
    · refine lv_aload_n hx hb dX10_readArguments_27 rfl (lv_at hl 0 rfl) ?_
      refine md_calli C hml hl.1 (As := []) (rest := [.int (nI t), .ref (ad 12)]) (m_number l D aT ad S u sz k wr cm hsz h60 (hp)) gT_number hd_number rfl ⟨Nat.le_of_ble_eq_true rfl, Nat.le_of_ble_eq_true rfl⟩ ⟨Nat.le_refl _, Nat.le_refl _⟩ hW hA rfl (Nat.le_of_ble_eq_true rfl) dX10_readArguments_28 (fun r_28 S_28 H locs hq hW => ?_)
      obtain ⟨rfl, rfl⟩ := hq
      refine md_ast_commands C hW (i := t) (by omega) dX10_readArguments_31 (fun H locs hW => ?_)
      have hW : MdB D aT ad (psT S ((numP (S 4) sz (u, wr)).2.1) ((numP (S 4) sz (u, wr)).2.2) k (upd cm t (((numP (S 4) sz (u, wr)).1)))) A s.heap H locs := by rw [← psT_c S ((numP (S 4) sz (u, wr)).2.1) ((numP (S 4) sz (u, wr)).2.2) k cm (upd cm t (((numP (S 4) sz (u, wr)).1)))]; exact hW
      refine lv_iload_n hx hb dX10_readArguments_32 rfl (lv_at hl 1 rfl) ?_
      refine lv_tableIn (x := nI 0) (off := 31) (tgt := 64) hx hb dX10_readArguments_33 (by decide) (by decide) (by decide) (by decide) ?_
      refine lv_aload_n hx hb dX10_readArguments_64 rfl (lv_at hl 0 rfl) ?_
      refine md_geta_commands C hW dX10_readArguments_65 ?_
      refine lv_iload_n hx hb dX10_readArguments_68 rfl (lv_at hl 2 rfl) ?_
      refine lv_iconst (v := nI 1) hx hb dX10_readArguments_69 (by decide) ?_
      refine r_iaddN hx hb (a := t) (b := 1) dX10_readArguments_70 ?_
      refine lv_aload_n hx hb dX10_readArguments_71 rfl (lv_at hl 0 rfl) ?_
      refine md_calli C hml hl.1 (As := []) (rest := [.int (nI (t + 1)), .ref (ad 12)]) (m_digitBehind l D aT ad S ((numP (S 4) sz (u, wr)).2.1) sz k ((numP (S 4) sz (u, wr)).2.2) (upd cm t (((numP (S 4) sz (u, wr)).1))) hsz h60 ((numP_le hp).1)) gT_digitBehind hd_digitBehind rfl ⟨Nat.le_of_ble_eq_true rfl, Nat.le_of_ble_eq_true rfl⟩ ⟨Nat.le_refl _, Nat.le_refl _⟩ hW hA rfl (Nat.le_of_ble_eq_true rfl) dX10_readArguments_72 (fun r_72 S_72 H locs hq hW => ?_)
      obtain ⟨rfl, rfl⟩ := hq
      refine md_ast_commands C hW (i := t + 1) (by omega) dX10_readArguments_75 (fun H locs hW => ?_)
      have hW : MdB D aT ad (psT S ((digB (S 4) sz ((numP (S 4) sz (u, wr)).2.1, (numP (S 4) sz (u, wr)).2.2)).2.1) ((digB (S 4) sz ((numP (S 4) sz (u, wr)).2.1, (numP (S 4) sz (u, wr)).2.2)).2.2) k (upd (upd cm t (((numP (S 4) sz (u, wr)).1))) (t + 1) (((digB (S 4) sz ((numP (S 4) sz (u, wr)).2.1, (numP (S 4) sz (u, wr)).2.2)).1)))) A s.heap H locs := by rw [← psT_c S ((digB (S 4) sz ((numP (S 4) sz (u, wr)).2.1, (numP (S 4) sz (u, wr)).2.2)).2.1) ((digB (S 4) sz ((numP (S 4) sz (u, wr)).2.1, (numP (S 4) sz (u, wr)).2.2)).2.2) k (upd cm t (((numP (S 4) sz (u, wr)).1))) (upd (upd cm t (((numP (S 4) sz (u, wr)).1))) (t + 1) (((digB (S 4) sz ((numP (S 4) sz (u, wr)).2.1, (numP (S 4) sz (u, wr)).2.2)).1)))]; exact hW
      refine lv_aload_n hx hb dX10_readArguments_76 rfl (lv_at hl 0 rfl) ?_
      refine md_geta_commands C hW dX10_readArguments_77 ?_
      refine lv_iload_n hx hb dX10_readArguments_80 rfl (lv_at hl 2 rfl) ?_
      refine lv_iconst (v := nI 2) hx hb dX10_readArguments_81 (by decide) ?_
      refine r_iaddN hx hb (a := t) (b := 2) dX10_readArguments_82 ?_
      refine lv_aload_n hx hb dX10_readArguments_83 rfl (lv_at hl 0 rfl) ?_
      refine md_calli C hml hl.1 (As := []) (rest := [.int (nI (t + 2)), .ref (ad 12)]) (m_digitBehind l D aT ad S ((digB (S 4) sz ((numP (S 4) sz (u, wr)).2.1, (numP (S 4) sz (u, wr)).2.2)).2.1) sz k ((digB (S 4) sz ((numP (S 4) sz (u, wr)).2.1, (numP (S 4) sz (u, wr)).2.2)).2.2) (upd (upd cm t (((numP (S 4) sz (u, wr)).1))) (t + 1) (((digB (S 4) sz ((numP (S 4) sz (u, wr)).2.1, (numP (S 4) sz (u, wr)).2.2)).1))) hsz h60 ((digB_le ((numP_le hp).1)).1)) gT_digitBehind hd_digitBehind rfl ⟨Nat.le_of_ble_eq_true rfl, Nat.le_of_ble_eq_true rfl⟩ ⟨Nat.le_refl _, Nat.le_refl _⟩ hW hA rfl (Nat.le_of_ble_eq_true rfl) dX10_readArguments_84 (fun r_84 S_84 H locs hq hW => ?_)
      obtain ⟨rfl, rfl⟩ := hq
      refine md_ast_commands C hW (i := t + 2) (by omega) dX10_readArguments_87 (fun H locs hW => ?_)
      have hW : MdB D aT ad (psT S ((digB (S 4) sz ((digB (S 4) sz ((numP (S 4) sz (u, wr)).2.1, (numP (S 4) sz (u, wr)).2.2)).2.1, (digB (S 4) sz ((numP (S 4) sz (u, wr)).2.1, (numP (S 4) sz (u, wr)).2.2)).2.2)).2.1) ((digB (S 4) sz ((digB (S 4) sz ((numP (S 4) sz (u, wr)).2.1, (numP (S 4) sz (u, wr)).2.2)).2.1, (digB (S 4) sz ((numP (S 4) sz (u, wr)).2.1, (numP (S 4) sz (u, wr)).2.2)).2.2)).2.2) k (upd (upd (upd cm t (((numP (S 4) sz (u, wr)).1))) (t + 1) (((digB (S 4) sz ((numP (S 4) sz (u, wr)).2.1, (numP (S 4) sz (u, wr)).2.2)).1))) (t + 2) (((digB (S 4) sz ((digB (S 4) sz ((numP (S 4) sz (u, wr)).2.1, (numP (S 4) sz (u, wr)).2.2)).2.1, (digB (S 4) sz ((numP (S 4) sz (u, wr)).2.1, (numP (S 4) sz (u, wr)).2.2)).2.2)).1)))) A s.heap H locs := by rw [← psT_c S ((digB (S 4) sz ((digB (S 4) sz ((numP (S 4) sz (u, wr)).2.1, (numP (S 4) sz (u, wr)).2.2)).2.1, (digB (S 4) sz ((numP (S 4) sz (u, wr)).2.1, (numP (S 4) sz (u, wr)).2.2)).2.2)).2.1) ((digB (S 4) sz ((digB (S 4) sz ((numP (S 4) sz (u, wr)).2.1, (numP (S 4) sz (u, wr)).2.2)).2.1, (digB (S 4) sz ((numP (S 4) sz (u, wr)).2.1, (numP (S 4) sz (u, wr)).2.2)).2.2)).2.2) k (upd (upd cm t (((numP (S 4) sz (u, wr)).1))) (t + 1) (((digB (S 4) sz ((numP (S 4) sz (u, wr)).2.1, (numP (S 4) sz (u, wr)).2.2)).1))) (upd (upd (upd cm t (((numP (S 4) sz (u, wr)).1))) (t + 1) (((digB (S 4) sz ((numP (S 4) sz (u, wr)).2.1, (numP (S 4) sz (u, wr)).2.2)).1))) (t + 2) (((digB (S 4) sz ((digB (S 4) sz ((numP (S 4) sz (u, wr)).2.1, (numP (S 4) sz (u, wr)).2.2)).2.1, (digB (S 4) sz ((numP (S 4) sz (u, wr)).2.1, (numP (S 4) sz (u, wr)).2.2)).2.2)).1)))]; exact hW
      refine lv_goto (tgt := 148) hx hb dX10_readArguments_88 (by decide) ?_
      exact md_vret C hr hlocks hW (rfl) dX10_readArguments_148
    · exact absurd c_17 (by decide)
  · exact absurd c_8 (by decide)
set_option maxHeartbeats 2000000 in
set_option maxRecDepth 20000 in
theorem m_readArguments_1 (l : Launch) (D : va_G) (aT : Nat → ClassId) (ad : Nat → Nat) (S : MSt) (u sz k : Nat) (wr : Bool) (cm : Nat → Int32) (hsz : S 13 22 = nI sz) (h60 : sz ≤ 60) (hp : u ≤ sz) (t : Nat) (ht : t + 2 < 244) : MdV l yX10_readArguments cX10_readArguments 3 4 87 D aT ad [.ref (ad 0), .int (nI 1), .int (nI t)] (psT S u wr k cm) (fun S1 => S1 = psT S (argP (S 4) sz (u, wr) t cm 1).1.1 (argP (S 4) sz (u, wr) t cm 1).1.2 k (argP (S 4) sz (u, wr) t cm 1).2) := by
  refine MdV.of (by decide +kernel) rfl (Nat.le_of_ble_eq_true rfl) ?_
  intro p e s m below meth c A ls C hml hl hA hr hlocks hW
  have hl : lv_has ls 3 [(0, .ref (ad 0)), (1, .int (nI 1)), (2, .int (nI t))] := hl
  have hx := C.1
  have hb := C.2.1
  refine lv_aload_n hx hb dX10_readArguments_0 rfl (lv_at hl 0 rfl) ?_
  refine md_geta_commands C hW dX10_readArguments_1 ?_
  refine lv_iload_n hx hb dX10_readArguments_4 rfl (lv_at hl 2 rfl) ?_
  refine lv_iload_n hx hb dX10_readArguments_5 rfl (lv_at hl 1 rfl) ?_
  refine lv_bipush (v := nI 6) hx hb dX10_readArguments_6 (by decide) ?_
  refine r_neN hx hb (a := 1) (b := 6) (by omega) (by omega) (tgt := 15) dX10_readArguments_8 (by decide) (fun c_8 => ?_) (fun c_8 => ?_)
  · refine lv_iload_n hx hb dX10_readArguments_15 rfl (lv_at hl 1 rfl) ?_
    refine lv_iconst (v := nI 1) hx hb dX10_readArguments_16 (by decide) ?_
    refine r_neN hx hb (a := 1) (b := 1) (by omega) (by omega) (tgt := 27) dX10_readArguments_17 (by decide) (fun c_17 => ?_) (fun c_17 => ?_)
    · exact absurd c_17 (by decide)
    · refine lv_aload_n hx hb dX10_readArguments_20 rfl (lv_at hl 0 rfl) ?_
      refine md_calli C hml hl.1 (As := []) (rest := [.int (nI t), .ref (ad 12)]) (m_digit l D aT ad S u sz k wr cm hsz h60 (hp)) gT_digit hd_digit rfl ⟨Nat.le_of_ble_eq_true rfl, Nat.le_of_ble_eq_true rfl⟩ ⟨Nat.le_refl _, Nat.le_refl _⟩ hW hA rfl (Nat.le_of_ble_eq_true rfl) dX10_readArguments_21 (fun r_21 S_21 H locs hq hW => ?_)
      obtain ⟨rfl, rfl⟩ := hq
      refine lv_goto (tgt := 31) hx hb dX10_readArguments_24 (by decide) ?_
      refine md_ast_commands C hW (i := t) (by omega) dX10_readArguments_31 (fun H locs hW => ?_)
      have hW : MdB D aT ad (psT S ((digP (S 4) sz (u, wr)).2.1) ((digP (S 4) sz (u, wr)).2.2) k (upd cm t (((digP (S 4) sz (u, wr)).1)))) A s.heap H locs := by rw [← psT_c S ((digP (S 4) sz (u, wr)).2.1) ((digP (S 4) sz (u, wr)).2.2) k cm (upd cm t (((digP (S 4) sz (u, wr)).1)))]; exact hW
      refine lv_iload_n hx hb dX10_readArguments_32 rfl (lv_at hl 1 rfl) ?_
      refine lv_tableIn (x := nI 1) (off := 58) (tgt := 91) hx hb dX10_readArguments_33 (by decide) (by decide) (by decide) (by decide) ?_
      refine lv_aload_n hx hb dX10_readArguments_91 rfl (lv_at hl 0 rfl) ?_
      refine md_geta_commands C hW dX10_readArguments_92 ?_
      refine lv_iload_n hx hb dX10_readArguments_95 rfl (lv_at hl 2 rfl) ?_
      refine lv_iconst (v := nI 1) hx hb dX10_readArguments_96 (by decide) ?_
      refine r_iaddN hx hb (a := t) (b := 1) dX10_readArguments_97 ?_
      refine lv_aload_n hx hb dX10_readArguments_98 rfl (lv_at hl 0 rfl) ?_
      refine md_calli C hml hl.1 (As := []) (rest := [.int (nI (t + 1)), .ref (ad 12)]) (m_numberBehind l D aT ad S ((digP (S 4) sz (u, wr)).2.1) sz k ((digP (S 4) sz (u, wr)).2.2) (upd cm t (((digP (S 4) sz (u, wr)).1))) hsz h60 ((digP_le hp).1)) gT_numberBehind hd_numberBehind rfl ⟨Nat.le_of_ble_eq_true rfl, Nat.le_of_ble_eq_true rfl⟩ ⟨Nat.le_refl _, Nat.le_refl _⟩ hW hA rfl (Nat.le_of_ble_eq_true rfl) dX10_readArguments_99 (fun r_99 S_99 H locs hq hW => ?_)
      obtain ⟨rfl, rfl⟩ := hq
      refine md_ast_commands C hW (i := t + 1) (by omega) dX10_readArguments_102 (fun H locs hW => ?_)
      have hW : MdB D aT ad (psT S ((numB (S 4) sz ((digP (S 4) sz (u, wr)).2.1, (digP (S 4) sz (u, wr)).2.2)).2.1) ((numB (S 4) sz ((digP (S 4) sz (u, wr)).2.1, (digP (S 4) sz (u, wr)).2.2)).2.2) k (upd (upd cm t (((digP (S 4) sz (u, wr)).1))) (t + 1) (((numB (S 4) sz ((digP (S 4) sz (u, wr)).2.1, (digP (S 4) sz (u, wr)).2.2)).1)))) A s.heap H locs := by rw [← psT_c S ((numB (S 4) sz ((digP (S 4) sz (u, wr)).2.1, (digP (S 4) sz (u, wr)).2.2)).2.1) ((numB (S 4) sz ((digP (S 4) sz (u, wr)).2.1, (digP (S 4) sz (u, wr)).2.2)).2.2) k (upd cm t (((digP (S 4) sz (u, wr)).1))) (upd (upd cm t (((digP (S 4) sz (u, wr)).1))) (t + 1) (((numB (S 4) sz ((digP (S 4) sz (u, wr)).2.1, (digP (S 4) sz (u, wr)).2.2)).1)))]; exact hW
      refine lv_goto (tgt := 148) hx hb dX10_readArguments_103 (by decide) ?_
      exact md_vret C hr hlocks hW (rfl) dX10_readArguments_148
  · exact absurd c_8 (by decide)
set_option maxHeartbeats 2000000 in
set_option maxRecDepth 20000 in
theorem m_readArguments_2 (l : Launch) (D : va_G) (aT : Nat → ClassId) (ad : Nat → Nat) (S : MSt) (u sz k : Nat) (wr : Bool) (cm : Nat → Int32) (hsz : S 13 22 = nI sz) (h60 : sz ≤ 60) (hp : u ≤ sz) (t : Nat) (ht : t + 2 < 244) : MdV l yX10_readArguments cX10_readArguments 3 4 87 D aT ad [.ref (ad 0), .int (nI 2), .int (nI t)] (psT S u wr k cm) (fun S1 => S1 = psT S (argP (S 4) sz (u, wr) t cm 2).1.1 (argP (S 4) sz (u, wr) t cm 2).1.2 k (argP (S 4) sz (u, wr) t cm 2).2) := by
  refine MdV.of (by decide +kernel) rfl (Nat.le_of_ble_eq_true rfl) ?_
  intro p e s m below meth c A ls C hml hl hA hr hlocks hW
  have hl : lv_has ls 3 [(0, .ref (ad 0)), (1, .int (nI 2)), (2, .int (nI t))] := hl
  have hx := C.1
  have hb := C.2.1
  refine lv_aload_n hx hb dX10_readArguments_0 rfl (lv_at hl 0 rfl) ?_
  refine md_geta_commands C hW dX10_readArguments_1 ?_
  refine lv_iload_n hx hb dX10_readArguments_4 rfl (lv_at hl 2 rfl) ?_
  refine lv_iload_n hx hb dX10_readArguments_5 rfl (lv_at hl 1 rfl) ?_
  refine lv_bipush (v := nI 6) hx hb dX10_readArguments_6 (by decide) ?_
  refine r_neN hx hb (a := 2) (b := 6) (by omega) (by omega) (tgt := 15) dX10_readArguments_8 (by decide) (fun c_8 => ?_) (fun c_8 => ?_)
  · refine lv_iload_n hx hb dX10_readArguments_15 rfl (lv_at hl 1 rfl) ?_
    refine lv_iconst (v := nI 1) hx hb dX10_readArguments_16 (by decide) ?_
    refine r_neN hx hb (a := 2) (b := 1) (by omega) (by omega) (tgt := 27) dX10_readArguments_17 (by decide) (fun c_17 => ?_) (fun c_17 => ?_)
    · refine lv_aload_n hx hb dX10_readArguments_27 rfl (lv_at hl 0 rfl) ?_
      refine md_calli C hml hl.1 (As := []) (rest := [.int (nI t), .ref (ad 12)]) (m_number l D aT ad S u sz k wr cm hsz h60 (hp)) gT_number hd_number rfl ⟨Nat.le_of_ble_eq_true rfl, Nat.le_of_ble_eq_true rfl⟩ ⟨Nat.le_refl _, Nat.le_refl _⟩ hW hA rfl (Nat.le_of_ble_eq_true rfl) dX10_readArguments_28 (fun r_28 S_28 H locs hq hW => ?_)
      obtain ⟨rfl, rfl⟩ := hq
      refine md_ast_commands C hW (i := t) (by omega) dX10_readArguments_31 (fun H locs hW => ?_)
      have hW : MdB D aT ad (psT S ((numP (S 4) sz (u, wr)).2.1) ((numP (S 4) sz (u, wr)).2.2) k (upd cm t (((numP (S 4) sz (u, wr)).1)))) A s.heap H locs := by rw [← psT_c S ((numP (S 4) sz (u, wr)).2.1) ((numP (S 4) sz (u, wr)).2.2) k cm (upd cm t (((numP (S 4) sz (u, wr)).1)))]; exact hW
      refine lv_iload_n hx hb dX10_readArguments_32 rfl (lv_at hl 1 rfl) ?_
      refine lv_tableIn (x := nI 2) (off := 73) (tgt := 106) hx hb dX10_readArguments_33 (by decide) (by decide) (by decide) (by decide) ?_
      refine lv_aload_n hx hb dX10_readArguments_106 rfl (lv_at hl 0 rfl) ?_
      refine md_geta_commands C hW dX10_readArguments_107 ?_
      refine lv_iload_n hx hb dX10_readArguments_110 rfl (lv_at hl 2 rfl) ?_
      refine lv_iconst (v := nI 1) hx hb dX10_readArguments_111 (by decide) ?_
      refine r_iaddN hx hb (a := t) (b := 1) dX10_readArguments_112 ?_
      refine lv_aload_n hx hb dX10_readArguments_113 rfl (lv_at hl 0 rfl) ?_
      refine md_calli C hml hl.1 (As := []) (rest := [.int (nI (t + 1)), .ref (ad 12)]) (m_digitBehind l D aT ad S ((numP (S 4) sz (u, wr)).2.1) sz k ((numP (S 4) sz (u, wr)).2.2) (upd cm t (((numP (S 4) sz (u, wr)).1))) hsz h60 ((numP_le hp).1)) gT_digitBehind hd_digitBehind rfl ⟨Nat.le_of_ble_eq_true rfl, Nat.le_of_ble_eq_true rfl⟩ ⟨Nat.le_refl _, Nat.le_refl _⟩ hW hA rfl (Nat.le_of_ble_eq_true rfl) dX10_readArguments_114 (fun r_114 S_114 H locs hq hW => ?_)
      obtain ⟨rfl, rfl⟩ := hq
      refine md_ast_commands C hW (i := t + 1) (by omega) dX10_readArguments_117 (fun H locs hW => ?_)
      have hW : MdB D aT ad (psT S ((digB (S 4) sz ((numP (S 4) sz (u, wr)).2.1, (numP (S 4) sz (u, wr)).2.2)).2.1) ((digB (S 4) sz ((numP (S 4) sz (u, wr)).2.1, (numP (S 4) sz (u, wr)).2.2)).2.2) k (upd (upd cm t (((numP (S 4) sz (u, wr)).1))) (t + 1) (((digB (S 4) sz ((numP (S 4) sz (u, wr)).2.1, (numP (S 4) sz (u, wr)).2.2)).1)))) A s.heap H locs := by rw [← psT_c S ((digB (S 4) sz ((numP (S 4) sz (u, wr)).2.1, (numP (S 4) sz (u, wr)).2.2)).2.1) ((digB (S 4) sz ((numP (S 4) sz (u, wr)).2.1, (numP (S 4) sz (u, wr)).2.2)).2.2) k (upd cm t (((numP (S 4) sz (u, wr)).1))) (upd (upd cm t (((numP (S 4) sz (u, wr)).1))) (t + 1) (((digB (S 4) sz ((numP (S 4) sz (u, wr)).2.1, (numP (S 4) sz (u, wr)).2.2)).1)))]; exact hW
      refine lv_aload_n hx hb dX10_readArguments_118 rfl (lv_at hl 0 rfl) ?_
      refine md_geta_commands C hW dX10_readArguments_119 ?_
      refine lv_iload_n hx hb dX10_readArguments_122 rfl (lv_at hl 2 rfl) ?_
      refine lv_iconst (v := nI 2) hx hb dX10_readArguments_123 (by decide) ?_
      refine r_iaddN hx hb (a := t) (b := 2) dX10_readArguments_124 ?_
      refine lv_aload_n hx hb dX10_readArguments_125 rfl (lv_at hl 0 rfl) ?_
      refine md_calli C hml hl.1 (As := []) (rest := [.int (nI (t + 2)), .ref (ad 12)]) (m_numberBehind l D aT ad S ((digB (S 4) sz ((numP (S 4) sz (u, wr)).2.1, (numP (S 4) sz (u, wr)).2.2)).2.1) sz k ((digB (S 4) sz ((numP (S 4) sz (u, wr)).2.1, (numP (S 4) sz (u, wr)).2.2)).2.2) (upd (upd cm t (((numP (S 4) sz (u, wr)).1))) (t + 1) (((digB (S 4) sz ((numP (S 4) sz (u, wr)).2.1, (numP (S 4) sz (u, wr)).2.2)).1))) hsz h60 ((digB_le ((numP_le hp).1)).1)) gT_numberBehind hd_numberBehind rfl ⟨Nat.le_of_ble_eq_true rfl, Nat.le_of_ble_eq_true rfl⟩ ⟨Nat.le_refl _, Nat.le_refl _⟩ hW hA rfl (Nat.le_of_ble_eq_true rfl) dX10_readArguments_126 (fun r_126 S_126 H locs hq hW => ?_)
      obtain ⟨rfl, rfl⟩ := hq
      refine md_ast_commands C hW (i := t + 2) (by omega) dX10_readArguments_129 (fun H locs hW => ?_)
      have hW : MdB D aT ad (psT S ((numB (S 4) sz ((digB (S 4) sz ((numP (S 4) sz (u, wr)).2.1, (numP (S 4) sz (u, wr)).2.2)).2.1, (digB (S 4) sz ((numP (S 4) sz (u, wr)).2.1, (numP (S 4) sz (u, wr)).2.2)).2.2)).2.1) ((numB (S 4) sz ((digB (S 4) sz ((numP (S 4) sz (u, wr)).2.1, (numP (S 4) sz (u, wr)).2.2)).2.1, (digB (S 4) sz ((numP (S 4) sz (u, wr)).2.1, (numP (S 4) sz (u, wr)).2.2)).2.2)).2.2) k (upd (upd (upd cm t (((numP (S 4) sz (u, wr)).1))) (t + 1) (((digB (S 4) sz ((numP (S 4) sz (u, wr)).2.1, (numP (S 4) sz (u, wr)).2.2)).1))) (t + 2) (((numB (S 4) sz ((digB (S 4) sz ((numP (S 4) sz (u, wr)).2.1, (numP (S 4) sz (u, wr)).2.2)).2.1, (digB (S 4) sz ((numP (S 4) sz (u, wr)).2.1, (numP (S 4) sz (u, wr)).2.2)).2.2)).1)))) A s.heap H locs := by rw [← psT_c S ((numB (S 4) sz ((digB (S 4) sz ((numP (S 4) sz (u, wr)).2.1, (numP (S 4) sz (u, wr)).2.2)).2.1, (digB (S 4) sz ((numP (S 4) sz (u, wr)).2.1, (numP (S 4) sz (u, wr)).2.2)).2.2)).2.1) ((numB (S 4) sz ((digB (S 4) sz ((numP (S 4) sz (u, wr)).2.1, (numP (S 4) sz (u, wr)).2.2)).2.1, (digB (S 4) sz ((numP (S 4) sz (u, wr)).2.1, (numP (S 4) sz (u, wr)).2.2)).2.2)).2.2) k (upd (upd cm t (((numP (S 4) sz (u, wr)).1))) (t + 1) (((digB (S 4) sz ((numP (S 4) sz (u, wr)).2.1, (numP (S 4) sz (u, wr)).2.2)).1))) (upd (upd (upd cm t (((numP (S 4) sz (u, wr)).1))) (t + 1) (((digB (S 4) sz ((numP (S 4) sz (u, wr)).2.1, (numP (S 4) sz (u, wr)).2.2)).1))) (t + 2) (((numB (S 4) sz ((digB (S 4) sz ((numP (S 4) sz (u, wr)).2.1, (numP (S 4) sz (u, wr)).2.2)).2.1, (digB (S 4) sz ((numP (S 4) sz (u, wr)).2.1, (numP (S 4) sz (u, wr)).2.2)).2.2)).1)))]; exact hW
      refine lv_goto (tgt := 148) hx hb dX10_readArguments_130 (by decide) ?_
      exact md_vret C hr hlocks hW (rfl) dX10_readArguments_148
    · exact absurd c_17 (by decide)
  · exact absurd c_8 (by decide)
set_option maxHeartbeats 2000000 in
set_option maxRecDepth 20000 in
theorem m_readArguments_3 (l : Launch) (D : va_G) (aT : Nat → ClassId) (ad : Nat → Nat) (S : MSt) (u sz k : Nat) (wr : Bool) (cm : Nat → Int32) (hsz : S 13 22 = nI sz) (h60 : sz ≤ 60) (hp : u ≤ sz) (t : Nat) (ht : t + 2 < 244) : MdV l yX10_readArguments cX10_readArguments 3 4 87 D aT ad [.ref (ad 0), .int (nI 3), .int (nI t)] (psT S u wr k cm) (fun S1 => S1 = psT S (argP (S 4) sz (u, wr) t cm 3).1.1 (argP (S 4) sz (u, wr) t cm 3).1.2 k (argP (S 4) sz (u, wr) t cm 3).2) := by
  refine MdV.of (by decide +kernel) rfl (Nat.le_of_ble_eq_true rfl) ?_
  intro p e s m below meth c A ls C hml hl hA hr hlocks hW
  have hl : lv_has ls 3 [(0, .ref (ad 0)), (1, .int (nI 3)), (2, .int (nI t))] := hl
  have hx := C.1
  have hb := C.2.1
  refine lv_aload_n hx hb dX10_readArguments_0 rfl (lv_at hl 0 rfl) ?_
  refine md_geta_commands C hW dX10_readArguments_1 ?_
  refine lv_iload_n hx hb dX10_readArguments_4 rfl (lv_at hl 2 rfl) ?_
  refine lv_iload_n hx hb dX10_readArguments_5 rfl (lv_at hl 1 rfl) ?_
  refine lv_bipush (v := nI 6) hx hb dX10_readArguments_6 (by decide) ?_
  refine r_neN hx hb (a := 3) (b := 6) (by omega) (by omega) (tgt := 15) dX10_readArguments_8 (by decide) (fun c_8 => ?_) (fun c_8 => ?_)
  · refine lv_iload_n hx hb dX10_readArguments_15 rfl (lv_at hl 1 rfl) ?_
    refine lv_iconst (v := nI 1) hx hb dX10_readArguments_16 (by decide) ?_
    refine r_neN hx hb (a := 3) (b := 1) (by omega) (by omega) (tgt := 27) dX10_readArguments_17 (by decide) (fun c_17 => ?_) (fun c_17 => ?_)
    · refine lv_aload_n hx hb dX10_readArguments_27 rfl (lv_at hl 0 rfl) ?_
      refine md_calli C hml hl.1 (As := []) (rest := [.int (nI t), .ref (ad 12)]) (m_number l D aT ad S u sz k wr cm hsz h60 (hp)) gT_number hd_number rfl ⟨Nat.le_of_ble_eq_true rfl, Nat.le_of_ble_eq_true rfl⟩ ⟨Nat.le_refl _, Nat.le_refl _⟩ hW hA rfl (Nat.le_of_ble_eq_true rfl) dX10_readArguments_28 (fun r_28 S_28 H locs hq hW => ?_)
      obtain ⟨rfl, rfl⟩ := hq
      refine md_ast_commands C hW (i := t) (by omega) dX10_readArguments_31 (fun H locs hW => ?_)
      have hW : MdB D aT ad (psT S ((numP (S 4) sz (u, wr)).2.1) ((numP (S 4) sz (u, wr)).2.2) k (upd cm t (((numP (S 4) sz (u, wr)).1)))) A s.heap H locs := by rw [← psT_c S ((numP (S 4) sz (u, wr)).2.1) ((numP (S 4) sz (u, wr)).2.2) k cm (upd cm t (((numP (S 4) sz (u, wr)).1)))]; exact hW
      refine lv_iload_n hx hb dX10_readArguments_32 rfl (lv_at hl 1 rfl) ?_
      refine lv_tableIn (x := nI 3) (off := 100) (tgt := 133) hx hb dX10_readArguments_33 (by decide) (by decide) (by decide) (by decide) ?_
      refine lv_aload_n hx hb dX10_readArguments_133 rfl (lv_at hl 0 rfl) ?_
      refine md_geta_commands C hW dX10_readArguments_134 ?_
      refine lv_iload_n hx hb dX10_readArguments_137 rfl (lv_at hl 2 rfl) ?_
      refine lv_iconst (v := nI 1) hx hb dX10_readArguments_138 (by decide) ?_
      refine r_iaddN hx hb (a := t) (b := 1) dX10_readArguments_139 ?_
      refine lv_aload_n hx hb dX10_readArguments_140 rfl (lv_at hl 0 rfl) ?_
      refine md_calli C hml hl.1 (As := []) (rest := [.int (nI (t + 1)), .ref (ad 12)]) (m_digitBehind l D aT ad S ((numP (S 4) sz (u, wr)).2.1) sz k ((numP (S 4) sz (u, wr)).2.2) (upd cm t (((numP (S 4) sz (u, wr)).1))) hsz h60 ((numP_le hp).1)) gT_digitBehind hd_digitBehind rfl ⟨Nat.le_of_ble_eq_true rfl, Nat.le_of_ble_eq_true rfl⟩ ⟨Nat.le_refl _, Nat.le_refl _⟩ hW hA rfl (Nat.le_of_ble_eq_true rfl) dX10_readArguments_141 (fun r_141 S_141 H locs hq hW => ?_)
      obtain ⟨rfl, rfl⟩ := hq
      refine md_ast_commands C hW (i := t + 1) (by omega) dX10_readArguments_144 (fun H locs hW => ?_)
      have hW : MdB D aT ad (psT S ((digB (S 4) sz ((numP (S 4) sz (u, wr)).2.1, (numP (S 4) sz (u, wr)).2.2)).2.1) ((digB (S 4) sz ((numP (S 4) sz (u, wr)).2.1, (numP (S 4) sz (u, wr)).2.2)).2.2) k (upd (upd cm t (((numP (S 4) sz (u, wr)).1))) (t + 1) (((digB (S 4) sz ((numP (S 4) sz (u, wr)).2.1, (numP (S 4) sz (u, wr)).2.2)).1)))) A s.heap H locs := by rw [← psT_c S ((digB (S 4) sz ((numP (S 4) sz (u, wr)).2.1, (numP (S 4) sz (u, wr)).2.2)).2.1) ((digB (S 4) sz ((numP (S 4) sz (u, wr)).2.1, (numP (S 4) sz (u, wr)).2.2)).2.2) k (upd cm t (((numP (S 4) sz (u, wr)).1))) (upd (upd cm t (((numP (S 4) sz (u, wr)).1))) (t + 1) (((digB (S 4) sz ((numP (S 4) sz (u, wr)).2.1, (numP (S 4) sz (u, wr)).2.2)).1)))]; exact hW
      refine lv_goto (tgt := 148) hx hb dX10_readArguments_145 (by decide) ?_
      exact md_vret C hr hlocks hW (rfl) dX10_readArguments_148
    · exact absurd c_17 (by decide)
  · exact absurd c_8 (by decide)
set_option maxHeartbeats 2000000 in
set_option maxRecDepth 20000 in
theorem m_readArguments_4 (l : Launch) (D : va_G) (aT : Nat → ClassId) (ad : Nat → Nat) (S : MSt) (u sz k : Nat) (wr : Bool) (cm : Nat → Int32) (hsz : S 13 22 = nI sz) (h60 : sz ≤ 60) (hp : u ≤ sz) (t : Nat) (ht : t + 2 < 244) : MdV l yX10_readArguments cX10_readArguments 3 4 87 D aT ad [.ref (ad 0), .int (nI 4), .int (nI t)] (psT S u wr k cm) (fun S1 => S1 = psT S (argP (S 4) sz (u, wr) t cm 4).1.1 (argP (S 4) sz (u, wr) t cm 4).1.2 k (argP (S 4) sz (u, wr) t cm 4).2) := by
  refine MdV.of (by decide +kernel) rfl (Nat.le_of_ble_eq_true rfl) ?_
  intro p e s m below meth c A ls C hml hl hA hr hlocks hW
  have hl : lv_has ls 3 [(0, .ref (ad 0)), (1, .int (nI 4)), (2, .int (nI t))] := hl
  have hx := C.1
  have hb := C.2.1
  refine lv_aload_n hx hb dX10_readArguments_0 rfl (lv_at hl 0 rfl) ?_
  refine md_geta_commands C hW dX10_readArguments_1 ?_
  refine lv_iload_n hx hb dX10_readArguments_4 rfl (lv_at hl 2 rfl) ?_
  refine lv_iload_n hx hb dX10_readArguments_5 rfl (lv_at hl 1 rfl) ?_
  refine lv_bipush (v := nI 6) hx hb dX10_readArguments_6 (by decide) ?_
  refine r_neN hx hb (a := 4) (b := 6) (by omega) (by omega) (tgt := 15) dX10_readArguments_8 (by decide) (fun c_8 => ?_) (fun c_8 => ?_)
  · refine lv_iload_n hx hb dX10_readArguments_15 rfl (lv_at hl 1 rfl) ?_
    refine lv_iconst (v := nI 1) hx hb dX10_readArguments_16 (by decide) ?_
    refine r_neN hx hb (a := 4) (b := 1) (by omega) (by omega) (tgt := 27) dX10_readArguments_17 (by decide) (fun c_17 => ?_) (fun c_17 => ?_)
    · refine lv_aload_n hx hb dX10_readArguments_27 rfl (lv_at hl 0 rfl) ?_
      refine md_calli C hml hl.1 (As := []) (rest := [.int (nI t), .ref (ad 12)]) (m_number l D aT ad S u sz k wr cm hsz h60 (hp)) gT_number hd_number rfl ⟨Nat.le_of_ble_eq_true rfl, Nat.le_of_ble_eq_true rfl⟩ ⟨Nat.le_refl _, Nat.le_refl _⟩ hW hA rfl (Nat.le_of_ble_eq_true rfl) dX10_readArguments_28 (fun r_28 S_28 H locs hq hW => ?_)
      obtain ⟨rfl, rfl⟩ := hq
      refine md_ast_commands C hW (i := t) (by omega) dX10_readArguments_31 (fun H locs hW => ?_)
      have hW : MdB D aT ad (psT S ((numP (S 4) sz (u, wr)).2.1) ((numP (S 4) sz (u, wr)).2.2) k (upd cm t (((numP (S 4) sz (u, wr)).1)))) A s.heap H locs := by rw [← psT_c S ((numP (S 4) sz (u, wr)).2.1) ((numP (S 4) sz (u, wr)).2.2) k cm (upd cm t (((numP (S 4) sz (u, wr)).1)))]; exact hW
      refine lv_iload_n hx hb dX10_readArguments_32 rfl (lv_at hl 1 rfl) ?_
      refine lv_tableOut (x := nI 4) (tgt := 148) hx hb dX10_readArguments_33 (by decide) (by decide) ?_
      exact md_vret C hr hlocks hW (rfl) dX10_readArguments_148
    · exact absurd c_17 (by decide)
  · exact absurd c_8 (by decide)
set_option maxHeartbeats 2000000 in
set_option maxRecDepth 20000 in
theorem m_readArguments_5 (l : Launch) (D : va_G) (aT : Nat → ClassId) (ad : Nat → Nat) (S : MSt) (u sz k : Nat) (wr : Bool) (cm : Nat → Int32) (hsz : S 13 22 = nI sz) (h60 : sz ≤ 60) (hp : u ≤ sz) (t : Nat) (ht : t + 2 < 244) : MdV l yX10_readArguments cX10_readArguments 3 4 87 D aT ad [.ref (ad 0), .int (nI 5), .int (nI t)] (psT S u wr k cm) (fun S1 => S1 = psT S (argP (S 4) sz (u, wr) t cm 5).1.1 (argP (S 4) sz (u, wr) t cm 5).1.2 k (argP (S 4) sz (u, wr) t cm 5).2) := by
  refine MdV.of (by decide +kernel) rfl (Nat.le_of_ble_eq_true rfl) ?_
  intro p e s m below meth c A ls C hml hl hA hr hlocks hW
  have hl : lv_has ls 3 [(0, .ref (ad 0)), (1, .int (nI 5)), (2, .int (nI t))] := hl
  have hx := C.1
  have hb := C.2.1
  refine lv_aload_n hx hb dX10_readArguments_0 rfl (lv_at hl 0 rfl) ?_
  refine md_geta_commands C hW dX10_readArguments_1 ?_
  refine lv_iload_n hx hb dX10_readArguments_4 rfl (lv_at hl 2 rfl) ?_
  refine lv_iload_n hx hb dX10_readArguments_5 rfl (lv_at hl 1 rfl) ?_
  refine lv_bipush (v := nI 6) hx hb dX10_readArguments_6 (by decide) ?_
  refine r_neN hx hb (a := 5) (b := 6) (by omega) (by omega) (tgt := 15) dX10_readArguments_8 (by decide) (fun c_8 => ?_) (fun c_8 => ?_)
  · refine lv_iload_n hx hb dX10_readArguments_15 rfl (lv_at hl 1 rfl) ?_
    refine lv_iconst (v := nI 1) hx hb dX10_readArguments_16 (by decide) ?_
    refine r_neN hx hb (a := 5) (b := 1) (by omega) (by omega) (tgt := 27) dX10_readArguments_17 (by decide) (fun c_17 => ?_) (fun c_17 => ?_)
    · refine lv_aload_n hx hb dX10_readArguments_27 rfl (lv_at hl 0 rfl) ?_
      refine md_calli C hml hl.1 (As := []) (rest := [.int (nI t), .ref (ad 12)]) (m_number l D aT ad S u sz k wr cm hsz h60 (hp)) gT_number hd_number rfl ⟨Nat.le_of_ble_eq_true rfl, Nat.le_of_ble_eq_true rfl⟩ ⟨Nat.le_refl _, Nat.le_refl _⟩ hW hA rfl (Nat.le_of_ble_eq_true rfl) dX10_readArguments_28 (fun r_28 S_28 H locs hq hW => ?_)
      obtain ⟨rfl, rfl⟩ := hq
      refine md_ast_commands C hW (i := t) (by omega) dX10_readArguments_31 (fun H locs hW => ?_)
      have hW : MdB D aT ad (psT S ((numP (S 4) sz (u, wr)).2.1) ((numP (S 4) sz (u, wr)).2.2) k (upd cm t (((numP (S 4) sz (u, wr)).1)))) A s.heap H locs := by rw [← psT_c S ((numP (S 4) sz (u, wr)).2.1) ((numP (S 4) sz (u, wr)).2.2) k cm (upd cm t (((numP (S 4) sz (u, wr)).1)))]; exact hW
      refine lv_iload_n hx hb dX10_readArguments_32 rfl (lv_at hl 1 rfl) ?_
      refine lv_tableOut (x := nI 5) (tgt := 148) hx hb dX10_readArguments_33 (by decide) (by decide) ?_
      exact md_vret C hr hlocks hW (rfl) dX10_readArguments_148
    · exact absurd c_17 (by decide)
  · exact absurd c_8 (by decide)
set_option maxHeartbeats 2000000 in
set_option maxRecDepth 20000 in
theorem m_readArguments_6 (l : Launch) (D : va_G) (aT : Nat → ClassId) (ad : Nat → Nat) (S : MSt) (u sz k : Nat) (wr : Bool) (cm : Nat → Int32) (hsz : S 13 22 = nI sz) (h60 : sz ≤ 60) (hp : u ≤ sz) (t : Nat) (ht : t + 2 < 244) : MdV l yX10_readArguments cX10_readArguments 3 4 87 D aT ad [.ref (ad 0), .int (nI 6), .int (nI t)] (psT S u wr k cm) (fun S1 => S1 = psT S (argP (S 4) sz (u, wr) t cm 6).1.1 (argP (S 4) sz (u, wr) t cm 6).1.2 k (argP (S 4) sz (u, wr) t cm 6).2) := by
  refine MdV.of (by decide +kernel) rfl (Nat.le_of_ble_eq_true rfl) ?_
  intro p e s m below meth c A ls C hml hl hA hr hlocks hW
  have hl : lv_has ls 3 [(0, .ref (ad 0)), (1, .int (nI 6)), (2, .int (nI t))] := hl
  have hx := C.1
  have hb := C.2.1
  refine lv_aload_n hx hb dX10_readArguments_0 rfl (lv_at hl 0 rfl) ?_
  refine md_geta_commands C hW dX10_readArguments_1 ?_
  refine lv_iload_n hx hb dX10_readArguments_4 rfl (lv_at hl 2 rfl) ?_
  refine lv_iload_n hx hb dX10_readArguments_5 rfl (lv_at hl 1 rfl) ?_
  refine lv_bipush (v := nI 6) hx hb dX10_readArguments_6 (by decide) ?_
  refine r_neN hx hb (a := 6) (b := 6) (by omega) (by omega) (tgt := 15) dX10_readArguments_8 (by decide) (fun c_8 => ?_) (fun c_8 => ?_)
  · exact absurd c_8 (by decide)
  · refine lv_iconst (v := nI 0) hx hb dX10_readArguments_11 (by decide) ?_
    refine lv_goto (tgt := 31) hx hb dX10_readArguments_12 (by decide) ?_
    refine md_ast_commands C hW (i := t) (by omega) dX10_readArguments_31 (fun H locs hW => ?_)
    have hW : MdB D aT ad (psT S u wr k (upd cm t ((nI 0)))) A s.heap H locs := by rw [← psT_c S u wr k cm (upd cm t ((nI 0)))]; exact hW
    refine lv_iload_n hx hb dX10_readArguments_32 rfl (lv_at hl 1 rfl) ?_
    refine lv_tableOut (x := nI 6) (tgt := 148) hx hb dX10_readArguments_33 (by decide) (by decide) ?_
    exact md_vret C hr hlocks hW (rfl) dX10_readArguments_148
theorem m_readArguments_all (l : Launch) (D : va_G) (aT : Nat → ClassId) (ad : Nat → Nat) (S : MSt) (u sz k : Nat) (wr : Bool) (cm : Nat → Int32) (hsz : S 13 22 = nI sz) (h60 : sz ≤ 60) (hp : u ≤ sz) (t : Nat) (ht : t + 2 < 244) (w : Nat) (hw : w < 7) : MdV l yX10_readArguments cX10_readArguments 3 4 87 D aT ad [.ref (ad 0), .int (nI w), .int (nI t)] (psT S u wr k cm) (fun S1 => S1 = psT S (argP (S 4) sz (u, wr) t cm w).1.1 (argP (S 4) sz (u, wr) t cm w).1.2 k (argP (S 4) sz (u, wr) t cm w).2) := by
  match w, hw with
  | 0, _ => exact m_readArguments l D aT ad S u sz k wr cm hsz h60 hp t ht
  | 1, _ => exact m_readArguments_1 l D aT ad S u sz k wr cm hsz h60 hp t ht
  | 2, _ => exact m_readArguments_2 l D aT ad S u sz k wr cm hsz h60 hp t ht
  | 3, _ => exact m_readArguments_3 l D aT ad S u sz k wr cm hsz h60 hp t ht
  | 4, _ => exact m_readArguments_4 l D aT ad S u sz k wr cm hsz h60 hp t ht
  | 5, _ => exact m_readArguments_5 l D aT ad S u sz k wr cm hsz h60 hp t ht
  | 6, _ => exact m_readArguments_6 l D aT ad S u sz k wr cm hsz h60 hp t ht
