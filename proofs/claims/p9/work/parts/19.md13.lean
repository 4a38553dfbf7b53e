theorem argP_cm {f : Nat → Int32} {sz : Nat} {s : Nat × Bool} {t : Nat} {cm : Nat → Int32} {j : Nat} (h : j < t) : ∀ w, w < 7 → (argP f sz s t cm w).2 j = cm j := by
  intro w hw
  match w, hw with
  | 0, _ => exact ((pk_un (show j ≠ t + 2 by omega)).trans ((pk_un (show j ≠ t + 1 by omega)).trans (pk_un (show j ≠ t by omega))))
  | 1, _ => exact ((pk_un (show j ≠ t + 1 by omega)).trans (pk_un (show j ≠ t by omega)))
  | 2, _ => exact ((pk_un (show j ≠ t + 2 by omega)).trans ((pk_un (show j ≠ t + 1 by omega)).trans (pk_un (show j ≠ t by omega))))
  | 3, _ => exact ((pk_un (show j ≠ t + 1 by omega)).trans (pk_un (show j ≠ t by omega)))
  | 4, _ => exact (pk_un (show j ≠ t by omega))
  | 5, _ => exact (pk_un (show j ≠ t by omega))
  | 6, _ => exact (pk_un (show j ≠ t by omega))
def CmOk (k : Nat) (cm : Nat → Int32) : Prop := ∀ i, i < k → ∃ w, w < 7 ∧ cm (4 * i) = nI w
theorem cmdP_ok {f : Nat → Int32} {sz k u : Nat} {cm : Nat → Int32} (hu : u ≤ sz) (h5 : 5 * k ≤ u) (hc : CmOk k cm) : (cmdP f sz k cm u).1.1 ≤ sz ∧ u ≤ (cmdP f sz k cm u).1.1 ∧ 5 * (cmdP f sz k cm u).2.1 ≤ (cmdP f sz k cm u).1.1 ∧ CmOk (cmdP f sz k cm u).2.1 (cmdP f sz k cm u).2.2 := by
  have hw := wdP_le (f := f) (sz := sz) (u := u) 6
  have hb := bgN_in (wdP f sz u 6) (by omega)
  have hl := lkF_le (f := f) (w := wdP f sz u 6) hu
  unfold cmdP
  split
  · exact ⟨hl, Nat.le_add_right _ _, by dsimp only; omega, hc⟩
  · rename_i hn
    have ha := argP_le (f := f) (sz := sz) (s := (u + lkF f sz u (wdP f sz u 6), false)) (t := 4 * k + 1) (cm := upd cm (4 * k) (nI (wdP f sz u 6))) hl (wdP f sz u 6) (by omega)
    dsimp only at ha ⊢
    refine ⟨ha.1, by omega, by omega, fun i hi => ?_⟩
    rw [argP_cm (by omega) _ (by omega)]
    by_cases hik : i = k
    · subst hik; exact ⟨_, by omega, pk_us⟩
    · rw [pk_un (by omega)]; exact hc i (by omega)
/-- a text read as a program: place and wrongness, how many commands, the commands -/
def prsF (f : Nat → Int32) (sz : Nat) : Nat → Nat → Nat → (Nat → Int32) → (Nat × Bool) × Nat × (Nat → Int32)
  | 0, u, k, cm => ((u, true), k, cm)
  | d + 1, u, k, cm => if (cmdP f sz k cm u).1.2 = true ∨ sz ≤ (cmdP f sz k cm u).1.1 then cmdP f sz k cm u
    else if (expP f sz (nI 59) (cmdP f sz k cm u).1).2 = true then (expP f sz (nI 59) (cmdP f sz k cm u).1, (cmdP f sz k cm u).2)
    else prsF f sz d (expP f sz (nI 59) (cmdP f sz k cm u).1).1 (cmdP f sz k cm u).2.1 (cmdP f sz k cm u).2.2
theorem prsF_1 {f : Nat → Int32} {sz d u k : Nat} {cm : Nat → Int32} (h : (cmdP f sz k cm u).1.2 = true ∨ sz ≤ (cmdP f sz k cm u).1.1) : prsF f sz (d + 1) u k cm = cmdP f sz k cm u := by rw [prsF, if_pos h]
theorem prsF_2 {f : Nat → Int32} {sz d u k : Nat} {cm : Nat → Int32} (h1 : (cmdP f sz k cm u).1.2 = false) (h2 : (cmdP f sz k cm u).1.1 < sz) (h3 : (expP f sz (nI 59) (cmdP f sz k cm u).1).2 = true) : prsF f sz (d + 1) u k cm = (expP f sz (nI 59) (cmdP f sz k cm u).1, (cmdP f sz k cm u).2) := by
  rw [prsF, if_neg (by rintro (z | z); rw [h1] at z; cases z; omega), if_pos h3]
theorem prsF_3 {f : Nat → Int32} {sz d u k : Nat} {cm : Nat → Int32} (h1 : (cmdP f sz k cm u).1.2 = false) (h2 : (cmdP f sz k cm u).1.1 < sz) (h3 : (expP f sz (nI 59) (cmdP f sz k cm u).1).2 = false) : prsF f sz (d + 1) u k cm = prsF f sz d (expP f sz (nI 59) (cmdP f sz k cm u).1).1 (cmdP f sz k cm u).2.1 (cmdP f sz k cm u).2.2 := by
  rw [prsF, if_neg (by rintro (z | z); rw [h1] at z; cases z; omega), if_neg (by rw [h3]; decide)]
theorem expP_f {f : Nat → Int32} {sz : Nat} {c : Int32} {s : Nat × Bool} (h : (expP f sz c s).2 = false) : (expP f sz c s).1 = s.1 + 1 := by
  unfold expP at h ⊢
  split
  · rfl
  · rename_i z; rw [if_neg z] at h; cases h
def muR (sz u : Nat) (mr : Bool) : Nat := if mr then sz - u + 1 else 0
theorem muR_0 {sz u u' : Nat} {mr : Bool} (h : mr = true) : muR sz u' false < muR sz u mr := by subst h; simp [muR]
theorem muR_1 {sz u u' : Nat} {mr : Bool} (h : mr = true) (h1 : u < u') (h2 : u' ≤ sz) : muR sz u' true < muR sz u mr := by subst h; simp [muR]; omega
/-- the state when a text begins to be read -/
def rnS (S : MSt) (sz : Nat) : MSt := ss (ss (begS S) 22 (nI sz)) 10 (nI 0)
theorem psT_i (T : MSt) : ss (ss (ss T 21 (nI 0)) 20 (nI 0)) 23 (bI false) = psT T 0 false 0 (T 11) := by
  funext r j; unfold ss sr psT
  by_cases h : r = 13
  · subst h
    by_cases h1 : j = 21
    · subst h1; simp [upd]
    · by_cases h2 : j = 23
      · subst h2; simp [upd]
      · by_cases h3 : j = 20
        · subst h3; simp [upd]
        · simp [upd, h1, h2, h3]
  · by_cases h1 : r = 11
    · subst h1; simp
    · simp [h, h1]
/-- the row behind the first commands: none where one fails -/
def runF (m : Nat → Int32) (cm : Nat → Int32) : Nat → Option (Nat → Int32)
  | 0 => some m
  | i + 1 => match runF m cm i with
    | none => none
    | some m1 => doF m1 (cm (4 * i)).toNatClampNeg (cm (4 * i + 1)) (cm (4 * i + 2)) (cm (4 * i + 3))
theorem runF_s {m m1 : Nat → Int32} {cm : Nat → Int32} {i w : Nat} (h : runF m cm i = some m1) (hw : cm (4 * i) = nI w) (h7 : w < 7) : runF m cm (i + 1) = doF m1 w (cm (4 * i + 1)) (cm (4 * i + 2)) (cm (4 * i + 3)) := by
  rw [runF, h]; dsimp only; rw [hw, nI_clamp (by omega)]
/-- the whole text read -/
def prsR (f : Nat → Int32) (sz : Nat) (cm : Nat → Int32) : (Nat × Bool) × Nat × (Nat → Int32) := prsF f sz (sz + 1) 0 0 cm
/-- the states when a run ends: not a program; a command fails; done -/
def runE (S : MSt) (sz u k : Nat) (cm : Nat → Int32) : MSt := ss (ss (psT (rnS S sz) u true k cm) 6 (nI u)) 8 (nI 1)
def runX (S : MSt) (sz u k : Nat) (cm mm : Nat → Int32) (t i : Nat) : MSt := ss (ss (sr (ss (sr (psT (rnS S sz) u false k cm) 0 mm) 8 (nI t)) 0 (cpyF mm (cpyF (S 1) (S 0) 77) 77)) 7 (nI i)) 8 (nI 2)
def runC (S : MSt) (sz u k : Nat) (cm mm : Nat → Int32) (ch : Nat) : MSt := ss (sr (sr (psT (rnS S sz) u false k cm) 0 mm) 3 (pstF (S 3) (cpyF (S 1) (S 0) 77) ch)) 5 (nI (min ch 7 + 1))
theorem dX10_run_0 : decode cX10_run 0 = .ok (.aload_n 0, 1) := by decide +kernel
theorem dX10_run_1 : decode cX10_run 1 = .ok (.invokevirtual 104, 3) := by decide +kernel
theorem dX10_run_4 : decode cX10_run 4 = .ok (.aload_n 0, 1) := by decide +kernel
theorem dX10_run_5 : decode cX10_run 5 = .ok (.aload_n 0, 1) := by decide +kernel
theorem dX10_run_6 : decode cX10_run 6 = .ok (.getfield 207, 3) := by decide +kernel
theorem dX10_run_9 : decode cX10_run 9 = .ok (.putfield 213, 3) := by decide +kernel
theorem dX10_run_12 : decode cX10_run 12 = .ok (.aload_n 0, 1) := by decide +kernel
theorem dX10_run_13 : decode cX10_run 13 = .ok (.iconst 0, 1) := by decide +kernel
theorem dX10_run_14 : decode cX10_run 14 = .ok (.putfield 207, 3) := by decide +kernel
theorem dX10_run_17 : decode cX10_run 17 = .ok (.aload_n 0, 1) := by decide +kernel
theorem dX10_run_18 : decode cX10_run 18 = .ok (.iconst 0, 1) := by decide +kernel
theorem dX10_run_19 : decode cX10_run 19 = .ok (.putfield 210, 3) := by decide +kernel
theorem dX10_run_22 : decode cX10_run 22 = .ok (.aload_n 0, 1) := by decide +kernel
theorem dX10_run_23 : decode cX10_run 23 = .ok (.iconst 0, 1) := by decide +kernel
theorem dX10_run_24 : decode cX10_run 24 = .ok (.putfield 242, 3) := by decide +kernel
theorem dX10_run_27 : decode cX10_run 27 = .ok (.aload_n 0, 1) := by decide +kernel
theorem dX10_run_28 : decode cX10_run 28 = .ok (.iconst 0, 1) := by decide +kernel
theorem dX10_run_29 : decode cX10_run 29 = .ok (.putfield 216, 3) := by decide +kernel
theorem dX10_run_32 : decode cX10_run 32 = .ok (.iconst 1, 1) := by decide +kernel
theorem dX10_run_33 : decode cX10_run 33 = .ok (.istore_n 1, 1) := by decide +kernel
theorem dX10_run_34 : decode cX10_run 34 = .ok (.iload_n 1, 1) := by decide +kernel
theorem dX10_run_35 : decode cX10_run 35 = .ok (.ifCond .eq 57, 3) := by decide +kernel
theorem dX10_run_38 : decode cX10_run 38 = .ok (.aload_n 0, 1) := by decide +kernel
theorem dX10_run_39 : decode cX10_run 39 = .ok (.invokevirtual 252, 3) := by decide +kernel
theorem dX10_run_42 : decode cX10_run 42 = .ok (.aload_n 0, 1) := by decide +kernel
theorem dX10_run_43 : decode cX10_run 43 = .ok (.getfield 216, 3) := by decide +kernel
theorem dX10_run_46 : decode cX10_run 46 = .ok (.ifCond .ne 18, 3) := by decide +kernel
theorem dX10_run_49 : decode cX10_run 49 = .ok (.aload_n 0, 1) := by decide +kernel
theorem dX10_run_50 : decode cX10_run 50 = .ok (.getfield 210, 3) := by decide +kernel
theorem dX10_run_53 : decode cX10_run 53 = .ok (.aload_n 0, 1) := by decide +kernel
theorem dX10_run_54 : decode cX10_run 54 = .ok (.getfield 213, 3) := by decide +kernel
theorem dX10_run_57 : decode cX10_run 57 = .ok (.if_icmp .ge 7, 3) := by decide +kernel
theorem dX10_run_60 : decode cX10_run 60 = .ok (.iconst 1, 1) := by decide +kernel
theorem dX10_run_61 : decode cX10_run 61 = .ok (.goto 4, 3) := by decide +kernel
theorem dX10_run_64 : decode cX10_run 64 = .ok (.iconst 0, 1) := by decide +kernel
theorem dX10_run_65 : decode cX10_run 65 = .ok (.istore_n 1, 1) := by decide +kernel
theorem dX10_run_66 : decode cX10_run 66 = .ok (.iload_n 1, 1) := by decide +kernel
theorem dX10_run_67 : decode cX10_run 67 = .ok (.ifCond .eq (-33), 3) := by decide +kernel
theorem dX10_run_70 : decode cX10_run 70 = .ok (.aload_n 0, 1) := by decide +kernel
theorem dX10_run_71 : decode cX10_run 71 = .ok (.bipush 59, 2) := by decide +kernel
theorem dX10_run_73 : decode cX10_run 73 = .ok (.invokevirtual 230, 3) := by decide +kernel
theorem dX10_run_76 : decode cX10_run 76 = .ok (.aload_n 0, 1) := by decide +kernel
theorem dX10_run_77 : decode cX10_run 77 = .ok (.getfield 216, 3) := by decide +kernel
theorem dX10_run_80 : decode cX10_run 80 = .ok (.ifCond .ne 7, 3) := by decide +kernel
theorem dX10_run_83 : decode cX10_run 83 = .ok (.iconst 1, 1) := by decide +kernel
theorem dX10_run_84 : decode cX10_run 84 = .ok (.goto 4, 3) := by decide +kernel
theorem dX10_run_87 : decode cX10_run 87 = .ok (.iconst 0, 1) := by decide +kernel
theorem dX10_run_88 : decode cX10_run 88 = .ok (.istore_n 1, 1) := by decide +kernel
theorem dX10_run_89 : decode cX10_run 89 = .ok (.goto (-55), 3) := by decide +kernel
theorem dX10_run_92 : decode cX10_run 92 = .ok (.aload_n 0, 1) := by decide +kernel
theorem dX10_run_93 : decode cX10_run 93 = .ok (.getfield 216, 3) := by decide +kernel
theorem dX10_run_96 : decode cX10_run 96 = .ok (.ifCond .eq 17, 3) := by decide +kernel
theorem dX10_run_99 : decode cX10_run 99 = .ok (.aload_n 0, 1) := by decide +kernel
theorem dX10_run_100 : decode cX10_run 100 = .ok (.aload_n 0, 1) := by decide +kernel
theorem dX10_run_101 : decode cX10_run 101 = .ok (.getfield 210, 3) := by decide +kernel
theorem dX10_run_104 : decode cX10_run 104 = .ok (.putfield 22, 3) := by decide +kernel
theorem dX10_run_107 : decode cX10_run 107 = .ok (.aload_n 0, 1) := by decide +kernel
theorem dX10_run_108 : decode cX10_run 108 = .ok (.iconst 1, 1) := by decide +kernel
theorem dX10_run_109 : decode cX10_run 109 = .ok (.invokevirtual 101, 3) := by decide +kernel
theorem dX10_run_112 : decode cX10_run 112 = .ok (.ireturn, 1) := by decide +kernel
theorem dX10_run_113 : decode cX10_run 113 = .ok (.iconst 0, 1) := by decide +kernel
theorem dX10_run_114 : decode cX10_run 114 = .ok (.istore_n 2, 1) := by decide +kernel
theorem dX10_run_115 : decode cX10_run 115 = .ok (.iload_n 2, 1) := by decide +kernel
theorem dX10_run_116 : decode cX10_run 116 = .ok (.aload_n 0, 1) := by decide +kernel
theorem dX10_run_117 : decode cX10_run 117 = .ok (.getfield 242, 3) := by decide +kernel
theorem dX10_run_120 : decode cX10_run 120 = .ok (.if_icmp .ge 60, 3) := by decide +kernel
theorem dX10_run_123 : decode cX10_run 123 = .ok (.aload_n 0, 1) := by decide +kernel
theorem dX10_run_124 : decode cX10_run 124 = .ok (.iconst 4, 1) := by decide +kernel
theorem dX10_run_125 : decode cX10_run 125 = .ok (.iload_n 2, 1) := by decide +kernel
theorem dX10_run_126 : decode cX10_run 126 = .ok (.imul, 1) := by decide +kernel
theorem dX10_run_127 : decode cX10_run 127 = .ok (.invokevirtual 255, 3) := by decide +kernel
theorem dX10_run_130 : decode cX10_run 130 = .ok (.aload_n 0, 1) := by decide +kernel
theorem dX10_run_131 : decode cX10_run 131 = .ok (.getfield 57, 3) := by decide +kernel
theorem dX10_run_134 : decode cX10_run 134 = .ok (.ifCond .le 40, 3) := by decide +kernel
theorem dX10_run_137 : decode cX10_run 137 = .ok (.iconst 0, 1) := by decide +kernel
theorem dX10_run_138 : decode cX10_run 138 = .ok (.istore_n 3, 1) := by decide +kernel
theorem dX10_run_139 : decode cX10_run 139 = .ok (.iload_n 3, 1) := by decide +kernel
theorem dX10_run_140 : decode cX10_run 140 = .ok (.bipush 77, 2) := by decide +kernel
theorem dX10_run_142 : decode cX10_run 142 = .ok (.if_icmp .ge 21, 3) := by decide +kernel
theorem dX10_run_145 : decode cX10_run 145 = .ok (.aload_n 0, 1) := by decide +kernel
theorem dX10_run_146 : decode cX10_run 146 = .ok (.getfield 9, 3) := by decide +kernel
theorem dX10_run_149 : decode cX10_run 149 = .ok (.iload_n 3, 1) := by decide +kernel
theorem dX10_run_150 : decode cX10_run 150 = .ok (.aload_n 0, 1) := by decide +kernel
theorem dX10_run_151 : decode cX10_run 151 = .ok (.getfield 13, 3) := by decide +kernel
theorem dX10_run_154 : decode cX10_run 154 = .ok (.iload_n 3, 1) := by decide +kernel
theorem dX10_run_155 : decode cX10_run 155 = .ok (.iaload, 1) := by decide +kernel
theorem dX10_run_156 : decode cX10_run 156 = .ok (.iastore, 1) := by decide +kernel
theorem dX10_run_157 : decode cX10_run 157 = .ok (.iinc 3 1, 3) := by decide +kernel
theorem dX10_run_160 : decode cX10_run 160 = .ok (.goto (-21), 3) := by decide +kernel
theorem dX10_run_163 : decode cX10_run 163 = .ok (.aload_n 0, 1) := by decide +kernel
theorem dX10_run_164 : decode cX10_run 164 = .ok (.iload_n 2, 1) := by decide +kernel
theorem dX10_run_165 : decode cX10_run 165 = .ok (.putfield 26, 3) := by decide +kernel
theorem dX10_run_168 : decode cX10_run 168 = .ok (.aload_n 0, 1) := by decide +kernel
theorem dX10_run_169 : decode cX10_run 169 = .ok (.iconst 2, 1) := by decide +kernel
theorem dX10_run_170 : decode cX10_run 170 = .ok (.invokevirtual 101, 3) := by decide +kernel
theorem dX10_run_173 : decode cX10_run 173 = .ok (.ireturn, 1) := by decide +kernel
theorem dX10_run_174 : decode cX10_run 174 = .ok (.iinc 2 1, 3) := by decide +kernel
theorem dX10_run_177 : decode cX10_run 177 = .ok (.goto (-62), 3) := by decide +kernel
theorem dX10_run_180 : decode cX10_run 180 = .ok (.aload_n 0, 1) := by decide +kernel
theorem dX10_run_181 : decode cX10_run 181 = .ok (.aload_n 0, 1) := by decide +kernel
theorem dX10_run_182 : decode cX10_run 182 = .ok (.getfield 242, 3) := by decide +kernel
theorem dX10_run_185 : decode cX10_run 185 = .ok (.invokevirtual 111, 3) := by decide +kernel
theorem dX10_run_188 : decode cX10_run 188 = .ok (.ireturn, 1) := by decide +kernel
set_option maxHeartbeats 8000000 in
set_option maxRecDepth 20000 in
theorem m_run (l : Launch) (D : va_G) (aT : Nat → ClassId) (ad : Nat → Nat) (S : MSt) (sz B : Nat) (him : S 13 10 = nI sz) (h60 : sz ≤ 60) (hwd0 : WdOk S) (hco0 : CoW (S 0) B) (hB : B < 1048000) (ch : Nat) (hch : S 13 5 = nI ch) (hc8 : ch ≤ 8) : MdI l yX10_run cX10_run 4 .int 7 158 D aT ad [.ref (ad 0)] S (fun r S1 => (∃ u k cm, prsR (S 4) sz (S 11) = ((u, true), k, cm) ∧ r = -1 ∧ S1 = runE S sz u k cm) ∨ (∃ u k cm mm t i, prsR (S 4) sz (S 11) = ((u, false), k, cm) ∧ i < k ∧ runF (S 0) cm i = some mm ∧ runF (S 0) cm (i + 1) = none ∧ r = -1 ∧ S1 = runX S sz u k cm mm t i) ∨ (∃ u k cm mm, prsR (S 4) sz (S 11) = ((u, false), k, cm) ∧ runF (S 0) cm k = some mm ∧ CoW mm (B + k) ∧ r = nI k ∧ S1 = runC S sz u k cm mm ch)) := by
  refine MdI.of (by decide +kernel) rfl (Nat.le_of_ble_eq_true rfl) ?_
  intro p e s m below meth c A ls C hml hl hA hr hlocks hW
  have hl : lv_has ls 4 [(0, .ref (ad 0))] := hl
  have hx := C.1
  have hb := C.2.1
  refine lv_aload_n hx hb dX10_run_0 rfl (lv_at hl 0 rfl) ?_
  refine md_callv C hml hl.1 (As := []) (rest := []) (m_starts l D aT ad S) gT_starts hd_starts rfl ⟨Nat.le_of_ble_eq_true rfl, Nat.le_of_ble_eq_true rfl⟩ ⟨Nat.le_refl _, Nat.le_refl _⟩ hW hA rfl (Nat.le_of_ble_eq_true rfl) dX10_run_1 (fun S_1 H locs hq hW => ?_)
  subst hq
  have hW : MdB D aT ad (begS S) A s.heap H locs := hW
  refine lv_aload_n hx hb dX10_run_4 rfl (lv_at hl 0 rfl) ?_
  refine lv_aload_n hx hb dX10_run_5 rfl (lv_at hl 0 rfl) ?_
  refine md_get_inputMany C hW dX10_run_6 ?_
  refine r_eq (y := (nI sz)) (him) ?_
  refine md_put_size0 C hW dX10_run_9 (fun H locs hW => ?_)
  have hW : MdB D aT ad (ss (begS S) 22 (nI sz)) A s.heap H locs := hW
  refine lv_aload_n hx hb dX10_run_12 rfl (lv_at hl 0 rfl) ?_
  refine lv_iconst (v := nI 0) hx hb dX10_run_13 (by decide) ?_
  refine md_put_inputMany C hW dX10_run_14 (fun H locs hW => ?_)
  have hW : MdB D aT ad (ss (ss (begS S) 22 (nI sz)) 10 (nI 0)) A s.heap H locs := hW
  refine lv_aload_n hx hb dX10_run_17 rfl (lv_at hl 0 rfl) ?_
  refine lv_iconst (v := nI 0) hx hb dX10_run_18 (by decide) ?_
  refine md_put_place0 C hW dX10_run_19 (fun H locs hW => ?_)
  have hW : MdB D aT ad (ss (ss (ss (begS S) 22 (nI sz)) 10 (nI 0)) 21 (nI 0)) A s.heap H locs := hW
  refine lv_aload_n hx hb dX10_run_22 rfl (lv_at hl 0 rfl) ?_
  refine lv_iconst (v := nI 0) hx hb dX10_run_23 (by decide) ?_
  refine md_put_commandMany C hW dX10_run_24 (fun H locs hW => ?_)
  have hW : MdB D aT ad (ss (ss (ss (ss (begS S) 22 (nI sz)) 10 (nI 0)) 21 (nI 0)) 20 (nI 0)) A s.heap H locs := hW
  refine lv_aload_n hx hb dX10_run_27 rfl (lv_at hl 0 rfl) ?_
  refine lv_iconst (v := nI 0) hx hb dX10_run_28 (by decide) ?_
  refine md_put_isWrong C hW (by decide) (by decide) dX10_run_29 (fun H locs hW => ?_)
  have hW : MdB D aT ad (psT (rnS S sz) 0 false 0 (S 11)) A s.heap H locs := (congrArg (fun T1 => MdB D aT ad T1 A s.heap H locs) (psT_i (rnS S sz))).mp hW
  refine lv_iconst (v := nI 1) hx hb dX10_run_32 (by decide) ?_
  refine lv_istore_n (lv' := [(1, .int (nI 1)), (0, .ref (ad 0))]) hx hb dX10_run_33 rfl hl (by decide) rfl (fun ls hl => ?_)
  have hsz : (rnS S sz) 13 22 = nI sz := rfl
  have hwd : WdOk (rnS S sz) := hwd0
  refine W_loopH (σ := Nat × Bool × Nat × (Nat → Int32) × Bool) (fun z_ => muR sz z_.1 z_.2.2.2.2) (fun z_ H locs g => ∃ ls, g = F0 m 34 ls [] ∧ lv_has ls 4 [(0, .ref (ad 0)), (1, .int (bI z_.2.2.2.2))] ∧ MdB D aT ad (psT (rnS S sz) z_.1 z_.2.1 z_.2.2.1 z_.2.2.2.1) A s.heap H locs ∧ ((z_.2.2.2.2 = true → z_.2.1 = false ∧ ∃ d, sz - z_.1 ≤ d ∧ prsF (S 4) sz (d + 1) z_.1 z_.2.2.1 z_.2.2.2.1 = prsR (S 4) sz (S 11)) ∧ (z_.2.2.2.2 = false → ((z_.1, z_.2.1), z_.2.2.1, z_.2.2.2.1) = prsR (S 4) sz (S 11)) ∧ z_.1 ≤ sz ∧ 5 * z_.2.2.1 ≤ z_.1 ∧ CmOk z_.2.2.1 z_.2.2.2.1)) ?_ (0, false, 0, (S 11), true) _ ⟨_, rfl, lv_sub hl [1, 0] rfl, hW, ⟨(fun _ => ⟨rfl, sz, Nat.sub_le _ _, rfl⟩), (fun z => by cases z), Nat.zero_le _, Nat.le_refl _, (fun i hi => absurd hi (Nat.not_lt_zero _))⟩⟩
  clear hW hl
  rintro ⟨u, wr, k, cm, mr⟩ H locs g ⟨ls, rfl, hl, hW, h1, h2, hu, h5, hcm⟩ ih_34
  dsimp only at hl hW h1 h2 hu h5 hcm ⊢
  refine lv_iload_n hx hb dX10_run_34 rfl (lv_at hl 1 rfl) ?_
  refine r_bI_eq hx hb (b := mr) (tgt := 92) dX10_run_35 (by decide) (fun c_35 => ?_) (fun c_35 => ?_)
  · refine lv_aload_n hx hb dX10_run_92 rfl (lv_at hl 0 rfl) ?_
    refine md_get_isWrong C hW dX10_run_93 ?_
    refine r_eq (y := (bI wr)) (rfl) ?_
    refine r_bI_eq hx hb (b := wr) (tgt := 113) dX10_run_96 (by decide) (fun c_96 => ?_) (fun c_96 => ?_)
    · refine lv_iconst (v := nI 0) hx hb dX10_run_113 (by decide) ?_
      refine lv_istore_n (lv' := [(2, .int (nI 0)), (0, .ref (ad 0)), (1, .int (bI mr))]) hx hb dX10_run_114 rfl hl (by decide) rfl (fun ls hl => ?_)
      refine W_loopH (σ := (Nat → Int32) × Nat) (fun z_ => k - z_.2) (fun z_ H locs g => ∃ ls, g = F0 m 115 ls [] ∧ lv_has ls 4 [(0, .ref (ad 0)), (2, .int (nI z_.2))] ∧ MdB D aT ad (sr (psT (rnS S sz) u wr k cm) 0 z_.1) A s.heap H locs ∧ (runF (S 0) cm z_.2 = some z_.1 ∧ CoW z_.1 (B + z_.2) ∧ z_.2 ≤ k)) ?_ ((S 0), 0) _ ⟨_, rfl, lv_sub hl [1, 0] rfl, (by rw [show S 0 = (psT (rnS S sz) u wr k cm) 0 from rfl, sr_self]; exact hW), ⟨rfl, hco0, Nat.zero_le _⟩⟩
      clear hW hl
      rintro ⟨mm, i⟩ H locs g ⟨ls, rfl, hl, hW, hrun, hco, hik⟩ ih_115
      dsimp only at hl hW hrun hco hik ⊢
      have hk12 : k ≤ 12 := by omega
      refine lv_iload_n hx hb dX10_run_115 rfl (lv_at hl 1 rfl) ?_
      refine lv_aload_n hx hb dX10_run_116 rfl (lv_at hl 0 rfl) ?_
      refine md_get_commandMany C hW dX10_run_117 ?_
      refine r_eq (y := (nI k)) (rfl) ?_
      refine r_geN hx hb (a := i) (b := k) (by omega) (by omega) (tgt := 180) dX10_run_120 (by decide) (fun c_120 => ?_) (fun c_120 => ?_)
      · refine lv_aload_n hx hb dX10_run_180 rfl (lv_at hl 0 rfl) ?_
        refine lv_aload_n hx hb dX10_run_181 rfl (lv_at hl 0 rfl) ?_
        refine md_get_commandMany C hW dX10_run_182 ?_
        refine r_eq (y := (nI k)) (rfl) ?_
        refine md_calli C hml hl.1 (As := [.int (nI k)]) (rest := []) (m_changed l D aT ad (sr (psT (rnS S sz) u wr k cm) 0 mm) (nI k) 0 ch rfl (by decide) hch hc8) gT_changed hd_changed rfl ⟨Nat.le_of_ble_eq_true rfl, Nat.le_of_ble_eq_true rfl⟩ ⟨Nat.le_refl _, Nat.le_refl _⟩ hW hA rfl (Nat.le_of_ble_eq_true rfl) dX10_run_185 (fun r_185 S_185 H locs hq hW => ?_)
        obtain ⟨rfl, rfl⟩ := hq
        have hW : MdB D aT ad (runC S sz u k cm mm ch) A s.heap H locs := by rw [if_pos rfl] at hW; subst c_96; exact hW
        exact md_iret C hr hlocks rfl hW (Or.inr (Or.inr ⟨u, k, cm, mm, by rw [← h2 c_35, c_96], by rw [show k = i by omega]; exact hrun, by rw [show k = i by omega]; exact hco, rfl, rfl⟩)) dX10_run_188
      · refine lv_aload_n hx hb dX10_run_123 rfl (lv_at hl 0 rfl) ?_
        refine lv_iconst (v := nI 4) hx hb dX10_run_124 (by decide) ?_
        refine lv_iload_n hx hb dX10_run_125 rfl (lv_at hl 1 rfl) ?_
        refine r_imulN hx hb (a := 4) (b := i) dX10_run_126 ?_
        obtain ⟨w, hw7, hw⟩ := hcm i (by omega)
        obtain ⟨s0, hs4, hs0⟩ := hco.2.2.1
        refine md_callv C hml hl.1 (As := [.int (nI (4 * i))]) (rest := []) (m_does_all l D aT ad (sr (psT (rnS S sz) u wr k cm) 0 mm) (4 * i) s0 w hw7 (by omega) hw hco.1 hco.2.1 hs0 hs4) gT_does hd_does rfl ⟨Nat.le_of_ble_eq_true rfl, Nat.le_of_ble_eq_true rfl⟩ ⟨Nat.le_refl _, Nat.le_refl _⟩ hW hA rfl (Nat.le_of_ble_eq_true rfl) dX10_run_127 (fun S_127 H locs hq hW => ?_)
        rcases hq with ⟨hd, t, ht0, ht4, rfl⟩ | ⟨m1, hd, rfl⟩
        · refine lv_aload_n hx hb dX10_run_130 rfl (lv_at hl 0 rfl) ?_
          refine md_get_thrown C hW dX10_run_131 ?_
          refine r_eq (y := (nI t)) (rfl) ?_
          refine r_ifleN hx hb (a := t) (by omega) (tgt := 174) dX10_run_134 (by decide) (fun c_134 => ?_) (fun c_134 => ?_)
          · exact absurd c_134 (by omega)
          · refine lv_iconst (v := nI 0) hx hb dX10_run_137 (by decide) ?_
            refine lv_istore_n (lv' := [(3, .int (nI 0)), (0, .ref (ad 0)), (2, .int (nI i))]) hx hb dX10_run_138 rfl hl (by decide) rfl (fun ls hl => ?_)
            refine W_loopH (σ := Nat) (fun z_ => 77 - z_) (fun z_ H locs g => ∃ ls, g = F0 m 139 ls [] ∧ lv_has ls 4 [(0, .ref (ad 0)), (2, .int (nI i)), (3, .int (nI z_))] ∧ MdB D aT ad (sr (ss (sr (psT (rnS S sz) u wr k cm) 0 mm) 8 (nI t)) 0 (cpyF mm (cpyF (S 1) (S 0) 77) z_)) A s.heap H locs ∧ (z_ ≤ 77)) ?_ 0 _ ⟨_, rfl, lv_sub hl [1, 2, 0] rfl, (by have e0 := sr_self (ss (sr (psT (rnS S sz) u wr k cm) 0 mm) 8 (nI t)) 0; rw [cpyF_0]; rw [← e0] at hW; exact hW), Nat.zero_le _⟩
            clear hW hl
            rintro j H locs g ⟨ls, rfl, hl, hW, hj⟩ ih_139
            refine lv_iload_n hx hb dX10_run_139 rfl (lv_at hl 2 rfl) ?_
            refine lv_bipush (v := nI 77) hx hb dX10_run_140 (by decide) ?_
            refine r_geN hx hb (a := j) (b := 77) (by omega) (by omega) (tgt := 163) dX10_run_142 (by decide) (fun c_142 => ?_) (fun c_142 => ?_)
            · refine lv_aload_n hx hb dX10_run_163 rfl (lv_at hl 0 rfl) ?_
              refine lv_iload_n hx hb dX10_run_164 rfl (lv_at hl 1 rfl) ?_
              refine md_put_failed C hW dX10_run_165 (fun H locs hW => ?_)
              have hW : MdB D aT ad (ss (sr (ss (sr (psT (rnS S sz) u wr k cm) 0 mm) 8 (nI t)) 0 (cpyF mm (cpyF (S 1) (S 0) 77) j)) 7 (nI i)) A s.heap H locs := hW
              refine lv_aload_n hx hb dX10_run_168 rfl (lv_at hl 0 rfl) ?_
              refine lv_iconst (v := nI 2) hx hb dX10_run_169 (by decide) ?_
              refine md_calli C hml hl.1 (As := [.int (nI 2)]) (rest := []) (m_throwing l D aT ad (ss (sr (ss (sr (psT (rnS S sz) u wr k cm) 0 mm) 8 (nI t)) 0 (cpyF mm (cpyF (S 1) (S 0) 77) j)) 7 (nI i)) 2) gT_throwing hd_throwing rfl ⟨Nat.le_of_ble_eq_true rfl, Nat.le_of_ble_eq_true rfl⟩ ⟨Nat.le_refl _, Nat.le_refl _⟩ hW hA rfl (Nat.le_of_ble_eq_true rfl) dX10_run_170 (fun r_170 S_170 H locs hq hW => ?_)
              obtain ⟨rfl, rfl⟩ := hq
              exact md_iret C hr hlocks rfl hW (Or.inr (Or.inl ⟨u, k, cm, mm, t, i, by rw [← h2 c_35, c_96], by omega, hrun, by rw [runF_s hrun hw hw7]; exact hd, rfl, by subst c_96; rw [show j = 77 by omega]; rfl⟩)) dX10_run_173
            · refine lv_aload_n hx hb dX10_run_145 rfl (lv_at hl 0 rfl) ?_
              refine md_geta_m C hW dX10_run_146 ?_
              refine lv_iload_n hx hb dX10_run_149 rfl (lv_at hl 2 rfl) ?_
              refine lv_aload_n hx hb dX10_run_150 rfl (lv_at hl 0 rfl) ?_
              refine md_geta_aside C hW dX10_run_151 ?_
              refine lv_iload_n hx hb dX10_run_154 rfl (lv_at hl 2 rfl) ?_
              refine md_ald_aside C hW (i := j) (by omega) dX10_run_155 ?_
              refine md_ast_m C hW (i := j) (by omega) dX10_run_156 (fun H locs hW => ?_)
              have hW : MdB D aT ad (sr (sr (ss (sr (psT (rnS S sz) u wr k cm) 0 mm) 8 (nI t)) 0 (cpyF mm (cpyF (S 1) (S 0) 77) j)) 0 (upd ((sr (ss (sr (psT (rnS S sz) u wr k cm) 0 mm) 8 (nI t)) 0 (cpyF mm (cpyF (S 1) (S 0) 77) j)) 0) j (((sr (ss (sr (psT (rnS S sz) u wr k cm) 0 mm) 8 (nI t)) 0 (cpyF mm (cpyF (S 1) (S 0) 77) j)) 1 j)))) A s.heap H locs := hW
              refine lv_iinc (v := (nI (j + 1))) (lv' := [(3, .int (nI (j + 1))), (0, .ref (ad 0)), (2, .int (nI i))]) hx hb dX10_run_157 hl (k := 2) rfl (nI_1 _) (by decide) rfl (fun ls hl => ?_)
              refine lv_goto (tgt := 139) hx hb dX10_run_160 (by decide) ?_
              exact ih_139 (j + 1) _ _ _ (by omega) ⟨_, rfl, lv_sub hl [1, 2, 0] rfl, (by rw [sr_sr, sr_s] at hW; exact (congrArg (fun F_ => MdB D aT ad (sr (ss (sr (psT (rnS S sz) u wr k cm) 0 mm) 8 (nI t)) 0 F_) A s.heap H locs) (cpyF_1 mm (cpyF (S 1) (S 0) 77) j)).mp hW), (by omega)⟩
        · have hW : MdB D aT ad (sr (psT (rnS S sz) u wr k cm) 0 m1) A s.heap H locs := by rw [sr_sr] at hW; exact hW
          refine lv_aload_n hx hb dX10_run_130 rfl (lv_at hl 0 rfl) ?_
          refine md_get_thrown C hW dX10_run_131 ?_
          refine r_eq (y := (nI 0)) (rfl) ?_
          refine r_ifleN hx hb (a := 0) (by omega) (tgt := 174) dX10_run_134 (by decide) (fun c_134 => ?_) (fun c_134 => ?_)
          · refine lv_iinc (v := (nI (i + 1))) (lv' := [(2, .int (nI (i + 1))), (0, .ref (ad 0))]) hx hb dX10_run_174 hl (k := 1) rfl (nI_1 _) (by decide) rfl (fun ls hl => ?_)
            refine lv_goto (tgt := 115) hx hb dX10_run_177 (by decide) ?_
            exact ih_115 (m1, (i + 1)) _ _ _ (by dsimp only; omega) ⟨_, rfl, lv_sub hl [1, 0] rfl, hW, ⟨by rw [runF_s hrun hw hw7]; exact hd, CoW.do hco (show B + i < 1048576 by omega) hw7 hd, by (try dsimp only); omega⟩⟩
          · exact absurd c_134 (by decide)
    · refine lv_aload_n hx hb dX10_run_99 rfl (lv_at hl 0 rfl) ?_
      refine lv_aload_n hx hb dX10_run_100 rfl (lv_at hl 0 rfl) ?_
      refine md_get_place0 C hW dX10_run_101 ?_
      refine r_eq (y := (nI u)) (rfl) ?_
      refine md_put_errorAt C hW dX10_run_104 (fun H locs hW => ?_)
      have hW : MdB D aT ad (ss (psT (rnS S sz) u wr k cm) 6 (nI u)) A s.heap H locs := hW
      refine lv_aload_n hx hb dX10_run_107 rfl (lv_at hl 0 rfl) ?_
      refine lv_iconst (v := nI 1) hx hb dX10_run_108 (by decide) ?_
      refine md_calli C hml hl.1 (As := [.int (nI 1)]) (rest := []) (m_throwing l D aT ad (ss (psT (rnS S sz) u wr k cm) 6 (nI u)) 1) gT_throwing hd_throwing rfl ⟨Nat.le_of_ble_eq_true rfl, Nat.le_of_ble_eq_true rfl⟩ ⟨Nat.le_refl _, Nat.le_refl _⟩ hW hA rfl (Nat.le_of_ble_eq_true rfl) dX10_run_109 (fun r_109 S_109 H locs hq hW => ?_)
      obtain ⟨rfl, rfl⟩ := hq
      exact md_iret C hr hlocks rfl hW (Or.inl ⟨u, k, cm, by rw [← h2 c_35, c_96], rfl, by subst c_96; rfl⟩) dX10_run_112
  · obtain ⟨rfl, d, hd, hR⟩ := h1 c_35
    refine lv_aload_n hx hb dX10_run_38 rfl (lv_at hl 0 rfl) ?_
    refine md_callv C hml hl.1 (As := []) (rest := []) (m_readCommand l D aT ad (rnS S sz) u sz k cm hsz h60 hu (by omega) hwd) gT_readCommand hd_readCommand rfl ⟨Nat.le_of_ble_eq_true rfl, Nat.le_of_ble_eq_true rfl⟩ ⟨Nat.le_refl _, Nat.le_refl _⟩ hW hA rfl (Nat.le_of_ble_eq_true rfl) dX10_run_39 (fun S_39 H locs hq hW => ?_)
    subst hq
    have hc := cmdP_ok (f := S 4) hu h5 hcm
    refine lv_aload_n hx hb dX10_run_42 rfl (lv_at hl 0 rfl) ?_
    refine md_get_isWrong C hW dX10_run_43 ?_
    refine r_eq (y := (bI ((cmdP (S 4) sz k cm u).1.2))) (rfl) ?_
    refine r_bI_ne hx hb (b := (cmdP (S 4) sz k cm u).1.2) (tgt := 64) dX10_run_46 (by decide) (fun c_46 => ?_) (fun c_46 => ?_)
    · refine lv_iconst (v := nI 0) hx hb dX10_run_64 (by decide) ?_
      refine lv_istore_n (lv' := [(1, .int (nI 0)), (0, .ref (ad 0))]) hx hb dX10_run_65 rfl hl (by decide) rfl (fun ls hl => ?_)
      refine lv_iload_n hx hb dX10_run_66 rfl (lv_at hl 0 rfl) ?_
      refine r_ifeqN hx hb (a := 0) (by omega) (tgt := 34) dX10_run_67 (by decide) (fun c_67 => ?_) (fun c_67 => ?_)
      · exact ih_34 ((cmdP (S 4) sz k cm u).1.1, (cmdP (S 4) sz k cm u).1.2, (cmdP (S 4) sz k cm u).2.1, (cmdP (S 4) sz k cm u).2.2, false) _ _ _ (by first | exact muR_0 c_35 | exact muR_1 c_35 (by have := expP_f c_80; dsimp only; omega) he.1) ⟨_, rfl, lv_sub hl [1, 0] rfl, hW, ⟨(fun z => by cases z), (fun _ => by rw [← hR, prsF_1 (Or.inl c_46)]), hc.1, hc.2.2.1, hc.2.2.2⟩⟩
      · exact absurd c_67 (by decide)
    · refine lv_aload_n hx hb dX10_run_49 rfl (lv_at hl 0 rfl) ?_
      refine md_get_place0 C hW dX10_run_50 ?_
      refine r_eq (y := (nI ((cmdP (S 4) sz k cm u).1.1))) (rfl) ?_
      refine lv_aload_n hx hb dX10_run_53 rfl (lv_at hl 0 rfl) ?_
      refine md_get_size0 C hW dX10_run_54 ?_
      refine r_eq (y := (nI sz)) (rfl) ?_
      refine r_geN hx hb (a := (cmdP (S 4) sz k cm u).1.1) (b := sz) (by have := hc.1; omega) (by have := hc.1; omega) (tgt := 64) dX10_run_57 (by decide) (fun c_57 => ?_) (fun c_57 => ?_)
      · refine lv_iconst (v := nI 0) hx hb dX10_run_64 (by decide) ?_
        refine lv_istore_n (lv' := [(1, .int (nI 0)), (0, .ref (ad 0))]) hx hb dX10_run_65 rfl hl (by decide) rfl (fun ls hl => ?_)
        refine lv_iload_n hx hb dX10_run_66 rfl (lv_at hl 0 rfl) ?_
        refine r_ifeqN hx hb (a := 0) (by omega) (tgt := 34) dX10_run_67 (by decide) (fun c_67 => ?_) (fun c_67 => ?_)
        · exact ih_34 ((cmdP (S 4) sz k cm u).1.1, (cmdP (S 4) sz k cm u).1.2, (cmdP (S 4) sz k cm u).2.1, (cmdP (S 4) sz k cm u).2.2, false) _ _ _ (by first | exact muR_0 c_35 | exact muR_1 c_35 (by have := expP_f c_80; dsimp only; omega) he.1) ⟨_, rfl, lv_sub hl [1, 0] rfl, hW, ⟨(fun z => by cases z), (fun _ => by rw [← hR, prsF_1 (Or.inr c_57)]), hc.1, hc.2.2.1, hc.2.2.2⟩⟩
        · exact absurd c_67 (by decide)
      · refine lv_iconst (v := nI 1) hx hb dX10_run_60 (by decide) ?_
        refine lv_goto (tgt := 65) hx hb dX10_run_61 (by decide) ?_
        refine lv_istore_n (lv' := [(1, .int (nI 1)), (0, .ref (ad 0))]) hx hb dX10_run_65 rfl hl (by decide) rfl (fun ls hl => ?_)
        refine lv_iload_n hx hb dX10_run_66 rfl (lv_at hl 0 rfl) ?_
        refine r_ifeqN hx hb (a := 1) (by omega) (tgt := 34) dX10_run_67 (by decide) (fun c_67 => ?_) (fun c_67 => ?_)
        · exact absurd c_67 (by decide)
        · refine lv_aload_n hx hb dX10_run_70 rfl (lv_at hl 1 rfl) ?_
          refine lv_bipush (v := nI 59) hx hb dX10_run_71 (by decide) ?_
          refine md_callv C hml hl.1 (As := [.int (nI 59)]) (rest := []) (m_expects l D aT ad (rnS S sz) ((cmdP (S 4) sz k cm u).1.1) sz ((cmdP (S 4) sz k cm u).2.1) ((cmdP (S 4) sz k cm u).1.2) ((cmdP (S 4) sz k cm u).2.2) hsz h60 hc.1 (nI 59)) gT_expects hd_expects rfl ⟨Nat.le_of_ble_eq_true rfl, Nat.le_of_ble_eq_true rfl⟩ ⟨Nat.le_refl _, Nat.le_refl _⟩ hW hA rfl (Nat.le_of_ble_eq_true rfl) dX10_run_73 (fun S_73 H locs hq hW => ?_)
          subst hq
          refine lv_aload_n hx hb dX10_run_76 rfl (lv_at hl 1 rfl) ?_
          refine md_get_isWrong C hW dX10_run_77 ?_
          refine r_eq (y := (bI ((expP (S 4) sz (nI 59) (cmdP (S 4) sz k cm u).1).2))) (rfl) ?_
          refine r_bI_ne hx hb (b := (expP (S 4) sz (nI 59) (cmdP (S 4) sz k cm u).1).2) (tgt := 87) dX10_run_80 (by decide) (fun c_80 => ?_) (fun c_80 => ?_)
          · have he := expP_le (f := S 4) (c := nI 59) (s := (cmdP (S 4) sz k cm u).1) (by decide) hc.1
            refine lv_iconst (v := nI 0) hx hb dX10_run_87 (by decide) ?_
            refine lv_istore_n (lv' := [(1, .int (nI 0)), (0, .ref (ad 0))]) hx hb dX10_run_88 rfl hl (by decide) rfl (fun ls hl => ?_)
            refine lv_goto (tgt := 34) hx hb dX10_run_89 (by decide) ?_
            exact ih_34 ((expP (S 4) sz (nI 59) (cmdP (S 4) sz k cm u).1).1, (expP (S 4) sz (nI 59) (cmdP (S 4) sz k cm u).1).2, (cmdP (S 4) sz k cm u).2.1, (cmdP (S 4) sz k cm u).2.2, false) _ _ _ (by first | exact muR_0 c_35 | exact muR_1 c_35 (by have := expP_f c_80; dsimp only; omega) he.1) ⟨_, rfl, lv_sub hl [1, 0] rfl, hW, ⟨(fun z => by cases z), (fun _ => by rw [← hR, prsF_2 c_46 c_57 c_80]), he.1, Nat.le_trans hc.2.2.1 he.2, hc.2.2.2⟩⟩
          · have he := expP_le (f := S 4) (c := nI 59) (s := (cmdP (S 4) sz k cm u).1) (by decide) hc.1
            refine lv_iconst (v := nI 1) hx hb dX10_run_83 (by decide) ?_
            refine lv_goto (tgt := 88) hx hb dX10_run_84 (by decide) ?_
            refine lv_istore_n (lv' := [(1, .int (nI 1)), (0, .ref (ad 0))]) hx hb dX10_run_88 rfl hl (by decide) rfl (fun ls hl => ?_)
            refine lv_goto (tgt := 34) hx hb dX10_run_89 (by decide) ?_
            exact ih_34 ((expP (S 4) sz (nI 59) (cmdP (S 4) sz k cm u).1).1, (expP (S 4) sz (nI 59) (cmdP (S 4) sz k cm u).1).2, (cmdP (S 4) sz k cm u).2.1, (cmdP (S 4) sz k cm u).2.2, true) _ _ _ (by first | exact muR_0 c_35 | exact muR_1 c_35 (by have := expP_f c_80; dsimp only; omega) he.1) ⟨_, rfl, lv_sub hl [1, 0] rfl, hW, ⟨(fun _ => ⟨c_80, d - 1, by have := expP_f c_80; dsimp only; omega, by rw [← hR, prsF_3 c_46 c_57 c_80, show d - 1 + 1 = d by omega]⟩), (fun z => by cases z), he.1, Nat.le_trans hc.2.2.1 he.2, hc.2.2.2⟩⟩
