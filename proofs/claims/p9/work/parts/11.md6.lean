/-- the state when a changing call begins; when it has failed; when it has changed the row -/
def begS (S : MSt) : MSt := sr (ss S 8 (nI 0)) 1 (cpyF (S 1) (S 0) 77)
def faiS (S : MSt) (t : Nat) : MSt := ss (begS S) 8 (nI t)
def chgS (S : MSt) (m : Nat → Int32) (ch : Nat) : MSt := ss (sr (sr (begS S) 0 m) 3 (pstF (S 3) (begS S 1) ch)) 5 (nI (min ch 7 + 1))
def c16 (x : Int32) : Int32 := (x.toUInt32 % 65536).toInt32
theorem dX10_addHedge_0 : decode cX10_addHedge 0 = .ok (.aload_n 0, 1) := by decide +kernel
theorem dX10_addHedge_1 : decode cX10_addHedge 1 = .ok (.invokevirtual 104, 3) := by decide +kernel
theorem dX10_addHedge_4 : decode cX10_addHedge 4 = .ok (.aload_n 0, 1) := by decide +kernel
theorem dX10_addHedge_5 : decode cX10_addHedge 5 = .ok (.aload_n 0, 1) := by decide +kernel
theorem dX10_addHedge_6 : decode cX10_addHedge 6 = .ok (.iload_n 1, 1) := by decide +kernel
theorem dX10_addHedge_7 : decode cX10_addHedge 7 = .ok (.iload_n 2, 1) := by decide +kernel
theorem dX10_addHedge_8 : decode cX10_addHedge 8 = .ok (.iload_n 3, 1) := by decide +kernel
theorem dX10_addHedge_9 : decode cX10_addHedge 9 = .ok (.invokevirtual 107, 3) := by decide +kernel
theorem dX10_addHedge_12 : decode cX10_addHedge 12 = .ok (.invokevirtual 111, 3) := by decide +kernel
theorem dX10_addHedge_15 : decode cX10_addHedge 15 = .ok (.ireturn, 1) := by decide +kernel
set_option maxHeartbeats 1000000 in
set_option maxRecDepth 20000 in
theorem m_addHedge (l : Launch) (D : va_G) (aT : Nat → ClassId) (ad : Nat → Nat) (S : MSt) (x y z : Int32) (h : Nat) (hn : S 0 0 = nI h) (h6 : h ≤ 6) (ch : Nat) (hch : S 13 5 = nI ch) (hc8 : ch ≤ 8) : MdI l yX10_addHedge cX10_addHedge 4 .int 2 49 D aT ad [.ref (ad 0), .int x, .int y, .int z] S (fun r S1 => ((rgB 1 99 x && rgB 0 9 y && rgB 0 9 z) = false ∧ r = -1 ∧ S1 = faiS S 1) ∨ ((rgB 1 99 x && rgB 0 9 y && rgB 0 9 z) = true ∧ h = 6 ∧ r = -1 ∧ S1 = faiS S 2) ∨ ((rgB 1 99 x && rgB 0 9 y && rgB 0 9 z) = true ∧ h < 6 ∧ r = nI h ∧ S1 = chgS S (hedgeF (S 0) h x y z) ch)) := by
  refine MdI.of (by decide +kernel) rfl (Nat.le_of_ble_eq_true rfl) ?_
  intro p e s m below meth c A ls C hml hl hA hr hlocks hW
  have hl : lv_has ls 4 [(0, .ref (ad 0)), (1, .int x), (2, .int y), (3, .int z)] := hl
  have hx := C.1
  have hb := C.2.1
  refine lv_aload_n hx hb dX10_addHedge_0 rfl (lv_at hl 0 rfl) ?_
  refine md_callv C hml hl.1 (As := []) (rest := []) (m_starts l D aT ad S) gT_starts hd_starts rfl ⟨Nat.le_of_ble_eq_true rfl, Nat.le_of_ble_eq_true rfl⟩ ⟨Nat.le_refl _, Nat.le_refl _⟩ hW hA rfl (Nat.le_of_ble_eq_true rfl) dX10_addHedge_1 (fun S_1 H locs hq hW => ?_)
  subst hq
  have hW : MdB D aT ad (begS S) A s.heap H locs := hW
  refine lv_aload_n hx hb dX10_addHedge_4 rfl (lv_at hl 0 rfl) ?_
  refine lv_aload_n hx hb dX10_addHedge_5 rfl (lv_at hl 0 rfl) ?_
  refine lv_iload_n hx hb dX10_addHedge_6 rfl (lv_at hl 1 rfl) ?_
  refine lv_iload_n hx hb dX10_addHedge_7 rfl (lv_at hl 2 rfl) ?_
  refine lv_iload_n hx hb dX10_addHedge_8 rfl (lv_at hl 3 rfl) ?_
  refine md_calli C hml hl.1 (As := [.int x, .int y, .int z]) (rest := [.ref (ad 0)]) (m_hedgeIt l D aT ad (begS S) x y z h hn h6) gT_hedgeIt hd_hedgeIt rfl ⟨Nat.le_of_ble_eq_true rfl, Nat.le_of_ble_eq_true rfl⟩ ⟨Nat.le_refl _, Nat.le_refl _⟩ hW hA rfl (Nat.le_of_ble_eq_true rfl) dX10_addHedge_9 (fun r_9 S_9 H locs hq hW => ?_)
  rcases hq with ⟨h1, rfl, rfl⟩ | ⟨h1, h2, rfl, rfl⟩ | ⟨h1, h2, rfl, rfl⟩
  · refine md_calli C hml hl.1 (As := [.int (-1)]) (rest := []) (m_changed l D aT ad (ss (begS S) 8 (nI 1)) ((-1)) 1 ch (ss_s _ _ _) (by decide) hch hc8) gT_changed hd_changed rfl ⟨Nat.le_of_ble_eq_true rfl, Nat.le_of_ble_eq_true rfl⟩ ⟨Nat.le_refl _, Nat.le_refl _⟩ hW hA rfl (Nat.le_of_ble_eq_true rfl) dX10_addHedge_12 (fun r_12 S_12 H locs hq hW => ?_)
    obtain ⟨rfl, rfl⟩ := hq
    have hW : MdB D aT ad (faiS S 1) A s.heap H locs := by rw [if_neg (by decide)] at hW; exact hW
    exact md_iret C hr hlocks rfl hW (Or.inl ⟨h1, rfl, rfl⟩) dX10_addHedge_15
  · refine md_calli C hml hl.1 (As := [.int (-1)]) (rest := []) (m_changed l D aT ad (ss (begS S) 8 (nI 2)) ((-1)) 2 ch (ss_s _ _ _) (by decide) hch hc8) gT_changed hd_changed rfl ⟨Nat.le_of_ble_eq_true rfl, Nat.le_of_ble_eq_true rfl⟩ ⟨Nat.le_refl _, Nat.le_refl _⟩ hW hA rfl (Nat.le_of_ble_eq_true rfl) dX10_addHedge_12 (fun r_12 S_12 H locs hq hW => ?_)
    obtain ⟨rfl, rfl⟩ := hq
    have hW : MdB D aT ad (faiS S 2) A s.heap H locs := by rw [if_neg (by decide)] at hW; exact hW
    exact md_iret C hr hlocks rfl hW (Or.inr (Or.inl ⟨h1, h2, rfl, rfl⟩)) dX10_addHedge_15
  · refine md_calli C hml hl.1 (As := [.int (nI h)]) (rest := []) (m_changed l D aT ad (sr (begS S) 0 (hedgeF (S 0) h x y z)) ((nI h)) 0 ch (rfl) (by decide) hch hc8) gT_changed hd_changed rfl ⟨Nat.le_of_ble_eq_true rfl, Nat.le_of_ble_eq_true rfl⟩ ⟨Nat.le_refl _, Nat.le_refl _⟩ hW hA rfl (Nat.le_of_ble_eq_true rfl) dX10_addHedge_12 (fun r_12 S_12 H locs hq hW => ?_)
    obtain ⟨rfl, rfl⟩ := hq
    have hW : MdB D aT ad (chgS S (hedgeF (S 0) h x y z) ch) A s.heap H locs := by rw [if_pos rfl] at hW; exact hW
    exact md_iret C hr hlocks rfl hW (Or.inr (Or.inr ⟨h1, h2, rfl, rfl⟩)) dX10_addHedge_15
theorem dX10_propose_0 : decode cX10_propose 0 = .ok (.aload_n 0, 1) := by decide +kernel
theorem dX10_propose_1 : decode cX10_propose 1 = .ok (.invokevirtual 104, 3) := by decide +kernel
theorem dX10_propose_4 : decode cX10_propose 4 = .ok (.aload_n 0, 1) := by decide +kernel
theorem dX10_propose_5 : decode cX10_propose 5 = .ok (.aload_n 0, 1) := by decide +kernel
theorem dX10_propose_6 : decode cX10_propose 6 = .ok (.iload_n 1, 1) := by decide +kernel
theorem dX10_propose_7 : decode cX10_propose 7 = .ok (.iload_n 2, 1) := by decide +kernel
theorem dX10_propose_8 : decode cX10_propose 8 = .ok (.invokevirtual 119, 3) := by decide +kernel
theorem dX10_propose_11 : decode cX10_propose 11 = .ok (.invokevirtual 111, 3) := by decide +kernel
theorem dX10_propose_14 : decode cX10_propose 14 = .ok (.ireturn, 1) := by decide +kernel
set_option maxHeartbeats 1000000 in
set_option maxRecDepth 20000 in
theorem m_propose (l : Launch) (D : va_G) (aT : Nat → ClassId) (ad : Nat → Nat) (S : MSt) (x y : Int32) (n : Nat) (hn : S 0 2 = nI n) (h12 : n ≤ 12) (ch : Nat) (hch : S 13 5 = nI ch) (hc8 : ch ≤ 8) : MdI l yX10_propose cX10_propose 3 .int 2 47 D aT ad [.ref (ad 0), .int x, .int y] S (fun r S1 => ((rgB 0 9 x && rgB 1 20 y) = false ∧ r = -1 ∧ S1 = faiS S 1) ∨ ((rgB 0 9 x && rgB 1 20 y) = true ∧ n = 12 ∧ r = -1 ∧ S1 = faiS S 2) ∨ ((rgB 0 9 x && rgB 1 20 y) = true ∧ n < 12 ∧ r = S 0 1 ∧ S1 = chgS S (addF (S 0) n (-1) x y) ch)) := by
  refine MdI.of (by decide +kernel) rfl (Nat.le_of_ble_eq_true rfl) ?_
  intro p e s m below meth c A ls C hml hl hA hr hlocks hW
  have hl : lv_has ls 3 [(0, .ref (ad 0)), (1, .int x), (2, .int y)] := hl
  have hx := C.1
  have hb := C.2.1
  refine lv_aload_n hx hb dX10_propose_0 rfl (lv_at hl 0 rfl) ?_
  refine md_callv C hml hl.1 (As := []) (rest := []) (m_starts l D aT ad S) gT_starts hd_starts rfl ⟨Nat.le_of_ble_eq_true rfl, Nat.le_of_ble_eq_true rfl⟩ ⟨Nat.le_refl _, Nat.le_refl _⟩ hW hA rfl (Nat.le_of_ble_eq_true rfl) dX10_propose_1 (fun S_1 H locs hq hW => ?_)
  subst hq
  have hW : MdB D aT ad (begS S) A s.heap H locs := hW
  refine lv_aload_n hx hb dX10_propose_4 rfl (lv_at hl 0 rfl) ?_
  refine lv_aload_n hx hb dX10_propose_5 rfl (lv_at hl 0 rfl) ?_
  refine lv_iload_n hx hb dX10_propose_6 rfl (lv_at hl 1 rfl) ?_
  refine lv_iload_n hx hb dX10_propose_7 rfl (lv_at hl 2 rfl) ?_
  refine md_calli C hml hl.1 (As := [.int x, .int y]) (rest := [.ref (ad 0)]) (m_mainIt l D aT ad (begS S) x y n hn h12) gT_mainIt hd_mainIt rfl ⟨Nat.le_of_ble_eq_true rfl, Nat.le_of_ble_eq_true rfl⟩ ⟨Nat.le_refl _, Nat.le_refl _⟩ hW hA rfl (Nat.le_of_ble_eq_true rfl) dX10_propose_8 (fun r_8 S_8 H locs hq hW => ?_)
  rcases hq with ⟨h1, rfl, rfl⟩ | ⟨h1, h2, rfl, rfl⟩ | ⟨h1, h2, rfl, rfl⟩
  · refine md_calli C hml hl.1 (As := [.int (-1)]) (rest := []) (m_changed l D aT ad (ss (begS S) 8 (nI 1)) ((-1)) 1 ch (ss_s _ _ _) (by decide) hch hc8) gT_changed hd_changed rfl ⟨Nat.le_of_ble_eq_true rfl, Nat.le_of_ble_eq_true rfl⟩ ⟨Nat.le_refl _, Nat.le_refl _⟩ hW hA rfl (Nat.le_of_ble_eq_true rfl) dX10_propose_11 (fun r_11 S_11 H locs hq hW => ?_)
    obtain ⟨rfl, rfl⟩ := hq
    have hW : MdB D aT ad (faiS S 1) A s.heap H locs := by rw [if_neg (by decide)] at hW; exact hW
    exact md_iret C hr hlocks rfl hW (Or.inl ⟨h1, rfl, rfl⟩) dX10_propose_14
  · refine md_calli C hml hl.1 (As := [.int (-1)]) (rest := []) (m_changed l D aT ad (ss (begS S) 8 (nI 2)) ((-1)) 2 ch (ss_s _ _ _) (by decide) hch hc8) gT_changed hd_changed rfl ⟨Nat.le_of_ble_eq_true rfl, Nat.le_of_ble_eq_true rfl⟩ ⟨Nat.le_refl _, Nat.le_refl _⟩ hW hA rfl (Nat.le_of_ble_eq_true rfl) dX10_propose_11 (fun r_11 S_11 H locs hq hW => ?_)
    obtain ⟨rfl, rfl⟩ := hq
    have hW : MdB D aT ad (faiS S 2) A s.heap H locs := by rw [if_neg (by decide)] at hW; exact hW
    exact md_iret C hr hlocks rfl hW (Or.inr (Or.inl ⟨h1, h2, rfl, rfl⟩)) dX10_propose_14
  · refine md_calli C hml hl.1 (As := [.int (S 0 1)]) (rest := []) (m_changed l D aT ad (sr (begS S) 0 (addF (S 0) n (-1) x y)) ((S 0 1)) 0 ch (rfl) (by decide) hch hc8) gT_changed hd_changed rfl ⟨Nat.le_of_ble_eq_true rfl, Nat.le_of_ble_eq_true rfl⟩ ⟨Nat.le_refl _, Nat.le_refl _⟩ hW hA rfl (Nat.le_of_ble_eq_true rfl) dX10_propose_11 (fun r_11 S_11 H locs hq hW => ?_)
    obtain ⟨rfl, rfl⟩ := hq
    have hW : MdB D aT ad (chgS S (addF (S 0) n (-1) x y) ch) A s.heap H locs := by rw [if_pos rfl] at hW; exact hW
    exact md_iret C hr hlocks rfl hW (Or.inr (Or.inr ⟨h1, h2, rfl, rfl⟩)) dX10_propose_14
theorem dX10_amend_0 : decode cX10_amend 0 = .ok (.aload_n 0, 1) := by decide +kernel
theorem dX10_amend_1 : decode cX10_amend 1 = .ok (.invokevirtual 104, 3) := by decide +kernel
theorem dX10_amend_4 : decode cX10_amend 4 = .ok (.aload_n 0, 1) := by decide +kernel
theorem dX10_amend_5 : decode cX10_amend 5 = .ok (.aload_n 0, 1) := by decide +kernel
theorem dX10_amend_6 : decode cX10_amend 6 = .ok (.iload_n 1, 1) := by decide +kernel
theorem dX10_amend_7 : decode cX10_amend 7 = .ok (.iload_n 2, 1) := by decide +kernel
theorem dX10_amend_8 : decode cX10_amend 8 = .ok (.iload_n 3, 1) := by decide +kernel
theorem dX10_amend_9 : decode cX10_amend 9 = .ok (.invokevirtual 122, 3) := by decide +kernel
theorem dX10_amend_12 : decode cX10_amend 12 = .ok (.invokevirtual 111, 3) := by decide +kernel
theorem dX10_amend_15 : decode cX10_amend 15 = .ok (.ireturn, 1) := by decide +kernel
set_option maxHeartbeats 1000000 in
set_option maxRecDepth 20000 in
theorem m_amend (l : Launch) (D : va_G) (aT : Nat → ClassId) (ad : Nat → Nat) (S : MSt) (x y z : Int32) (n : Nat) (hn : S 0 2 = nI n) (h12 : n ≤ 12) (ch : Nat) (hch : S 13 5 = nI ch) (hc8 : ch ≤ 8) : MdI l yX10_amend cX10_amend 4 .int 3 67 D aT ad [.ref (ad 0), .int x, .int y, .int z] S (fun r S1 => (fnd (fun k => S 0 (29 + 4 * k)) x n = none ∧ r = -1 ∧ S1 = faiS S 1) ∨ (∃ q, fnd (fun k => S 0 (29 + 4 * k)) x n = some q ∧ (rgB 0 9 y && rgB 1 20 z) = false ∧ r = -1 ∧ S1 = faiS S 2) ∨ (∃ q, fnd (fun k => S 0 (29 + 4 * k)) x n = some q ∧ (rgB 0 9 y && rgB 1 20 z) = true ∧ n = 12 ∧ r = -1 ∧ S1 = faiS S 3) ∨ (∃ q, fnd (fun k => S 0 (29 + 4 * k)) x n = some q ∧ (rgB 0 9 y && rgB 1 20 z) = true ∧ n < 12 ∧ r = S 0 1 ∧ S1 = chgS S (addF (S 0) n x y z) ch)) := by
  refine MdI.of (by decide +kernel) rfl (Nat.le_of_ble_eq_true rfl) ?_
  intro p e s m below meth c A ls C hml hl hA hr hlocks hW
  have hl : lv_has ls 4 [(0, .ref (ad 0)), (1, .int x), (2, .int y), (3, .int z)] := hl
  have hx := C.1
  have hb := C.2.1
  refine lv_aload_n hx hb dX10_amend_0 rfl (lv_at hl 0 rfl) ?_
  refine md_callv C hml hl.1 (As := []) (rest := []) (m_starts l D aT ad S) gT_starts hd_starts rfl ⟨Nat.le_of_ble_eq_true rfl, Nat.le_of_ble_eq_true rfl⟩ ⟨Nat.le_refl _, Nat.le_refl _⟩ hW hA rfl (Nat.le_of_ble_eq_true rfl) dX10_amend_1 (fun S_1 H locs hq hW => ?_)
  subst hq
  have hW : MdB D aT ad (begS S) A s.heap H locs := hW
  refine lv_aload_n hx hb dX10_amend_4 rfl (lv_at hl 0 rfl) ?_
  refine lv_aload_n hx hb dX10_amend_5 rfl (lv_at hl 0 rfl) ?_
  refine lv_iload_n hx hb dX10_amend_6 rfl (lv_at hl 1 rfl) ?_
  refine lv_iload_n hx hb dX10_amend_7 rfl (lv_at hl 2 rfl) ?_
  refine lv_iload_n hx hb dX10_amend_8 rfl (lv_at hl 3 rfl) ?_
  refine md_calli C hml hl.1 (As := [.int x, .int y, .int z]) (rest := [.ref (ad 0)]) (m_amendIt l D aT ad (begS S) x y z n hn h12) gT_amendIt hd_amendIt rfl ⟨Nat.le_of_ble_eq_true rfl, Nat.le_of_ble_eq_true rfl⟩ ⟨Nat.le_refl _, Nat.le_refl _⟩ hW hA rfl (Nat.le_of_ble_eq_true rfl) dX10_amend_9 (fun r_9 S_9 H locs hq hW => ?_)
  rcases hq with ⟨h1, rfl, rfl⟩ | ⟨q, h1, h2, rfl, rfl⟩ | ⟨q, h1, h2, h3, rfl, rfl⟩ | ⟨q, h1, h2, h3, rfl, rfl⟩
  · refine md_calli C hml hl.1 (As := [.int (-1)]) (rest := []) (m_changed l D aT ad (ss (begS S) 8 (nI 1)) ((-1)) 1 ch (ss_s _ _ _) (by decide) hch hc8) gT_changed hd_changed rfl ⟨Nat.le_of_ble_eq_true rfl, Nat.le_of_ble_eq_true rfl⟩ ⟨Nat.le_refl _, Nat.le_refl _⟩ hW hA rfl (Nat.le_of_ble_eq_true rfl) dX10_amend_12 (fun r_12 S_12 H locs hq hW => ?_)
    obtain ⟨rfl, rfl⟩ := hq
    have hW : MdB D aT ad (faiS S 1) A s.heap H locs := by rw [if_neg (by decide)] at hW; exact hW
    exact md_iret C hr hlocks rfl hW (Or.inl ⟨h1, rfl, rfl⟩) dX10_amend_15
  · refine md_calli C hml hl.1 (As := [.int (-1)]) (rest := []) (m_changed l D aT ad (ss (begS S) 8 (nI 2)) ((-1)) 2 ch (ss_s _ _ _) (by decide) hch hc8) gT_changed hd_changed rfl ⟨Nat.le_of_ble_eq_true rfl, Nat.le_of_ble_eq_true rfl⟩ ⟨Nat.le_refl _, Nat.le_refl _⟩ hW hA rfl (Nat.le_of_ble_eq_true rfl) dX10_amend_12 (fun r_12 S_12 H locs hq hW => ?_)
    obtain ⟨rfl, rfl⟩ := hq
    have hW : MdB D aT ad (faiS S 2) A s.heap H locs := by rw [if_neg (by decide)] at hW; exact hW
    exact md_iret C hr hlocks rfl hW (Or.inr (Or.inl ⟨q, h1, h2, rfl, rfl⟩)) dX10_amend_15
  · refine md_calli C hml hl.1 (As := [.int (-1)]) (rest := []) (m_changed l D aT ad (ss (begS S) 8 (nI 3)) ((-1)) 3 ch (ss_s _ _ _) (by decide) hch hc8) gT_changed hd_changed rfl ⟨Nat.le_of_ble_eq_true rfl, Nat.le_of_ble_eq_true rfl⟩ ⟨Nat.le_refl _, Nat.le_refl _⟩ hW hA rfl (Nat.le_of_ble_eq_true rfl) dX10_amend_12 (fun r_12 S_12 H locs hq hW => ?_)
    obtain ⟨rfl, rfl⟩ := hq
    have hW : MdB D aT ad (faiS S 3) A s.heap H locs := by rw [if_neg (by decide)] at hW; exact hW
    exact md_iret C hr hlocks rfl hW (Or.inr (Or.inr (Or.inl ⟨q, h1, h2, h3, rfl, rfl⟩))) dX10_amend_15
  · refine md_calli C hml hl.1 (As := [.int (S 0 1)]) (rest := []) (m_changed l D aT ad (sr (begS S) 0 (addF (S 0) n x y z)) ((S 0 1)) 0 ch (rfl) (by decide) hch hc8) gT_changed hd_changed rfl ⟨Nat.le_of_ble_eq_true rfl, Nat.le_of_ble_eq_true rfl⟩ ⟨Nat.le_refl _, Nat.le_refl _⟩ hW hA rfl (Nat.le_of_ble_eq_true rfl) dX10_amend_12 (fun r_12 S_12 H locs hq hW => ?_)
    obtain ⟨rfl, rfl⟩ := hq
    have hW : MdB D aT ad (chgS S (addF (S 0) n x y z) ch) A s.heap H locs := by rw [if_pos rfl] at hW; exact hW
    exact md_iret C hr hlocks rfl hW (Or.inr (Or.inr (Or.inr ⟨q, h1, h2, h3, rfl, rfl⟩))) dX10_amend_15
theorem dX10_prune_0 : decode cX10_prune 0 = .ok (.aload_n 0, 1) := by decide +kernel
theorem dX10_prune_1 : decode cX10_prune 1 = .ok (.invokevirtual 104, 3) := by decide +kernel
theorem dX10_prune_4 : decode cX10_prune 4 = .ok (.aload_n 0, 1) := by decide +kernel
theorem dX10_prune_5 : decode cX10_prune 5 = .ok (.aload_n 0, 1) := by decide +kernel
theorem dX10_prune_6 : decode cX10_prune 6 = .ok (.iload_n 1, 1) := by decide +kernel
theorem dX10_prune_7 : decode cX10_prune 7 = .ok (.iload_n 2, 1) := by decide +kernel
theorem dX10_prune_8 : decode cX10_prune 8 = .ok (.invokevirtual 132, 3) := by decide +kernel
theorem dX10_prune_11 : decode cX10_prune 11 = .ok (.invokevirtual 111, 3) := by decide +kernel
theorem dX10_prune_14 : decode cX10_prune 14 = .ok (.ireturn, 1) := by decide +kernel
set_option maxHeartbeats 1000000 in
set_option maxRecDepth 20000 in
theorem m_prune (l : Launch) (D : va_G) (aT : Nat → ClassId) (ad : Nat → Nat) (S : MSt) (x y : Int32) (hF : FoW (S 0)) (ch : Nat) (hch : S 13 5 = nI ch) (hc8 : ch ≤ 8) : MdI l yX10_prune cX10_prune 3 .int 5 114 D aT ad [.ref (ad 0), .int x, .int y] S (fun r S1 => (fnd (fun k => S 0 (29 + 4 * k)) x (nM (S 0)) = none ∧ r = -1 ∧ S1 = faiS S 1) ∨ (∃ q, fnd (fun k => S 0 (29 + 4 * k)) x (nM (S 0)) = some q ∧ rgB 0 9 y = false ∧ r = -1 ∧ S1 = faiS S 2) ∨ (∃ q v, fnd (fun k => S 0 (29 + 4 * k)) x (nM (S 0)) = some q ∧ y = nI v ∧ v ≤ 9 ∧ rgB 0 9 y = true ∧ r = nI (prnR (S 0) q v).2 ∧ S1 = chgS S (prnR (S 0) q v).1 ch)) := by
  refine MdI.of (by decide +kernel) rfl (Nat.le_of_ble_eq_true rfl) ?_
  intro p e s m below meth c A ls C hml hl hA hr hlocks hW
  have hl : lv_has ls 3 [(0, .ref (ad 0)), (1, .int x), (2, .int y)] := hl
  have hx := C.1
  have hb := C.2.1
  refine lv_aload_n hx hb dX10_prune_0 rfl (lv_at hl 0 rfl) ?_
  refine md_callv C hml hl.1 (As := []) (rest := []) (m_starts l D aT ad S) gT_starts hd_starts rfl ⟨Nat.le_of_ble_eq_true rfl, Nat.le_of_ble_eq_true rfl⟩ ⟨Nat.le_refl _, Nat.le_refl _⟩ hW hA rfl (Nat.le_of_ble_eq_true rfl) dX10_prune_1 (fun S_1 H locs hq hW => ?_)
  subst hq
  have hW : MdB D aT ad (begS S) A s.heap H locs := hW
  refine lv_aload_n hx hb dX10_prune_4 rfl (lv_at hl 0 rfl) ?_
  refine lv_aload_n hx hb dX10_prune_5 rfl (lv_at hl 0 rfl) ?_
  refine lv_iload_n hx hb dX10_prune_6 rfl (lv_at hl 1 rfl) ?_
  refine lv_iload_n hx hb dX10_prune_7 rfl (lv_at hl 2 rfl) ?_
  refine md_calli C hml hl.1 (As := [.int x, .int y]) (rest := [.ref (ad 0)]) (m_pruneIt l D aT ad (begS S) x y hF) gT_pruneIt hd_pruneIt rfl ⟨Nat.le_of_ble_eq_true rfl, Nat.le_of_ble_eq_true rfl⟩ ⟨Nat.le_refl _, Nat.le_refl _⟩ hW hA rfl (Nat.le_of_ble_eq_true rfl) dX10_prune_8 (fun r_8 S_8 H locs hq hW => ?_)
  rcases hq with ⟨h1, rfl, rfl⟩ | ⟨q, h1, h2, rfl, rfl⟩ | ⟨q, v, h1, h2, h9, h3, rfl, rfl⟩
  · refine md_calli C hml hl.1 (As := [.int (-1)]) (rest := []) (m_changed l D aT ad (ss (begS S) 8 (nI 1)) ((-1)) 1 ch (ss_s _ _ _) (by decide) hch hc8) gT_changed hd_changed rfl ⟨Nat.le_of_ble_eq_true rfl, Nat.le_of_ble_eq_true rfl⟩ ⟨Nat.le_refl _, Nat.le_refl _⟩ hW hA rfl (Nat.le_of_ble_eq_true rfl) dX10_prune_11 (fun r_11 S_11 H locs hq hW => ?_)
    obtain ⟨rfl, rfl⟩ := hq
    have hW : MdB D aT ad (faiS S 1) A s.heap H locs := by rw [if_neg (by decide)] at hW; exact hW
    exact md_iret C hr hlocks rfl hW (Or.inl ⟨h1, rfl, rfl⟩) dX10_prune_14
  · refine md_calli C hml hl.1 (As := [.int (-1)]) (rest := []) (m_changed l D aT ad (ss (begS S) 8 (nI 2)) ((-1)) 2 ch (ss_s _ _ _) (by decide) hch hc8) gT_changed hd_changed rfl ⟨Nat.le_of_ble_eq_true rfl, Nat.le_of_ble_eq_true rfl⟩ ⟨Nat.le_refl _, Nat.le_refl _⟩ hW hA rfl (Nat.le_of_ble_eq_true rfl) dX10_prune_11 (fun r_11 S_11 H locs hq hW => ?_)
    obtain ⟨rfl, rfl⟩ := hq
    have hW : MdB D aT ad (faiS S 2) A s.heap H locs := by rw [if_neg (by decide)] at hW; exact hW
    exact md_iret C hr hlocks rfl hW (Or.inr (Or.inl ⟨q, h1, h2, rfl, rfl⟩)) dX10_prune_14
  · refine md_calli C hml hl.1 (As := [.int (nI ((prnR (S 0) q v).2))]) (rest := []) (m_changed l D aT ad (sr (begS S) 0 ((prnR (S 0) q v).1)) ((nI ((prnR (S 0) q v).2))) 0 ch (rfl) (by decide) hch hc8) gT_changed hd_changed rfl ⟨Nat.le_of_ble_eq_true rfl, Nat.le_of_ble_eq_true rfl⟩ ⟨Nat.le_refl _, Nat.le_refl _⟩ hW hA rfl (Nat.le_of_ble_eq_true rfl) dX10_prune_11 (fun r_11 S_11 H locs hq hW => ?_)
    obtain ⟨rfl, rfl⟩ := hq
    have hW : MdB D aT ad (chgS S ((prnR (S 0) q v).1) ch) A s.heap H locs := by rw [if_pos rfl] at hW; exact hW
    exact md_iret C hr hlocks rfl hW (Or.inr (Or.inr ⟨q, v, h1, h2, h9, h3, rfl, rfl⟩)) dX10_prune_14
theorem dX10_regrow_0 : decode cX10_regrow 0 = .ok (.aload_n 0, 1) := by decide +kernel
theorem dX10_regrow_1 : decode cX10_regrow 1 = .ok (.invokevirtual 104, 3) := by decide +kernel
theorem dX10_regrow_4 : decode cX10_regrow 4 = .ok (.aload_n 0, 1) := by decide +kernel
theorem dX10_regrow_5 : decode cX10_regrow 5 = .ok (.aload_n 0, 1) := by decide +kernel
theorem dX10_regrow_6 : decode cX10_regrow 6 = .ok (.iload_n 1, 1) := by decide +kernel
theorem dX10_regrow_7 : decode cX10_regrow 7 = .ok (.invokevirtual 141, 3) := by decide +kernel
theorem dX10_regrow_10 : decode cX10_regrow 10 = .ok (.invokevirtual 111, 3) := by decide +kernel
theorem dX10_regrow_13 : decode cX10_regrow 13 = .ok (.ireturn, 1) := by decide +kernel
set_option maxHeartbeats 1000000 in
set_option maxRecDepth 20000 in
theorem m_regrow (l : Launch) (D : va_G) (aT : Nat → ClassId) (ad : Nat → Nat) (S : MSt) (x : Int32) (hF : FoW (S 0)) (ch : Nat) (hch : S 13 5 = nI ch) (hc8 : ch ≤ 8) : MdI l yX10_regrow cX10_regrow 2 .int 6 134 D aT ad [.ref (ad 0), .int x] S (fun r S1 => (fnd (fun k => S 0 (29 + 4 * k)) x (nM (S 0)) = none ∧ r = -1 ∧ S1 = faiS S 1) ∨ (∃ q, fnd (fun k => S 0 (29 + 4 * k)) x (nM (S 0)) = some q ∧ nM (S 0) = 12 ∧ r = -1 ∧ S1 = faiS S 2) ∨ (∃ q t, fnd (fun k => S 0 (29 + 4 * k)) x (nM (S 0)) = some q ∧ nM (S 0) < 12 ∧ ltp (prM (S 0)) (nM (S 0)) q (nM (S 0)) = some t ∧ r = S 0 1 ∧ S1 = chgS S (addF (S 0) (nM (S 0)) (S 0 (29 + 4 * t)) (nI ((tnM (S 0) t + 1) % 10)) (hlfF (S 0 (29 + 4 * t + 3)))) ch)) := by
  refine MdI.of (by decide +kernel) rfl (Nat.le_of_ble_eq_true rfl) ?_
  intro p e s m below meth c A ls C hml hl hA hr hlocks hW
  have hl : lv_has ls 2 [(0, .ref (ad 0)), (1, .int x)] := hl
  have hx := C.1
  have hb := C.2.1
  refine lv_aload_n hx hb dX10_regrow_0 rfl (lv_at hl 0 rfl) ?_
  refine md_callv C hml hl.1 (As := []) (rest := []) (m_starts l D aT ad S) gT_starts hd_starts rfl ⟨Nat.le_of_ble_eq_true rfl, Nat.le_of_ble_eq_true rfl⟩ ⟨Nat.le_refl _, Nat.le_refl _⟩ hW hA rfl (Nat.le_of_ble_eq_true rfl) dX10_regrow_1 (fun S_1 H locs hq hW => ?_)
  subst hq
  have hW : MdB D aT ad (begS S) A s.heap H locs := hW
  refine lv_aload_n hx hb dX10_regrow_4 rfl (lv_at hl 0 rfl) ?_
  refine lv_aload_n hx hb dX10_regrow_5 rfl (lv_at hl 0 rfl) ?_
  refine lv_iload_n hx hb dX10_regrow_6 rfl (lv_at hl 1 rfl) ?_
  refine md_calli C hml hl.1 (As := [.int x]) (rest := [.ref (ad 0)]) (m_regrowIt l D aT ad (begS S) x hF) gT_regrowIt hd_regrowIt rfl ⟨Nat.le_of_ble_eq_true rfl, Nat.le_of_ble_eq_true rfl⟩ ⟨Nat.le_refl _, Nat.le_refl _⟩ hW hA rfl (Nat.le_of_ble_eq_true rfl) dX10_regrow_7 (fun r_7 S_7 H locs hq hW => ?_)
  rcases hq with ⟨h1, rfl, rfl⟩ | ⟨q, h1, h2, rfl, rfl⟩ | ⟨q, t, h1, h2, h3, rfl, rfl⟩
  · refine md_calli C hml hl.1 (As := [.int (-1)]) (rest := []) (m_changed l D aT ad (ss (begS S) 8 (nI 1)) ((-1)) 1 ch (ss_s _ _ _) (by decide) hch hc8) gT_changed hd_changed rfl ⟨Nat.le_of_ble_eq_true rfl, Nat.le_of_ble_eq_true rfl⟩ ⟨Nat.le_refl _, Nat.le_refl _⟩ hW hA rfl (Nat.le_of_ble_eq_true rfl) dX10_regrow_10 (fun r_10 S_10 H locs hq hW => ?_)
    obtain ⟨rfl, rfl⟩ := hq
    have hW : MdB D aT ad (faiS S 1) A s.heap H locs := by rw [if_neg (by decide)] at hW; exact hW
    exact md_iret C hr hlocks rfl hW (Or.inl ⟨h1, rfl, rfl⟩) dX10_regrow_13
  · refine md_calli C hml hl.1 (As := [.int (-1)]) (rest := []) (m_changed l D aT ad (ss (begS S) 8 (nI 2)) ((-1)) 2 ch (ss_s _ _ _) (by decide) hch hc8) gT_changed hd_changed rfl ⟨Nat.le_of_ble_eq_true rfl, Nat.le_of_ble_eq_true rfl⟩ ⟨Nat.le_refl _, Nat.le_refl _⟩ hW hA rfl (Nat.le_of_ble_eq_true rfl) dX10_regrow_10 (fun r_10 S_10 H locs hq hW => ?_)
    obtain ⟨rfl, rfl⟩ := hq
    have hW : MdB D aT ad (faiS S 2) A s.heap H locs := by rw [if_neg (by decide)] at hW; exact hW
    exact md_iret C hr hlocks rfl hW (Or.inr (Or.inl ⟨q, h1, h2, rfl, rfl⟩)) dX10_regrow_13
  · refine md_calli C hml hl.1 (As := [.int (S 0 1)]) (rest := []) (m_changed l D aT ad (sr (begS S) 0 (addF (S 0) (nM (S 0)) (S 0 (29 + 4 * t)) (nI ((tnM (S 0) t + 1) % 10)) (hlfF (S 0 (29 + 4 * t + 3))))) ((S 0 1)) 0 ch (rfl) (by decide) hch hc8) gT_changed hd_changed rfl ⟨Nat.le_of_ble_eq_true rfl, Nat.le_of_ble_eq_true rfl⟩ ⟨Nat.le_refl _, Nat.le_refl _⟩ hW hA rfl (Nat.le_of_ble_eq_true rfl) dX10_regrow_10 (fun r_10 S_10 H locs hq hW => ?_)
    obtain ⟨rfl, rfl⟩ := hq
    have hW : MdB D aT ad (chgS S (addF (S 0) (nM (S 0)) (S 0 (29 + 4 * t)) (nI ((tnM (S 0) t + 1) % 10)) (hlfF (S 0 (29 + 4 * t + 3)))) ch) A s.heap H locs := by rw [if_pos rfl] at hW; exact hW
    exact md_iret C hr hlocks rfl hW (Or.inr (Or.inr ⟨q, t, h1, h2, h3, rfl, rfl⟩)) dX10_regrow_13
theorem dX10_vote_0 : decode cX10_vote 0 = .ok (.aload_n 0, 1) := by decide +kernel
theorem dX10_vote_1 : decode cX10_vote 1 = .ok (.invokevirtual 104, 3) := by decide +kernel
theorem dX10_vote_4 : decode cX10_vote 4 = .ok (.aload_n 0, 1) := by decide +kernel
theorem dX10_vote_5 : decode cX10_vote 5 = .ok (.aload_n 0, 1) := by decide +kernel
theorem dX10_vote_6 : decode cX10_vote 6 = .ok (.iload_n 1, 1) := by decide +kernel
theorem dX10_vote_7 : decode cX10_vote 7 = .ok (.invokevirtual 157, 3) := by decide +kernel
theorem dX10_vote_10 : decode cX10_vote 10 = .ok (.invokevirtual 111, 3) := by decide +kernel
theorem dX10_vote_13 : decode cX10_vote 13 = .ok (.i2c, 1) := by decide +kernel
theorem dX10_vote_14 : decode cX10_vote 14 = .ok (.ireturn, 1) := by decide +kernel
set_option maxHeartbeats 1000000 in
set_option maxRecDepth 20000 in
theorem m_vote (l : Launch) (D : va_G) (aT : Nat → ClassId) (ad : Nat → Nat) (S : MSt) (x : Int32) (s0 : Nat) (hF : FoW (S 0)) (hH : HeW (S 0)) (hs : S 0 3 = nI s0) (hs4 : s0 < 4) (ch : Nat) (hch : S 13 5 = nI ch) (hc8 : ch ≤ 8) : MdI l yX10_vote cX10_vote 2 .char 5 112 D aT ad [.ref (ad 0), .int x] S (fun r S1 => (fnd (fun k => S 0 (29 + 4 * k)) x (nM (S 0)) = none ∧ r = c16 (-1) ∧ S1 = faiS S 1) ∨ (∃ q, fnd (fun k => S 0 (29 + 4 * k)) x (nM (S 0)) = some q ∧ (hM (S 0) = 0 ∨ tipB (prM (S 0)) q (nM (S 0)) = false) ∧ r = c16 (-1) ∧ S1 = faiS S 2) ∨ (∃ q, fnd (fun k => S 0 (29 + 4 * k)) x (nM (S 0)) = some q ∧ 0 < hM (S 0) ∧ tipB (prM (S 0)) q (nM (S 0)) = true ∧ r = c16 (nI (votC (S 0) q)) ∧ S1 = chgS S (votF (S 0) q) ch)) := by
  refine MdI.of (by decide +kernel) rfl (Nat.le_of_ble_eq_true rfl) ?_
  intro p e s m below meth c A ls C hml hl hA hr hlocks hW
  have hl : lv_has ls 2 [(0, .ref (ad 0)), (1, .int x)] := hl
  have hx := C.1
  have hb := C.2.1
  refine lv_aload_n hx hb dX10_vote_0 rfl (lv_at hl 0 rfl) ?_
  refine md_callv C hml hl.1 (As := []) (rest := []) (m_starts l D aT ad S) gT_starts hd_starts rfl ⟨Nat.le_of_ble_eq_true rfl, Nat.le_of_ble_eq_true rfl⟩ ⟨Nat.le_refl _, Nat.le_refl _⟩ hW hA rfl (Nat.le_of_ble_eq_true rfl) dX10_vote_1 (fun S_1 H locs hq hW => ?_)
  subst hq
  have hW : MdB D aT ad (begS S) A s.heap H locs := hW
  refine lv_aload_n hx hb dX10_vote_4 rfl (lv_at hl 0 rfl) ?_
  refine lv_aload_n hx hb dX10_vote_5 rfl (lv_at hl 0 rfl) ?_
  refine lv_iload_n hx hb dX10_vote_6 rfl (lv_at hl 1 rfl) ?_
  refine md_calli C hml hl.1 (As := [.int x]) (rest := [.ref (ad 0)]) (m_voteIt l D aT ad (begS S) x s0 hF hH hs hs4) gT_voteIt hd_voteIt rfl ⟨Nat.le_of_ble_eq_true rfl, Nat.le_of_ble_eq_true rfl⟩ ⟨Nat.le_refl _, Nat.le_refl _⟩ hW hA rfl (Nat.le_of_ble_eq_true rfl) dX10_vote_7 (fun r_7 S_7 H locs hq hW => ?_)
  rcases hq with ⟨h1, rfl, rfl⟩ | ⟨q, h1, h2, rfl, rfl⟩ | ⟨q, h1, h2, h3, rfl, rfl⟩
  · refine md_calli C hml hl.1 (As := [.int (-1)]) (rest := []) (m_changed l D aT ad (ss (begS S) 8 (nI 1)) ((-1)) 1 ch (ss_s _ _ _) (by decide) hch hc8) gT_changed hd_changed rfl ⟨Nat.le_of_ble_eq_true rfl, Nat.le_of_ble_eq_true rfl⟩ ⟨Nat.le_refl _, Nat.le_refl _⟩ hW hA rfl (Nat.le_of_ble_eq_true rfl) dX10_vote_10 (fun r_10 S_10 H locs hq hW => ?_)
    obtain ⟨rfl, rfl⟩ := hq
    have hW : MdB D aT ad (faiS S 1) A s.heap H locs := by rw [if_neg (by decide)] at hW; exact hW
    refine lv_i2c (v := c16 (-1)) hx hb dX10_vote_13 (rfl) ?_
    exact md_iret C hr hlocks (pk_nc _) hW (Or.inl ⟨h1, rfl, rfl⟩) dX10_vote_14
  · refine md_calli C hml hl.1 (As := [.int (-1)]) (rest := []) (m_changed l D aT ad (ss (begS S) 8 (nI 2)) ((-1)) 2 ch (ss_s _ _ _) (by decide) hch hc8) gT_changed hd_changed rfl ⟨Nat.le_of_ble_eq_true rfl, Nat.le_of_ble_eq_true rfl⟩ ⟨Nat.le_refl _, Nat.le_refl _⟩ hW hA rfl (Nat.le_of_ble_eq_true rfl) dX10_vote_10 (fun r_10 S_10 H locs hq hW => ?_)
    obtain ⟨rfl, rfl⟩ := hq
    have hW : MdB D aT ad (faiS S 2) A s.heap H locs := by rw [if_neg (by decide)] at hW; exact hW
    refine lv_i2c (v := c16 (-1)) hx hb dX10_vote_13 (rfl) ?_
    exact md_iret C hr hlocks (pk_nc _) hW (Or.inr (Or.inl ⟨q, h1, h2, rfl, rfl⟩)) dX10_vote_14
  · refine md_calli C hml hl.1 (As := [.int (nI (votC (S 0) q))]) (rest := []) (m_changed l D aT ad (sr (begS S) 0 (votF (S 0) q)) ((nI (votC (S 0) q))) 0 ch (rfl) (by decide) hch hc8) gT_changed hd_changed rfl ⟨Nat.le_of_ble_eq_true rfl, Nat.le_of_ble_eq_true rfl⟩ ⟨Nat.le_refl _, Nat.le_refl _⟩ hW hA rfl (Nat.le_of_ble_eq_true rfl) dX10_vote_10 (fun r_10 S_10 H locs hq hW => ?_)
    obtain ⟨rfl, rfl⟩ := hq
    have hW : MdB D aT ad (chgS S (votF (S 0) q) ch) A s.heap H locs := by rw [if_pos rfl] at hW; exact hW
    refine lv_i2c (v := c16 (nI (votC (S 0) q))) hx hb dX10_vote_13 (rfl) ?_
    exact md_iret C hr hlocks (pk_nc _) hW (Or.inr (Or.inr ⟨q, h1, h2, h3, rfl, rfl⟩)) dX10_vote_14
theorem dX10_passSeason_0 : decode cX10_passSeason 0 = .ok (.aload_n 0, 1) := by decide +kernel
theorem dX10_passSeason_1 : decode cX10_passSeason 1 = .ok (.invokevirtual 104, 3) := by decide +kernel
theorem dX10_passSeason_4 : decode cX10_passSeason 4 = .ok (.aload_n 0, 1) := by decide +kernel
theorem dX10_passSeason_5 : decode cX10_passSeason 5 = .ok (.aload_n 0, 1) := by decide +kernel
theorem dX10_passSeason_6 : decode cX10_passSeason 6 = .ok (.invokevirtual 163, 3) := by decide +kernel
theorem dX10_passSeason_9 : decode cX10_passSeason 9 = .ok (.invokevirtual 111, 3) := by decide +kernel
theorem dX10_passSeason_12 : decode cX10_passSeason 12 = .ok (.ireturn, 1) := by decide +kernel
set_option maxHeartbeats 1000000 in
set_option maxRecDepth 20000 in
theorem m_passSeason (l : Launch) (D : va_G) (aT : Nat → ClassId) (ad : Nat → Nat) (S : MSt) (s0 : Nat) (hH : HeW (S 0)) (hs : S 0 3 = nI s0) (hs4 : s0 < 4) (ch : Nat) (hch : S 13 5 = nI ch) (hc8 : ch ≤ 8) : MdI l yX10_passSeason cX10_passSeason 1 .int 2 46 D aT ad [.ref (ad 0)] S (fun r S1 => r = nI ((s0 + 1) % 4) ∧ S1 = chgS S (seaF ((s0 + 1) % 4) (upd (S 0) 3 (nI ((s0 + 1) % 4))) (hM (S 0))) ch) := by
  refine MdI.of (by decide +kernel) rfl (Nat.le_of_ble_eq_true rfl) ?_
  intro p e s m below meth c A ls C hml hl hA hr hlocks hW
  have hl : lv_has ls 1 [(0, .ref (ad 0))] := hl
  have hx := C.1
  have hb := C.2.1
  refine lv_aload_n hx hb dX10_passSeason_0 rfl (lv_at hl 0 rfl) ?_
  refine md_callv C hml hl.1 (As := []) (rest := []) (m_starts l D aT ad S) gT_starts hd_starts rfl ⟨Nat.le_of_ble_eq_true rfl, Nat.le_of_ble_eq_true rfl⟩ ⟨Nat.le_refl _, Nat.le_refl _⟩ hW hA rfl (Nat.le_of_ble_eq_true rfl) dX10_passSeason_1 (fun S_1 H locs hq hW => ?_)
  subst hq
  have hW : MdB D aT ad (begS S) A s.heap H locs := hW
  refine lv_aload_n hx hb dX10_passSeason_4 rfl (lv_at hl 0 rfl) ?_
  refine lv_aload_n hx hb dX10_passSeason_5 rfl (lv_at hl 0 rfl) ?_
  refine md_calli C hml hl.1 (As := []) (rest := [.ref (ad 0)]) (m_seasonIt l D aT ad (begS S) s0 hH hs hs4) gT_seasonIt hd_seasonIt rfl ⟨Nat.le_of_ble_eq_true rfl, Nat.le_of_ble_eq_true rfl⟩ ⟨Nat.le_refl _, Nat.le_refl _⟩ hW hA rfl (Nat.le_of_ble_eq_true rfl) dX10_passSeason_6 (fun r_6 S_6 H locs hq hW => ?_)
  rcases hq with ⟨rfl, rfl⟩
  · refine md_calli C hml hl.1 (As := [.int (nI ((s0 + 1) % 4))]) (rest := []) (m_changed l D aT ad (sr (begS S) 0 (seaF ((s0 + 1) % 4) (upd (S 0) 3 (nI ((s0 + 1) % 4))) (hM (S 0)))) ((nI ((s0 + 1) % 4))) 0 ch (rfl) (by decide) hch hc8) gT_changed hd_changed rfl ⟨Nat.le_of_ble_eq_true rfl, Nat.le_of_ble_eq_true rfl⟩ ⟨Nat.le_refl _, Nat.le_refl _⟩ hW hA rfl (Nat.le_of_ble_eq_true rfl) dX10_passSeason_9 (fun r_9 S_9 H locs hq hW => ?_)
    obtain ⟨rfl, rfl⟩ := hq
    have hW : MdB D aT ad (chgS S (seaF ((s0 + 1) % 4) (upd (S 0) 3 (nI ((s0 + 1) % 4))) (hM (S 0))) ch) A s.heap H locs := by rw [if_pos rfl] at hW; exact hW
    exact md_iret C hr hlocks rfl hW (⟨rfl, rfl⟩) dX10_passSeason_12
