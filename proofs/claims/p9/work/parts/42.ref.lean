theorem dX10_meanLeaves_0 : decode cX10_meanLeaves 0 = .ok (.aload_n 0, 1) := by decide +kernel
theorem dX10_meanLeaves_1 : decode cX10_meanLeaves 1 = .ok (.iconst 0, 1) := by decide +kernel
theorem dX10_meanLeaves_2 : decode cX10_meanLeaves 2 = .ok (.putfield 57, 3) := by decide +kernel
theorem dX10_meanLeaves_5 : decode cX10_meanLeaves 5 = .ok (.aload_n 0, 1) := by decide +kernel
theorem dX10_meanLeaves_6 : decode cX10_meanLeaves 6 = .ok (.getfield 9, 3) := by decide +kernel
theorem dX10_meanLeaves_9 : decode cX10_meanLeaves 9 = .ok (.iconst 0, 1) := by decide +kernel
theorem dX10_meanLeaves_10 : decode cX10_meanLeaves 10 = .ok (.iaload, 1) := by decide +kernel
theorem dX10_meanLeaves_11 : decode cX10_meanLeaves 11 = .ok (.ifCond .ne 11, 3) := by decide +kernel
theorem dX10_meanLeaves_14 : decode cX10_meanLeaves 14 = .ok (.aload_n 0, 1) := by decide +kernel
theorem dX10_meanLeaves_15 : decode cX10_meanLeaves 15 = .ok (.iconst 1, 1) := by decide +kernel
theorem dX10_meanLeaves_16 : decode cX10_meanLeaves 16 = .ok (.invokevirtual 101, 3) := by decide +kernel
theorem dX10_meanLeaves_19 : decode cX10_meanLeaves 19 = .ok (.pop, 1) := by decide +kernel
theorem dX10_meanLeaves_20 : decode cX10_meanLeaves 20 = .ok (.dconst 0, 1) := by decide +kernel
theorem dX10_meanLeaves_21 : decode cX10_meanLeaves 21 = .ok (.dreturn, 1) := by decide +kernel
theorem dX10_meanLeaves_22 : decode cX10_meanLeaves 22 = .ok (.aload_n 0, 1) := by decide +kernel
theorem dX10_meanLeaves_23 : decode cX10_meanLeaves 23 = .ok (.invokevirtual 150, 3) := by decide +kernel
theorem dX10_meanLeaves_26 : decode cX10_meanLeaves 26 = .ok (.i2d, 1) := by decide +kernel
theorem dX10_meanLeaves_27 : decode cX10_meanLeaves 27 = .ok (.aload_n 0, 1) := by decide +kernel
theorem dX10_meanLeaves_28 : decode cX10_meanLeaves 28 = .ok (.getfield 9, 3) := by decide +kernel
theorem dX10_meanLeaves_31 : decode cX10_meanLeaves 31 = .ok (.iconst 0, 1) := by decide +kernel
theorem dX10_meanLeaves_32 : decode cX10_meanLeaves 32 = .ok (.iaload, 1) := by decide +kernel
theorem dX10_meanLeaves_33 : decode cX10_meanLeaves 33 = .ok (.i2d, 1) := by decide +kernel
theorem dX10_meanLeaves_34 : decode cX10_meanLeaves 34 = .ok (.ddiv, 1) := by decide +kernel
theorem dX10_meanLeaves_35 : decode cX10_meanLeaves 35 = .ok (.dreturn, 1) := by decide +kernel
set_option maxRecDepth 20000 in
theorem m_meanLeaves (l : Launch) (D : va_G) (aT : Nat → ClassId) (ad : Nat → Nat) (S : MSt) (h : Nat) (lv th ta : Nat → Nat) (hH : HeR (S 0) h lv th ta) : ∀ sz, Met l yX10_meanLeaves (Cond.code yX10_meanLeaves cX10_meanLeaves 1 (some .double) :: gw) (mdR 2 60) (va_Pc [.ref (ad 0)] (mdB1 D aT ad S sz)) (va_Qd (fun r S1 => (h = 0 ∧ S1 = ss (ss S 8 (nI 0)) 8 (nI 1)) ∨ (0 < h ∧ vf_n64 r ∧ r = FP.ddiv (FP.i2d (nI (sml lv h))) (FP.i2d (nI h)) ∧ S1 = ss S 8 (nI 0))) (mdB2 D aT ad S sz) (va_A (mdW aT ad S) sz)) 0 0 (va_A (mdW aT ad S) sz) := by
  have hsm := sml_le (lv := lv) (i := h) (fun k hk => (hH.2.2.1 k hk).2.2)
  have h6 := hH.2.1
  intro sz
  refine Met.ofW (cc := cX10_meanLeaves) (maxL := 1) (ret := some .double) (by decide +kernel) rfl ?_
  intro p e s m args below meth c s₁ B hml hv
  obtain ⟨rfl, hsz, hP, hK, hD0⟩ := hv
  have hts := atoms_spec (ws := Cond.code yX10_meanLeaves cX10_meanLeaves 1 (some .double) :: gw) B.pre
  have hown : s.vm.findClass RX10 = some m.cls := findClass_of_methodNamed B.named
  subst hsz
  have hl := lv_entry [.ref (ad 0)] (n := 1) (Nat.le_of_ble_eq_true rfl)
  rw [lg_entry_eq]
  generalize (lg_sl [.ref (ad 0)] ++ List.replicate (1 - (lg_sl [.ref (ad 0)]).length) Slot.unset).toArray = ls at hl ⊢
  have hl : lv_has ls 1 [(0, .ref (ad 0))] := hl
  have hx := B.exec
  have hb := B.bytes
  have C : MdX p c cX10_meanLeaves s [Value.ref (ad 0)].toArray m D aT := ⟨hx, hb, fun w hw => hts w (List.mem_cons_of_mem _ hw), hown, hK⟩
  have hA : ∀ q, s.heap.size ≤ q → va_A (mdW aT ad S) s.heap.size q := fun q h => Or.inr h
  have hW : MdB D aT ad S (va_A (mdW aT ad S) s.heap.size) s.heap s.heap [] := ⟨hP, hD0.self (sz := s.heap.size), va_S.rf⟩
  refine lv_aload_n hx hb dX10_meanLeaves_0 rfl (lv_at hl 0 rfl) ?_
  refine lv_iconst (v := nI 0) hx hb dX10_meanLeaves_1 (by decide) ?_
  refine md_put_thrown C hW dX10_meanLeaves_2 (fun H locs hW => ?_)
  refine lv_aload_n hx hb dX10_meanLeaves_5 rfl (lv_at hl 0 rfl) ?_
  refine md_geta_m C hW dX10_meanLeaves_6 ?_
  refine lv_iconst (v := nI 0) hx hb dX10_meanLeaves_9 (by decide) ?_
  refine md_ald_m C hW (i := 0) (by decide) dX10_meanLeaves_10 ?_
  refine r_eq (y := nI h) (by show S 0 0 = nI h; exact hH.1) ?_
  refine r_ifneN hx hb (a := h) (by omega) (tgt := 22) dX10_meanLeaves_11 (by decide) (fun c1 => ?_) (fun c1 => ?_)
  · refine lv_aload_n hx hb dX10_meanLeaves_22 rfl (lv_at hl 0 rfl) ?_
    refine md_callg C hml hl.1 (As := []) (rest := []) (m_leavesAll l D aT ad (ss S 8 (nI 0)) h lv th ta hH) gT_leavesAll hd_leavesAll rfl ⟨Nat.le_of_ble_eq_true rfl, Nat.le_of_ble_eq_true rfl⟩ ⟨Nat.le_refl _, Nat.le_refl _⟩ hW hA rfl (Nat.le_of_ble_eq_true rfl) dX10_meanLeaves_23 (fun r_23 H locs hq hW => ?_)
    subst hq
    refine lv_i2d (x := nI (sml lv h)) hx hb dX10_meanLeaves_26 ?_
    refine lv_aload_n hx hb dX10_meanLeaves_27 rfl (lv_at hl 0 rfl) ?_
    refine md_geta_m C hW dX10_meanLeaves_28 ?_
    refine lv_iconst (v := nI 0) hx hb dX10_meanLeaves_31 (by decide) ?_
    refine md_ald_m C hW (i := 0) (by decide) dX10_meanLeaves_32 ?_
    refine r_eq (y := nI h) (by show S 0 0 = nI h; exact hH.1) ?_
    refine lv_i2d (x := nI h) hx hb dX10_meanLeaves_33 ?_
    refine lv_ddiv hx hb dX10_meanLeaves_34 (ddiv_nn (by omega) (by omega) (by omega)) ?_
    exact W.dret hx hb B.returns (fun t ht hW' => ⟨⟨_, _, rfl, Or.inr ⟨by omega, ddiv_nn (by omega) (by omega) (by omega), rfl, rfl⟩, by rw [ht]; exact hW.1, va_K.moved hW'.alike hK, hW.2.1⟩, hW.2.2.F ht⟩) hW.2.2.2.2 dX10_meanLeaves_35 B.notSynchronized
  · refine lv_aload_n hx hb dX10_meanLeaves_14 rfl (lv_at hl 0 rfl) ?_
    refine lv_iconst (v := nI 1) hx hb dX10_meanLeaves_15 (by decide) ?_
    refine md_calli C hml hl.1 (As := [.int (nI 1)]) (rest := []) (m_throwing l D aT ad (ss S 8 (nI 0)) 1) gT_throwing hd_throwing rfl ⟨Nat.le_of_ble_eq_true rfl, Nat.le_of_ble_eq_true rfl⟩ ⟨Nat.le_refl _, Nat.le_refl _⟩ hW hA rfl (Nat.le_of_ble_eq_true rfl) dX10_meanLeaves_16 (fun r S1 H locs hq hW => ?_)
    obtain ⟨rfl, rfl⟩ := hq
    refine lv_pop hx hb dX10_meanLeaves_19 rfl ?_
    refine lv_dconst0 hx hb dX10_meanLeaves_20 ?_
    exact W.dret hx hb B.returns (fun t ht hW' => ⟨⟨_, _, rfl, Or.inl ⟨by omega, rfl⟩, by rw [ht]; exact hW.1, va_K.moved hW'.alike hK, hW.2.1⟩, hW.2.2.F ht⟩) hW.2.2.2.2 dX10_meanLeaves_21 B.notSynchronized
theorem dX10_carriedShare_0 : decode cX10_carriedShare 0 = .ok (.aload_n 0, 1) := by decide +kernel
theorem dX10_carriedShare_1 : decode cX10_carriedShare 1 = .ok (.iconst 0, 1) := by decide +kernel
theorem dX10_carriedShare_2 : decode cX10_carriedShare 2 = .ok (.putfield 57, 3) := by decide +kernel
theorem dX10_carriedShare_5 : decode cX10_carriedShare 5 = .ok (.aload_n 0, 1) := by decide +kernel
theorem dX10_carriedShare_6 : decode cX10_carriedShare 6 = .ok (.getfield 9, 3) := by decide +kernel
theorem dX10_carriedShare_9 : decode cX10_carriedShare 9 = .ok (.bipush 9, 2) := by decide +kernel
theorem dX10_carriedShare_11 : decode cX10_carriedShare 11 = .ok (.iaload, 1) := by decide +kernel
theorem dX10_carriedShare_12 : decode cX10_carriedShare 12 = .ok (.ifCond .ne 11, 3) := by decide +kernel
theorem dX10_carriedShare_15 : decode cX10_carriedShare 15 = .ok (.aload_n 0, 1) := by decide +kernel
theorem dX10_carriedShare_16 : decode cX10_carriedShare 16 = .ok (.iconst 1, 1) := by decide +kernel
theorem dX10_carriedShare_17 : decode cX10_carriedShare 17 = .ok (.invokevirtual 101, 3) := by decide +kernel
theorem dX10_carriedShare_20 : decode cX10_carriedShare 20 = .ok (.pop, 1) := by decide +kernel
theorem dX10_carriedShare_21 : decode cX10_carriedShare 21 = .ok (.fconst 0, 1) := by decide +kernel
theorem dX10_carriedShare_22 : decode cX10_carriedShare 22 = .ok (.freturn, 1) := by decide +kernel
theorem dX10_carriedShare_23 : decode cX10_carriedShare 23 = .ok (.aload_n 0, 1) := by decide +kernel
theorem dX10_carriedShare_24 : decode cX10_carriedShare 24 = .ok (.getfield 9, 3) := by decide +kernel
theorem dX10_carriedShare_27 : decode cX10_carriedShare 27 = .ok (.bipush 10, 2) := by decide +kernel
theorem dX10_carriedShare_29 : decode cX10_carriedShare 29 = .ok (.iaload, 1) := by decide +kernel
theorem dX10_carriedShare_30 : decode cX10_carriedShare 30 = .ok (.i2f, 1) := by decide +kernel
theorem dX10_carriedShare_31 : decode cX10_carriedShare 31 = .ok (.aload_n 0, 1) := by decide +kernel
theorem dX10_carriedShare_32 : decode cX10_carriedShare 32 = .ok (.getfield 9, 3) := by decide +kernel
theorem dX10_carriedShare_35 : decode cX10_carriedShare 35 = .ok (.bipush 9, 2) := by decide +kernel
theorem dX10_carriedShare_37 : decode cX10_carriedShare 37 = .ok (.iaload, 1) := by decide +kernel
theorem dX10_carriedShare_38 : decode cX10_carriedShare 38 = .ok (.i2f, 1) := by decide +kernel
theorem dX10_carriedShare_39 : decode cX10_carriedShare 39 = .ok (.fdiv, 1) := by decide +kernel
theorem dX10_carriedShare_40 : decode cX10_carriedShare 40 = .ok (.freturn, 1) := by decide +kernel
set_option maxRecDepth 20000 in
theorem m_carriedShare (l : Launch) (D : va_G) (aT : Nat → ClassId) (ad : Nat → Nat) (S : MSt)  : ∀ sz, Met l yX10_carriedShare (Cond.code yX10_carriedShare cX10_carriedShare 1 (some .float) :: gw) (mdR 2 60) (va_Pc [.ref (ad 0)] (mdB1 D aT ad S sz)) (va_Qf (fun r S1 => (S 0 9 = nI 0 ∧ S1 = ss (ss S 8 (nI 0)) 8 (nI 1)) ∨ (S 0 9 ≠ nI 0 ∧ vf_n32 r ∧ r = FP.fdiv (FP.i2f (S 0 10)) (FP.i2f (S 0 9)) ∧ S1 = ss S 8 (nI 0))) (mdB2 D aT ad S sz) (va_A (mdW aT ad S) sz)) 0 0 (va_A (mdW aT ad S) sz) := by
  intro sz
  refine Met.ofW (cc := cX10_carriedShare) (maxL := 1) (ret := some .float) (by decide +kernel) rfl ?_
  intro p e s m args below meth c s₁ B hml hv
  obtain ⟨rfl, hsz, hP, hK, hD0⟩ := hv
  have hts := atoms_spec (ws := Cond.code yX10_carriedShare cX10_carriedShare 1 (some .float) :: gw) B.pre
  have hown : s.vm.findClass RX10 = some m.cls := findClass_of_methodNamed B.named
  subst hsz
  have hl := lv_entry [.ref (ad 0)] (n := 1) (Nat.le_of_ble_eq_true rfl)
  rw [lg_entry_eq]
  generalize (lg_sl [.ref (ad 0)] ++ List.replicate (1 - (lg_sl [.ref (ad 0)]).length) Slot.unset).toArray = ls at hl ⊢
  have hl : lv_has ls 1 [(0, .ref (ad 0))] := hl
  have hx := B.exec
  have hb := B.bytes
  have C : MdX p c cX10_carriedShare s [Value.ref (ad 0)].toArray m D aT := ⟨hx, hb, fun w hw => hts w (List.mem_cons_of_mem _ hw), hown, hK⟩
  have hA : ∀ q, s.heap.size ≤ q → va_A (mdW aT ad S) s.heap.size q := fun q h => Or.inr h
  have hW : MdB D aT ad S (va_A (mdW aT ad S) s.heap.size) s.heap s.heap [] := ⟨hP, hD0.self (sz := s.heap.size), va_S.rf⟩
  refine lv_aload_n hx hb dX10_carriedShare_0 rfl (lv_at hl 0 rfl) ?_
  refine lv_iconst (v := nI 0) hx hb dX10_carriedShare_1 (by decide) ?_
  refine md_put_thrown C hW dX10_carriedShare_2 (fun H locs hW => ?_)
  refine lv_aload_n hx hb dX10_carriedShare_5 rfl (lv_at hl 0 rfl) ?_
  refine md_geta_m C hW dX10_carriedShare_6 ?_
  refine lv_bipush (v := nI 9) hx hb dX10_carriedShare_9 (by decide) ?_
  refine md_ald_m C hW (i := 9) (by decide) dX10_carriedShare_11 ?_
  refine r_eq (y := S 0 9) rfl ?_
  refine lv_if_ne hx hb (x := S 0 9) (tgt := 23) dX10_carriedShare_12 (by decide) (fun c1 => ?_) (fun c1 => ?_)
  · refine lv_aload_n hx hb dX10_carriedShare_23 rfl (lv_at hl 0 rfl) ?_
    refine md_geta_m C hW dX10_carriedShare_24 ?_
    refine lv_bipush (v := nI 10) hx hb dX10_carriedShare_27 (by decide) ?_
    refine md_ald_m C hW (i := 10) (by decide) dX10_carriedShare_29 ?_
    refine r_eq (y := S 0 10) rfl ?_
    refine lv_i2f (x := S 0 10) hx hb dX10_carriedShare_30 ?_
    refine lv_aload_n hx hb dX10_carriedShare_31 rfl (lv_at hl 0 rfl) ?_
    refine md_geta_m C hW dX10_carriedShare_32 ?_
    refine lv_bipush (v := nI 9) hx hb dX10_carriedShare_35 (by decide) ?_
    refine md_ald_m C hW (i := 9) (by decide) dX10_carriedShare_37 ?_
    refine r_eq (y := S 0 9) rfl ?_
    refine lv_i2f (x := S 0 9) hx hb dX10_carriedShare_38 ?_
    refine lv_fdiv hx hb dX10_carriedShare_39 (fdiv_nn c1) ?_
    exact W.fret hx hb B.returns (fun t ht hW' => ⟨⟨_, _, rfl, Or.inr ⟨c1, fdiv_nn c1, rfl, rfl⟩, by rw [ht]; exact hW.1, va_K.moved hW'.alike hK, hW.2.1⟩, hW.2.2.F ht⟩) hW.2.2.2.2 dX10_carriedShare_40 B.notSynchronized
  · refine lv_aload_n hx hb dX10_carriedShare_15 rfl (lv_at hl 0 rfl) ?_
    refine lv_iconst (v := nI 1) hx hb dX10_carriedShare_16 (by decide) ?_
    refine md_calli C hml hl.1 (As := [.int (nI 1)]) (rest := []) (m_throwing l D aT ad (ss S 8 (nI 0)) 1) gT_throwing hd_throwing rfl ⟨Nat.le_of_ble_eq_true rfl, Nat.le_of_ble_eq_true rfl⟩ ⟨Nat.le_refl _, Nat.le_refl _⟩ hW hA rfl (Nat.le_of_ble_eq_true rfl) dX10_carriedShare_17 (fun r S1 H locs hq hW => ?_)
    obtain ⟨rfl, rfl⟩ := hq
    refine lv_pop hx hb dX10_carriedShare_20 rfl ?_
    refine lv_fconst0 hx hb dX10_carriedShare_21 ?_
    exact W.fret hx hb B.returns (fun t ht hW' => ⟨⟨_, _, rfl, Or.inl ⟨(by simpa using c1 : S 0 9 = 0).trans (by decide), rfl⟩, by rw [ht]; exact hW.1, va_K.moved hW'.alike hK, hW.2.1⟩, hW.2.2.F ht⟩) hW.2.2.2.2 dX10_carriedShare_22 B.notSynchronized
