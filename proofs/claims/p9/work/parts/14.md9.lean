def mxF (a b : Int32) : Int32 := if a < b then b else a
/-- the state with the rows and sums of the measuring -/
def stT (S : MSt) (w wo sw so : Nat → Int32) (wa sa : Int32) : MSt := fun r => if r = 5 then w else if r = 6 then wo else if r = 7 then sw else if r = 8 then so else if r = 13 then upd (upd (S 13) 15 wa) 16 sa else S r
theorem stT_0 (S : MSt) (a b : Int32) : ss (ss S 15 a) 16 b = stT S (S 5) (S 6) (S 7) (S 8) a b := by
  funext r
  unfold ss sr stT
  by_cases h : r = 13
  · subst h; simp
  · simp only [h, if_false]
    split
    · rename_i z; rw [z]
    · split
      · rename_i z; rw [z]
      · split
        · rename_i z; rw [z]
        · split
          · rename_i z; rw [z]
          · rfl
theorem stT_5 (S : MSt) (w wo sw so f : Nat → Int32) (wa sa : Int32) : sr (stT S w wo sw so wa sa) 5 f = stT S f wo sw so wa sa := by
  funext r; unfold sr stT; by_cases h : r = 5 <;> simp [h]
theorem stT_6 (S : MSt) (w wo sw so f : Nat → Int32) (wa sa : Int32) : sr (stT S w wo sw so wa sa) 6 f = stT S w f sw so wa sa := by
  funext r; unfold sr stT; by_cases h : r = 6 <;> simp [h]
theorem stT_7 (S : MSt) (w wo sw so f : Nat → Int32) (wa sa : Int32) : sr (stT S w wo sw so wa sa) 7 f = stT S w wo f so wa sa := by
  funext r; unfold sr stT; by_cases h : r = 7 <;> simp [h]
theorem stT_8 (S : MSt) (w wo sw so f : Nat → Int32) (wa sa : Int32) : sr (stT S w wo sw so wa sa) 8 f = stT S w wo sw f wa sa := by
  funext r; unfold sr stT; by_cases h : r = 8 <;> simp [h]
theorem stT_wa (S : MSt) (w wo sw so : Nat → Int32) (wa sa x : Int32) : ss (stT S w wo sw so wa sa) 15 x = stT S w wo sw so x sa := by
  funext r j; unfold ss sr stT; by_cases h : r = 13
  · subst h
    by_cases h1 : j = 15
    · subst h1; simp [upd]
    · by_cases h2 : j = 16
      · subst h2; simp [upd]
      · simp [upd, h1, h2]
  · simp [h]
theorem stT_sa (S : MSt) (w wo sw so : Nat → Int32) (wa sa x : Int32) : ss (stT S w wo sw so wa sa) 16 x = stT S w wo sw so wa x := by
  funext r j; unfold ss sr stT; by_cases h : r = 13
  · subst h
    by_cases h2 : j = 16
    · subst h2; simp [upd]
    · simp [upd, h2]
  · simp [h]
abbrev MeT : Type := (Nat → Int32) × (Nat → Int32) × (Nat → Int32) × (Nat → Int32) × Int32 × Int32
/-- one motion measured -/
def meaS (m : Nat → Int32) (k : Nat) (T : MeT) : MeT := match prM m k with
  | none => (T.1, T.2.1, T.2.2.1, T.2.2.2.1, T.2.2.2.2.1 + mxF (T.1 k) (T.2.1 k), T.2.2.2.2.2 * (T.2.2.1 k + T.2.2.2.1 k))
  | some p => (upd T.1 p (T.1 p + T.2.1 k), upd T.2.1 p (T.2.1 p + mxF (T.1 k) (T.2.1 k)), upd T.2.2.1 p (T.2.2.1 p * T.2.2.2.1 k), upd T.2.2.2.1 p (T.2.2.2.1 p * (T.2.2.1 k + T.2.2.2.1 k)), T.2.2.2.2.1, T.2.2.2.2.2)
def meaD (m : Nat → Int32) : Nat → MeT → MeT
  | 0, T => T
  | i + 1, T => meaD m i (meaS m i T)
def mea0 (S : MSt) : MeT := (cpyF (S 5) (fun j => S 0 (29 + 4 * j + 3)) (nM (S 0)), cpyF (S 6) (fun _ => nI 0) (nM (S 0)), cpyF (S 7) (fun _ => nI 1) (nM (S 0)), cpyF (S 8) (fun _ => nI 1) (nM (S 0)), nI 0, nI 1)
def meaR (S : MSt) : MeT := meaD (S 0) (nM (S 0)) (mea0 S)
def meaT (S : MSt) (T : MeT) : MSt := stT S T.1 T.2.1 T.2.2.1 T.2.2.2.1 T.2.2.2.2.1 T.2.2.2.2.2
theorem dm1 (i : Nat) : nI i + Int32.ofInt (-1) = nI i - nI 1 := by rw [Int32.sub_eq_add_neg]; rfl
theorem r_ifltD {p : Program} {l : Launch} {e : Env} {R : Room} {s : State} {m : MethodId} {args : Array Value} {below : List Frame} {meth : Method} {c : Code} {H : Heap} {locs : List Loc} {cells slots : Nat} {Q : State → Prop} {cc : ByteArray} {pc : Nat} {ls : Array Slot} {rest : List Value} (hx : p.tables.exec = Jvm.exec) (hb : c.code = cc) {a b : Nat} (ha : a < 1024) (hb' : b < 1024) {off : Int} {tgt : Nat} (hdg : decode cc pc = .ok (.ifCond .lt off, 3)) (ht : (pc : Int) + off = (tgt : Int)) (kt : a < b → W p l e R s m args below meth c H locs cells slots Q (F0 m tgt ls rest)) (kf : b ≤ a → W p l e R s m args below meth c H locs cells slots Q (F0 m (pc + 3) ls rest)) : W p l e R s m args below meth c H locs cells slots Q (F0 m pc ls (.int (nI a - nI b) :: rest)) := by
  have e := pk_sub_toInt (a := a) (b := b) (by omega) (by omega)
  have h0 : (0 : Int32).toInt = 0 := by decide
  have key : nI a - nI b < 0 ↔ a < b := by rw [Int32.lt_iff_toInt_lt, e, h0]; omega
  exact lv_if_lt hx hb hdg ht (fun h => kt (key.mp h)) (fun h => kf (Nat.not_lt.mp (fun z => h (key.mpr z))))
theorem dX10_wouldVeto_0 : decode cX10_wouldVeto 0 = .ok (.aload_n 0, 1) := by decide +kernel
theorem dX10_wouldVeto_1 : decode cX10_wouldVeto 1 = .ok (.iconst 0, 1) := by decide +kernel
theorem dX10_wouldVeto_2 : decode cX10_wouldVeto 2 = .ok (.putfield 57, 3) := by decide +kernel
theorem dX10_wouldVeto_5 : decode cX10_wouldVeto 5 = .ok (.aload_n 0, 1) := by decide +kernel
theorem dX10_wouldVeto_6 : decode cX10_wouldVeto 6 = .ok (.iload_n 2, 1) := by decide +kernel
theorem dX10_wouldVeto_7 : decode cX10_wouldVeto 7 = .ok (.invokevirtual 71, 3) := by decide +kernel
theorem dX10_wouldVeto_10 : decode cX10_wouldVeto 10 = .ok (.istore_n 3, 1) := by decide +kernel
theorem dX10_wouldVeto_11 : decode cX10_wouldVeto 11 = .ok (.aload_n 0, 1) := by decide +kernel
theorem dX10_wouldVeto_12 : decode cX10_wouldVeto 12 = .ok (.iload_n 1, 1) := by decide +kernel
theorem dX10_wouldVeto_13 : decode cX10_wouldVeto 13 = .ok (.invokevirtual 166, 3) := by decide +kernel
theorem dX10_wouldVeto_16 : decode cX10_wouldVeto 16 = .ok (.ifCond .eq 8, 3) := by decide +kernel
theorem dX10_wouldVeto_19 : decode cX10_wouldVeto 19 = .ok (.iload_n 3, 1) := by decide +kernel
theorem dX10_wouldVeto_20 : decode cX10_wouldVeto 20 = .ok (.iconst (-1), 1) := by decide +kernel
theorem dX10_wouldVeto_21 : decode cX10_wouldVeto 21 = .ok (.if_icmp .ne 23, 3) := by decide +kernel
theorem dX10_wouldVeto_24 : decode cX10_wouldVeto 24 = .ok (.aload_n 0, 1) := by decide +kernel
theorem dX10_wouldVeto_25 : decode cX10_wouldVeto 25 = .ok (.aload_n 0, 1) := by decide +kernel
theorem dX10_wouldVeto_26 : decode cX10_wouldVeto 26 = .ok (.iload_n 1, 1) := by decide +kernel
theorem dX10_wouldVeto_27 : decode cX10_wouldVeto 27 = .ok (.invokevirtual 166, 3) := by decide +kernel
theorem dX10_wouldVeto_30 : decode cX10_wouldVeto 30 = .ok (.ifCond .eq 7, 3) := by decide +kernel
theorem dX10_wouldVeto_33 : decode cX10_wouldVeto 33 = .ok (.iconst 2, 1) := by decide +kernel
theorem dX10_wouldVeto_34 : decode cX10_wouldVeto 34 = .ok (.goto 4, 3) := by decide +kernel
theorem dX10_wouldVeto_37 : decode cX10_wouldVeto 37 = .ok (.iconst 1, 1) := by decide +kernel
theorem dX10_wouldVeto_38 : decode cX10_wouldVeto 38 = .ok (.invokevirtual 101, 3) := by decide +kernel
theorem dX10_wouldVeto_41 : decode cX10_wouldVeto 41 = .ok (.pop, 1) := by decide +kernel
theorem dX10_wouldVeto_42 : decode cX10_wouldVeto 42 = .ok (.iconst 0, 1) := by decide +kernel
theorem dX10_wouldVeto_43 : decode cX10_wouldVeto 43 = .ok (.ireturn, 1) := by decide +kernel
theorem dX10_wouldVeto_44 : decode cX10_wouldVeto 44 = .ok (.aload_n 0, 1) := by decide +kernel
theorem dX10_wouldVeto_45 : decode cX10_wouldVeto 45 = .ok (.iload_n 1, 1) := by decide +kernel
theorem dX10_wouldVeto_46 : decode cX10_wouldVeto 46 = .ok (.iload_n 3, 1) := by decide +kernel
theorem dX10_wouldVeto_47 : decode cX10_wouldVeto 47 = .ok (.invokevirtual 144, 3) := by decide +kernel
theorem dX10_wouldVeto_50 : decode cX10_wouldVeto 50 = .ok (.ireturn, 1) := by decide +kernel
set_option maxHeartbeats 1000000 in
set_option maxRecDepth 20000 in
theorem m_wouldVeto (l : Launch) (D : va_G) (aT : Nat → ClassId) (ad : Nat → Nat) (S : MSt) (x y : Int32) (hF : FoW (S 0)) (hH : HeW (S 0)) : MdI l yX10_wouldVeto cX10_wouldVeto 4 .boolean 3 68 D aT ad [.ref (ad 0), .int x, .int y] S (fun r S1 => (isHB (hM (S 0)) x = false ∧ r = nI 0 ∧ S1 = ss S 8 (nI 1)) ∨ (isHB (hM (S 0)) x = true ∧ fnd (fun k => S 0 (29 + 4 * k)) y (nM (S 0)) = none ∧ r = nI 0 ∧ S1 = ss S 8 (nI 2)) ∨ (∃ i q, i < hM (S 0) ∧ x = nI i ∧ fnd (fun k => S 0 (29 + 4 * k)) y (nM (S 0)) = some q ∧ r = bI (vetB (dif (taM (S 0) i) (tnM (S 0) q)) (thM (S 0) i)) ∧ S1 = ss S 8 (nI 0))) := by
  refine MdI.of (by decide +kernel) rfl (Nat.le_of_ble_eq_true rfl) ?_
  intro p e s m below meth c A ls C hml hl hA hr hlocks hW
  have hl : lv_has ls 4 [(0, .ref (ad 0)), (1, .int x), (2, .int y)] := hl
  have hx := C.1
  have hb := C.2.1
  refine lv_aload_n hx hb dX10_wouldVeto_0 rfl (lv_at hl 0 rfl) ?_
  refine lv_iconst (v := nI 0) hx hb dX10_wouldVeto_1 (by decide) ?_
  refine md_put_thrown C hW dX10_wouldVeto_2 (fun H locs hW => ?_)
  refine lv_aload_n hx hb dX10_wouldVeto_5 rfl (lv_at hl 0 rfl) ?_
  refine lv_iload_n hx hb dX10_wouldVeto_6 rfl (lv_at hl 2 rfl) ?_
  refine md_callg C hml hl.1 (As := [.int y]) (rest := []) (m_find l D aT ad (ss S 8 (nI 0)) (y) (nM (S 0)) hF.1 hF.2.1) gT_find hd_find rfl ⟨Nat.le_of_ble_eq_true rfl, Nat.le_of_ble_eq_true rfl⟩ ⟨Nat.le_refl _, Nat.le_refl _⟩ hW hA rfl (Nat.le_of_ble_eq_true rfl) dX10_wouldVeto_7 (fun r_7 H locs hq hW => ?_)
  subst hq
  refine lv_istore_n (lv' := [(3, .int (oi (fnd (fun k => (ss S 8 (nI 0)) 0 (29 + 4 * k)) (y) (nM (S 0))))), (0, .ref (ad 0)), (1, .int x), (2, .int y)]) hx hb dX10_wouldVeto_10 rfl hl (by decide) rfl (fun ls hl => ?_)
  refine lv_aload_n hx hb dX10_wouldVeto_11 rfl (lv_at hl 1 rfl) ?_
  refine lv_iload_n hx hb dX10_wouldVeto_12 rfl (lv_at hl 2 rfl) ?_
  refine md_callg C hml hl.1 (As := [.int x]) (rest := []) (m_isHedge l D aT ad (ss S 8 (nI 0)) (x) hH) gT_isHedge hd_isHedge rfl ⟨Nat.le_of_ble_eq_true rfl, Nat.le_of_ble_eq_true rfl⟩ ⟨Nat.le_refl _, Nat.le_refl _⟩ hW hA rfl (Nat.le_of_ble_eq_true rfl) dX10_wouldVeto_13 (fun r_13 H locs hq hW => ?_)
  subst hq
  refine r_bI_eq hx hb (b := (isHB (hM (S 0)) x)) (tgt := 24) dX10_wouldVeto_16 (by decide) (fun c_16 => ?_) (fun c_16 => ?_)
  · refine lv_aload_n hx hb dX10_wouldVeto_24 rfl (lv_at hl 1 rfl) ?_
    refine lv_aload_n hx hb dX10_wouldVeto_25 rfl (lv_at hl 1 rfl) ?_
    refine lv_iload_n hx hb dX10_wouldVeto_26 rfl (lv_at hl 2 rfl) ?_
    refine md_callg C hml hl.1 (As := [.int x]) (rest := [.ref (ad 0)]) (m_isHedge l D aT ad (ss S 8 (nI 0)) (x) hH) gT_isHedge hd_isHedge rfl ⟨Nat.le_of_ble_eq_true rfl, Nat.le_of_ble_eq_true rfl⟩ ⟨Nat.le_refl _, Nat.le_refl _⟩ hW hA rfl (Nat.le_of_ble_eq_true rfl) dX10_wouldVeto_27 (fun r_27 H locs hq hW => ?_)
    subst hq
    refine r_bI_eq hx hb (b := (isHB (hM (S 0)) x)) (tgt := 37) dX10_wouldVeto_30 (by decide) (fun c_30 => ?_) (fun c_30 => ?_)
    · refine lv_iconst (v := nI 1) hx hb dX10_wouldVeto_37 (by decide) ?_
      refine md_calli C hml hl.1 (As := [.int (nI 1)]) (rest := []) (m_throwing l D aT ad (ss S 8 (nI 0)) 1) gT_throwing hd_throwing rfl ⟨Nat.le_of_ble_eq_true rfl, Nat.le_of_ble_eq_true rfl⟩ ⟨Nat.le_refl _, Nat.le_refl _⟩ hW hA rfl (Nat.le_of_ble_eq_true rfl) dX10_wouldVeto_38 (fun r_38 S_38 H locs hq hW => ?_)
      obtain ⟨rfl, rfl⟩ := hq
      refine lv_pop hx hb dX10_wouldVeto_41 rfl ?_
      refine lv_iconst (v := nI 0) hx hb dX10_wouldVeto_42 (by decide) ?_
      exact md_iret C hr hlocks (by decide) hW (Or.inl ⟨c_16, rfl, ss_ss _ _ _ _⟩) dX10_wouldVeto_43
    · exact absurd c_30 (by rw [c_16]; decide)
  · refine lv_iload_n hx hb dX10_wouldVeto_19 rfl (lv_at hl 0 rfl) ?_
    refine lv_iconst (v := (-1)) hx hb dX10_wouldVeto_20 (by decide) ?_
    refine r_oi_ne hx hb (o := (fnd (fun k => (ss S 8 (nI 0)) 0 (29 + 4 * k)) (y) (nM (S 0)))) (fun j hj => by have := (fnd_some hj).1; have := hF.n12; omega) (tgt := 44) dX10_wouldVeto_21 (by decide) (fun j_21 c_21 => ?_) (fun c_21 => ?_)
    · have hl : lv_has ls 4 [(3, .int (nI j_21)), (0, .ref (ad 0)), (1, .int x), (2, .int y)] := by rw [c_21] at hl; exact hl
      obtain ⟨i, hi, rfl⟩ := isHB_nat c_16 (by have := hH.2.1; omega)
      have hq0 := (fnd_some c_21).1
      refine lv_aload_n hx hb dX10_wouldVeto_44 rfl (lv_at hl 1 rfl) ?_
      refine lv_iload_n hx hb dX10_wouldVeto_45 rfl (lv_at hl 2 rfl) ?_
      refine lv_iload_n hx hb dX10_wouldVeto_46 rfl (lv_at hl 0 rfl) ?_
      refine md_callg C hml hl.1 (As := [.int (nI i), .int (nI j_21)]) (rest := []) (m_vetoes l D aT ad (ss S 8 (nI 0)) (hM (S 0)) (lvM (S 0)) (thM (S 0)) (taM (S 0)) hH (nM (S 0)) (idM (S 0)) (prM (S 0)) (tnM (S 0)) hF i j_21 (hi) (hq0)) gT_vetoes hd_vetoes rfl ⟨Nat.le_of_ble_eq_true rfl, Nat.le_of_ble_eq_true rfl⟩ ⟨Nat.le_refl _, Nat.le_refl _⟩ hW hA rfl (Nat.le_of_ble_eq_true rfl) dX10_wouldVeto_47 (fun r_47 H locs hq hW => ?_)
      subst hq
      exact md_iret C hr hlocks (bI_nar _) hW (Or.inr (Or.inr ⟨i, j_21, hi, rfl, c_21, rfl, rfl⟩)) dX10_wouldVeto_50
    · have hl : lv_has ls 4 [(3, .int (-1)), (0, .ref (ad 0)), (1, .int x), (2, .int y)] := by rw [c_21] at hl; exact hl
      refine lv_aload_n hx hb dX10_wouldVeto_24 rfl (lv_at hl 1 rfl) ?_
      refine lv_aload_n hx hb dX10_wouldVeto_25 rfl (lv_at hl 1 rfl) ?_
      refine lv_iload_n hx hb dX10_wouldVeto_26 rfl (lv_at hl 2 rfl) ?_
      refine md_callg C hml hl.1 (As := [.int x]) (rest := [.ref (ad 0)]) (m_isHedge l D aT ad (ss S 8 (nI 0)) (x) hH) gT_isHedge hd_isHedge rfl ⟨Nat.le_of_ble_eq_true rfl, Nat.le_of_ble_eq_true rfl⟩ ⟨Nat.le_refl _, Nat.le_refl _⟩ hW hA rfl (Nat.le_of_ble_eq_true rfl) dX10_wouldVeto_27 (fun r_27 H locs hq hW => ?_)
      subst hq
      refine r_bI_eq hx hb (b := (isHB (hM (S 0)) x)) (tgt := 37) dX10_wouldVeto_30 (by decide) (fun c_30 => ?_) (fun c_30 => ?_)
      · exact absurd c_30 (by rw [c_16]; decide)
      · refine lv_iconst (v := nI 2) hx hb dX10_wouldVeto_33 (by decide) ?_
        refine lv_goto (tgt := 38) hx hb dX10_wouldVeto_34 (by decide) ?_
        refine md_calli C hml hl.1 (As := [.int (nI 2)]) (rest := []) (m_throwing l D aT ad (ss S 8 (nI 0)) 2) gT_throwing hd_throwing rfl ⟨Nat.le_of_ble_eq_true rfl, Nat.le_of_ble_eq_true rfl⟩ ⟨Nat.le_refl _, Nat.le_refl _⟩ hW hA rfl (Nat.le_of_ble_eq_true rfl) dX10_wouldVeto_38 (fun r_38 S_38 H locs hq hW => ?_)
        obtain ⟨rfl, rfl⟩ := hq
        refine lv_pop hx hb dX10_wouldVeto_41 rfl ?_
        refine lv_iconst (v := nI 0) hx hb dX10_wouldVeto_42 (by decide) ?_
        exact md_iret C hr hlocks (by decide) hW (Or.inr (Or.inl ⟨c_16, c_21, rfl, ss_ss _ _ _ _⟩)) dX10_wouldVeto_43
theorem gT_longestPath : GoodIn gw (wsV RX10 187 RX10 yX10_longestPath (Cond.code yX10_longestPath cX10_longestPath 6 (some .int) :: gw)) := gdV gw_1949 gw_1942 gw_1943 gw_81 gw_1944
theorem hd_longestPath : yX10_longestPath.cls = RX10 ∧ yX10_longestPath.cls ≠ "java/lang/invoke/MethodHandle" ∧ yX10_longestPath.cls ≠ "java/lang/invoke/VarHandle" ∧ (parseMethodDescriptor yX10_longestPath.desc).map (fun d => d.parameters.length) = some 1 := ⟨rfl, by decide +kernel, by decide +kernel, by decide +kernel⟩
theorem dX10_longestPath_0 : decode cX10_longestPath 0 = .ok (.aload_n 0, 1) := by decide +kernel
theorem dX10_longestPath_1 : decode cX10_longestPath 1 = .ok (.iconst 0, 1) := by decide +kernel
theorem dX10_longestPath_2 : decode cX10_longestPath 2 = .ok (.putfield 57, 3) := by decide +kernel
theorem dX10_longestPath_5 : decode cX10_longestPath 5 = .ok (.aload_n 0, 1) := by decide +kernel
theorem dX10_longestPath_6 : decode cX10_longestPath 6 = .ok (.iload_n 1, 1) := by decide +kernel
theorem dX10_longestPath_7 : decode cX10_longestPath 7 = .ok (.invokevirtual 71, 3) := by decide +kernel
theorem dX10_longestPath_10 : decode cX10_longestPath 10 = .ok (.istore_n 2, 1) := by decide +kernel
theorem dX10_longestPath_11 : decode cX10_longestPath 11 = .ok (.iload_n 2, 1) := by decide +kernel
theorem dX10_longestPath_12 : decode cX10_longestPath 12 = .ok (.iconst (-1), 1) := by decide +kernel
theorem dX10_longestPath_13 : decode cX10_longestPath 13 = .ok (.if_icmp .ne 9, 3) := by decide +kernel
theorem dX10_longestPath_16 : decode cX10_longestPath 16 = .ok (.aload_n 0, 1) := by decide +kernel
theorem dX10_longestPath_17 : decode cX10_longestPath 17 = .ok (.iconst 1, 1) := by decide +kernel
theorem dX10_longestPath_18 : decode cX10_longestPath 18 = .ok (.invokevirtual 101, 3) := by decide +kernel
theorem dX10_longestPath_21 : decode cX10_longestPath 21 = .ok (.ireturn, 1) := by decide +kernel
theorem dX10_longestPath_22 : decode cX10_longestPath 22 = .ok (.iconst 0, 1) := by decide +kernel
theorem dX10_longestPath_23 : decode cX10_longestPath 23 = .ok (.istore_n 3, 1) := by decide +kernel
theorem dX10_longestPath_24 : decode cX10_longestPath 24 = .ok (.iconst 0, 1) := by decide +kernel
theorem dX10_longestPath_25 : decode cX10_longestPath 25 = .ok (.istore 4, 2) := by decide +kernel
theorem dX10_longestPath_27 : decode cX10_longestPath 27 = .ok (.iload 4, 2) := by decide +kernel
theorem dX10_longestPath_29 : decode cX10_longestPath 29 = .ok (.aload_n 0, 1) := by decide +kernel
theorem dX10_longestPath_30 : decode cX10_longestPath 30 = .ok (.getfield 9, 3) := by decide +kernel
theorem dX10_longestPath_33 : decode cX10_longestPath 33 = .ok (.iconst 2, 1) := by decide +kernel
theorem dX10_longestPath_34 : decode cX10_longestPath 34 = .ok (.iaload, 1) := by decide +kernel
theorem dX10_longestPath_35 : decode cX10_longestPath 35 = .ok (.if_icmp .ge 62, 3) := by decide +kernel
theorem dX10_longestPath_38 : decode cX10_longestPath 38 = .ok (.iconst 0, 1) := by decide +kernel
theorem dX10_longestPath_39 : decode cX10_longestPath 39 = .ok (.istore 5, 2) := by decide +kernel
theorem dX10_longestPath_41 : decode cX10_longestPath 41 = .ok (.iload 5, 2) := by decide +kernel
theorem dX10_longestPath_43 : decode cX10_longestPath 43 = .ok (.iload 4, 2) := by decide +kernel
theorem dX10_longestPath_45 : decode cX10_longestPath 45 = .ok (.if_icmp .gt 46, 3) := by decide +kernel
theorem dX10_longestPath_48 : decode cX10_longestPath 48 = .ok (.aload_n 0, 1) := by decide +kernel
theorem dX10_longestPath_49 : decode cX10_longestPath 49 = .ok (.iload 4, 2) := by decide +kernel
theorem dX10_longestPath_51 : decode cX10_longestPath 51 = .ok (.iload_n 2, 1) := by decide +kernel
theorem dX10_longestPath_52 : decode cX10_longestPath 52 = .ok (.invokevirtual 78, 3) := by decide +kernel
theorem dX10_longestPath_55 : decode cX10_longestPath 55 = .ok (.ifCond .eq 36, 3) := by decide +kernel
theorem dX10_longestPath_58 : decode cX10_longestPath 58 = .ok (.iload_n 3, 1) := by decide +kernel
theorem dX10_longestPath_59 : decode cX10_longestPath 59 = .ok (.aload_n 0, 1) := by decide +kernel
theorem dX10_longestPath_60 : decode cX10_longestPath 60 = .ok (.iload 5, 2) := by decide +kernel
theorem dX10_longestPath_62 : decode cX10_longestPath 62 = .ok (.iload_n 2, 1) := by decide +kernel
theorem dX10_longestPath_63 : decode cX10_longestPath 63 = .ok (.invokevirtual 78, 3) := by decide +kernel
theorem dX10_longestPath_66 : decode cX10_longestPath 66 = .ok (.ifCond .eq 14, 3) := by decide +kernel
theorem dX10_longestPath_69 : decode cX10_longestPath 69 = .ok (.aload_n 0, 1) := by decide +kernel
theorem dX10_longestPath_70 : decode cX10_longestPath 70 = .ok (.iload 4, 2) := by decide +kernel
theorem dX10_longestPath_72 : decode cX10_longestPath 72 = .ok (.iload 5, 2) := by decide +kernel
theorem dX10_longestPath_74 : decode cX10_longestPath 74 = .ok (.invokevirtual 184, 3) := by decide +kernel
theorem dX10_longestPath_77 : decode cX10_longestPath 77 = .ok (.goto 4, 3) := by decide +kernel
theorem dX10_longestPath_80 : decode cX10_longestPath 80 = .ok (.iconst 0, 1) := by decide +kernel
theorem dX10_longestPath_81 : decode cX10_longestPath 81 = .ok (.invokestatic 138, 3) := by decide +kernel
theorem dX10_longestPath_84 : decode cX10_longestPath 84 = .ok (.istore_n 3, 1) := by decide +kernel
theorem dX10_longestPath_85 : decode cX10_longestPath 85 = .ok (.iinc 5 1, 3) := by decide +kernel
theorem dX10_longestPath_88 : decode cX10_longestPath 88 = .ok (.goto (-47), 3) := by decide +kernel
theorem dX10_longestPath_91 : decode cX10_longestPath 91 = .ok (.iinc 4 1, 3) := by decide +kernel
theorem dX10_longestPath_94 : decode cX10_longestPath 94 = .ok (.goto (-67), 3) := by decide +kernel
theorem dX10_longestPath_97 : decode cX10_longestPath 97 = .ok (.iload_n 3, 1) := by decide +kernel
theorem dX10_longestPath_98 : decode cX10_longestPath 98 = .ok (.iconst 1, 1) := by decide +kernel
theorem dX10_longestPath_99 : decode cX10_longestPath 99 = .ok (.iadd, 1) := by decide +kernel
theorem dX10_longestPath_100 : decode cX10_longestPath 100 = .ok (.ireturn, 1) := by decide +kernel
set_option maxHeartbeats 2000000 in
set_option maxRecDepth 20000 in
theorem m_longestPath (l : Launch) (D : va_G) (aT : Nat → ClassId) (ad : Nat → Nat) (S : MSt) (x : Int32) (hF : FoW (S 0)) : MdI l yX10_longestPath cX10_longestPath 6 .int 6 134 D aT ad [.ref (ad 0), .int x] S (fun r S1 => (fnd (fun k => S 0 (29 + 4 * k)) x (nM (S 0)) = none ∧ r = -1 ∧ S1 = ss S 8 (nI 1)) ∨ (∃ q, fnd (fun k => S 0 (29 + 4 * k)) x (nM (S 0)) = some q ∧ r = nI (lpO (prM (S 0)) (nM (S 0)) q (nM (S 0)) + 1) ∧ S1 = ss S 8 (nI 0))) := by
  refine MdI.of (by decide +kernel) rfl (Nat.le_of_ble_eq_true rfl) ?_
  intro p e s m below meth c A ls C hml hl hA hr hlocks hW
  have hl : lv_has ls 6 [(0, .ref (ad 0)), (1, .int x)] := hl
  have hx := C.1
  have hb := C.2.1
  refine lv_aload_n hx hb dX10_longestPath_0 rfl (lv_at hl 0 rfl) ?_
  refine lv_iconst (v := nI 0) hx hb dX10_longestPath_1 (by decide) ?_
  refine md_put_thrown C hW dX10_longestPath_2 (fun H locs hW => ?_)
  refine lv_aload_n hx hb dX10_longestPath_5 rfl (lv_at hl 0 rfl) ?_
  refine lv_iload_n hx hb dX10_longestPath_6 rfl (lv_at hl 1 rfl) ?_
  refine md_callg C hml hl.1 (As := [.int x]) (rest := []) (m_find l D aT ad (ss S 8 (nI 0)) (x) (nM (S 0)) hF.1 hF.2.1) gT_find hd_find rfl ⟨Nat.le_of_ble_eq_true rfl, Nat.le_of_ble_eq_true rfl⟩ ⟨Nat.le_refl _, Nat.le_refl _⟩ hW hA rfl (Nat.le_of_ble_eq_true rfl) dX10_longestPath_7 (fun r_7 H locs hq hW => ?_)
  subst hq
  refine lv_istore_n (lv' := [(2, .int (oi (fnd (fun k => (ss S 8 (nI 0)) 0 (29 + 4 * k)) (x) (nM (S 0))))), (0, .ref (ad 0)), (1, .int x)]) hx hb dX10_longestPath_10 rfl hl (by decide) rfl (fun ls hl => ?_)
  refine lv_iload_n hx hb dX10_longestPath_11 rfl (lv_at hl 0 rfl) ?_
  refine lv_iconst (v := (-1)) hx hb dX10_longestPath_12 (by decide) ?_
  refine r_oi_ne hx hb (o := (fnd (fun k => (ss S 8 (nI 0)) 0 (29 + 4 * k)) (x) (nM (S 0)))) (fun j hj => by have := (fnd_some hj).1; have := hF.n12; omega) (tgt := 22) dX10_longestPath_13 (by decide) (fun j_13 c_13 => ?_) (fun c_13 => ?_)
  · have hl : lv_has ls 6 [(2, .int (nI j_13)), (0, .ref (ad 0)), (1, .int x)] := by rw [c_13] at hl; exact hl
    have hq0 := (fnd_some c_13).1
    have h12 := hF.n12
    refine lv_iconst (v := nI 0) hx hb dX10_longestPath_22 (by decide) ?_
    refine lv_istore_n (lv' := [(3, .int (nI 0)), (2, .int (nI j_13)), (0, .ref (ad 0)), (1, .int x)]) hx hb dX10_longestPath_23 rfl hl (by decide) rfl (fun ls hl => ?_)
    refine lv_iconst (v := nI 0) hx hb dX10_longestPath_24 (by decide) ?_
    refine lv_istore (lv' := [(4, .int (nI 0)), (3, .int (nI 0)), (2, .int (nI j_13)), (0, .ref (ad 0)), (1, .int x)]) hx hb dX10_longestPath_25 hl (by decide) rfl (fun ls hl => ?_)
    refine W_loopH (σ := Nat × Nat) (fun z_ => nM (S 0) - z_.2) (fun z_ H locs g => ∃ ls, g = F0 m 27 ls [] ∧ lv_has ls 6 [(0, .ref (ad 0)), (2, .int (nI j_13)), (3, .int (nI z_.1)), (4, .int (nI z_.2))] ∧ MdB D aT ad (ss S 8 (nI 0)) A s.heap H locs ∧ (z_.1 = lpO (prM (S 0)) (nM (S 0)) j_13 z_.2 ∧ z_.2 ≤ nM (S 0))) ?_ (0, 0) _ ⟨_, rfl, lv_sub hl [3, 2, 1, 0] rfl, hW, ⟨rfl, Nat.zero_le _⟩⟩
    clear hW hl
    rintro ⟨mo, a⟩ H locs g ⟨ls, rfl, hl, hW, hmo, han⟩ ih_27
    dsimp only at hl hW hmo han ⊢
    refine lv_iload hx hb dX10_longestPath_27 (lv_at hl 3 rfl) ?_
    refine lv_aload_n hx hb dX10_longestPath_29 rfl (lv_at hl 0 rfl) ?_
    refine md_geta_m C hW dX10_longestPath_30 ?_
    refine lv_iconst (v := nI 2) hx hb dX10_longestPath_33 (by decide) ?_
    refine md_ald_m C hW (i := 2) (by omega) dX10_longestPath_34 ?_
    refine r_eq (y := (nI (nM (S 0)))) (hF.1) ?_
    refine r_geN hx hb (a := a) (b := (nM (S 0))) (by omega) (by omega) (tgt := 97) dX10_longestPath_35 (by decide) (fun c_35 => ?_) (fun c_35 => ?_)
    · refine lv_iload_n hx hb dX10_longestPath_97 rfl (lv_at hl 2 rfl) ?_
      refine lv_iconst (v := nI 1) hx hb dX10_longestPath_98 (by decide) ?_
      refine r_iaddN hx hb (a := mo) (b := 1) dX10_longestPath_99 ?_
      exact md_iret C hr hlocks rfl hW (Or.inr ⟨j_13, c_13, by rw [hmo, show a = nM (S 0) by omega], rfl⟩) dX10_longestPath_100
    · refine lv_iconst (v := nI 0) hx hb dX10_longestPath_38 (by decide) ?_
      refine lv_istore (lv' := [(5, .int (nI 0)), (0, .ref (ad 0)), (2, .int (nI j_13)), (3, .int (nI mo)), (4, .int (nI a))]) hx hb dX10_longestPath_39 hl (by decide) rfl (fun ls hl => ?_)
      refine W_loopH (σ := Nat × Nat) (fun z_ => a + 1 - z_.2) (fun z_ H locs g => ∃ ls, g = F0 m 41 ls [] ∧ lv_has ls 6 [(0, .ref (ad 0)), (2, .int (nI j_13)), (3, .int (nI z_.1)), (4, .int (nI a)), (5, .int (nI z_.2))] ∧ MdB D aT ad (ss S 8 (nI 0)) A s.heap H locs ∧ (z_.1 = lpI (prM (S 0)) (nM (S 0)) j_13 a (lpO (prM (S 0)) (nM (S 0)) j_13 a) z_.2 ∧ z_.2 ≤ a + 1 ∧ (0 < z_.2 → anc (prM (S 0)) j_13 a = true))) ?_ (mo, 0) _ ⟨_, rfl, lv_sub hl [1, 2, 3, 4, 0] rfl, hW, ⟨hmo, Nat.zero_le _, fun z => absurd z (Nat.lt_irrefl _)⟩⟩
      clear hW hl
      rintro ⟨ms, b⟩ H locs g ⟨ls, rfl, hl, hW, hm, hba, hb3⟩ ih_41
      dsimp only at hl hW hm hba hb3 ⊢
      have hms := lpI_le (r := j_13) hF.ok (show a < nM (S 0) by omega) (lpO_le (r := j_13) hF.ok a (by omega)) (Nat.le_refl _) b (by omega)
      rw [← hm] at hms
      refine lv_iload hx hb dX10_longestPath_41 (lv_at hl 4 rfl) ?_
      refine lv_iload hx hb dX10_longestPath_43 (lv_at hl 3 rfl) ?_
      refine r_gtN hx hb (a := b) (b := a) (by omega) (by omega) (tgt := 91) dX10_longestPath_45 (by decide) (fun c_45 => ?_) (fun c_45 => ?_)
      · refine lv_iinc (v := (nI (a + 1))) (lv' := [(4, .int (nI (a + 1))), (0, .ref (ad 0)), (2, .int (nI j_13)), (3, .int (nI ms)), (5, .int (nI b))]) hx hb dX10_longestPath_91 hl (k := 3) rfl (nI_1 _) (by decide) rfl (fun ls hl => ?_)
        refine lv_goto (tgt := 27) hx hb dX10_longestPath_94 (by decide) ?_
        exact ih_27 (ms, (a + 1)) _ _ _ (by dsimp only; omega) ⟨_, rfl, lv_sub hl [1, 2, 3, 0] rfl, hW, ⟨by rw [lpO, if_pos (hb3 (by omega)), hm, show b = a + 1 by omega], by (try dsimp only); omega⟩⟩
      · refine lv_aload_n hx hb dX10_longestPath_48 rfl (lv_at hl 0 rfl) ?_
        refine lv_iload hx hb dX10_longestPath_49 (lv_at hl 3 rfl) ?_
        refine lv_iload_n hx hb dX10_longestPath_51 rfl (lv_at hl 1 rfl) ?_
        refine md_callg C hml hl.1 (As := [.int (nI a), .int (nI j_13)]) (rest := []) (m_isIn l D aT ad (ss S 8 (nI 0)) (nM (S 0)) (idM (S 0)) (prM (S 0)) (tnM (S 0)) hF a j_13 (by omega) (hq0)) gT_isIn hd_isIn rfl ⟨Nat.le_of_ble_eq_true rfl, Nat.le_of_ble_eq_true rfl⟩ ⟨Nat.le_refl _, Nat.le_refl _⟩ hW hA rfl (Nat.le_of_ble_eq_true rfl) dX10_longestPath_52 (fun r_52 H locs hq hW => ?_)
        subst hq
        refine r_bI_eq hx hb (b := (anc (prM (S 0)) j_13 a)) (tgt := 91) dX10_longestPath_55 (by decide) (fun c_55 => ?_) (fun c_55 => ?_)
        · refine lv_iinc (v := (nI (a + 1))) (lv' := [(4, .int (nI (a + 1))), (0, .ref (ad 0)), (2, .int (nI j_13)), (3, .int (nI ms)), (5, .int (nI b))]) hx hb dX10_longestPath_91 hl (k := 3) rfl (nI_1 _) (by decide) rfl (fun ls hl => ?_)
          refine lv_goto (tgt := 27) hx hb dX10_longestPath_94 (by decide) ?_
          exact ih_27 (ms, (a + 1)) _ _ _ (by dsimp only; omega) ⟨_, rfl, lv_sub hl [1, 2, 3, 0] rfl, hW, ⟨by rw [lpO, if_neg (by rw [c_55]; decide), hm, show b = 0 from (by rcases Nat.eq_zero_or_pos b with z | z; exact z; exact absurd (hb3 z) (by rw [c_55]; decide))]; rfl, by (try dsimp only); omega⟩⟩
        · refine lv_iload_n hx hb dX10_longestPath_58 rfl (lv_at hl 2 rfl) ?_
          refine lv_aload_n hx hb dX10_longestPath_59 rfl (lv_at hl 0 rfl) ?_
          refine lv_iload hx hb dX10_longestPath_60 (lv_at hl 4 rfl) ?_
          refine lv_iload_n hx hb dX10_longestPath_62 rfl (lv_at hl 1 rfl) ?_
          refine md_callg C hml hl.1 (As := [.int (nI b), .int (nI j_13)]) (rest := [.int (nI ms)]) (m_isIn l D aT ad (ss S 8 (nI 0)) (nM (S 0)) (idM (S 0)) (prM (S 0)) (tnM (S 0)) hF b j_13 (by omega) (hq0)) gT_isIn hd_isIn rfl ⟨Nat.le_of_ble_eq_true rfl, Nat.le_of_ble_eq_true rfl⟩ ⟨Nat.le_refl _, Nat.le_refl _⟩ hW hA rfl (Nat.le_of_ble_eq_true rfl) dX10_longestPath_63 (fun r_63 H locs hq hW => ?_)
          subst hq
          refine r_bI_eq hx hb (b := (anc (prM (S 0)) j_13 b)) (tgt := 80) dX10_longestPath_66 (by decide) (fun c_66 => ?_) (fun c_66 => ?_)
          · refine lv_iconst (v := nI 0) hx hb dX10_longestPath_80 (by decide) ?_
            refine md_max C hml hl.1 gk_max ⟨Nat.le_of_ble_eq_true rfl, Nat.le_of_ble_eq_true rfl, Nat.le_of_ble_eq_true rfl⟩ ⟨Nat.le_refl _, Nat.le_refl _⟩ dX10_longestPath_81 ?_
            refine r_eq (y := (nI (max ms 0))) (max_nI (by omega) (by have := stN_le hF.ok (show a < nM (S 0) by omega) (show b < nM (S 0) by omega); omega)) ?_
            refine lv_istore_n (lv' := [(3, .int (nI (max ms 0))), (0, .ref (ad 0)), (2, .int (nI j_13)), (4, .int (nI a)), (5, .int (nI b))]) hx hb dX10_longestPath_84 rfl hl (by decide) rfl (fun ls hl => ?_)
            refine lv_iinc (v := (nI (b + 1))) (lv' := [(5, .int (nI (b + 1))), (3, .int (nI (max ms 0))), (0, .ref (ad 0)), (2, .int (nI j_13)), (4, .int (nI a))]) hx hb dX10_longestPath_85 hl (k := 4) rfl (nI_1 _) (by decide) rfl (fun ls hl => ?_)
            refine lv_goto (tgt := 41) hx hb dX10_longestPath_88 (by decide) ?_
            exact ih_41 ((max ms 0), (b + 1)) _ _ _ (by dsimp only; omega) ⟨_, rfl, lv_sub hl [2, 3, 1, 4, 0] rfl, hW, ⟨by rw [lpI, if_neg (by rw [c_66]; decide), ← hm], by (try dsimp only); omega, fun _ => c_55⟩⟩
          · refine lv_aload_n hx hb dX10_longestPath_69 rfl (lv_at hl 0 rfl) ?_
            refine lv_iload hx hb dX10_longestPath_70 (lv_at hl 3 rfl) ?_
            refine lv_iload hx hb dX10_longestPath_72 (lv_at hl 4 rfl) ?_
            obtain ⟨kc, hkc⟩ := cmF_ex (n := nM (S 0)) c_55 c_66 hq0
            refine md_callg C hml hl.1 (As := [.int (nI a), .int (nI b)]) (rest := [.int (nI ms)]) (m_steps l D aT ad (ss S 8 (nI 0)) (nM (S 0)) (idM (S 0)) (prM (S 0)) (tnM (S 0)) hF a b kc (show a < nM (S 0) by omega) (show b < nM (S 0) by omega) hkc) gT_steps hd_steps rfl ⟨Nat.le_of_ble_eq_true rfl, Nat.le_of_ble_eq_true rfl⟩ ⟨Nat.le_refl _, Nat.le_refl _⟩ hW hA rfl (Nat.le_of_ble_eq_true rfl) dX10_longestPath_74 (fun r_74 H locs hq hW => ?_)
            subst hq
            refine lv_goto (tgt := 81) hx hb dX10_longestPath_77 (by decide) ?_
            refine md_max C hml hl.1 gk_max ⟨Nat.le_of_ble_eq_true rfl, Nat.le_of_ble_eq_true rfl, Nat.le_of_ble_eq_true rfl⟩ ⟨Nat.le_refl _, Nat.le_refl _⟩ dX10_longestPath_81 ?_
            refine r_eq (y := (nI (max ms (stN (prM (S 0)) (nM (S 0)) a b)))) (max_nI (by omega) (by have := stN_le hF.ok (show a < nM (S 0) by omega) (show b < nM (S 0) by omega); omega)) ?_
            refine lv_istore_n (lv' := [(3, .int (nI (max ms (stN (prM (S 0)) (nM (S 0)) a b)))), (0, .ref (ad 0)), (2, .int (nI j_13)), (4, .int (nI a)), (5, .int (nI b))]) hx hb dX10_longestPath_84 rfl hl (by decide) rfl (fun ls hl => ?_)
            refine lv_iinc (v := (nI (b + 1))) (lv' := [(5, .int (nI (b + 1))), (3, .int (nI (max ms (stN (prM (S 0)) (nM (S 0)) a b)))), (0, .ref (ad 0)), (2, .int (nI j_13)), (4, .int (nI a))]) hx hb dX10_longestPath_85 hl (k := 4) rfl (nI_1 _) (by decide) rfl (fun ls hl => ?_)
            refine lv_goto (tgt := 41) hx hb dX10_longestPath_88 (by decide) ?_
            exact ih_41 ((max ms (stN (prM (S 0)) (nM (S 0)) a b)), (b + 1)) _ _ _ (by dsimp only; omega) ⟨_, rfl, lv_sub hl [2, 3, 1, 4, 0] rfl, hW, ⟨by rw [lpI, if_pos c_66, ← hm], by (try dsimp only); omega, fun _ => c_55⟩⟩
  · have hl : lv_has ls 6 [(2, .int (-1)), (0, .ref (ad 0)), (1, .int x)] := by rw [c_13] at hl; exact hl
    refine lv_aload_n hx hb dX10_longestPath_16 rfl (lv_at hl 1 rfl) ?_
    refine lv_iconst (v := nI 1) hx hb dX10_longestPath_17 (by decide) ?_
    refine md_calli C hml hl.1 (As := [.int (nI 1)]) (rest := []) (m_throwing l D aT ad (ss S 8 (nI 0)) 1) gT_throwing hd_throwing rfl ⟨Nat.le_of_ble_eq_true rfl, Nat.le_of_ble_eq_true rfl⟩ ⟨Nat.le_refl _, Nat.le_refl _⟩ hW hA rfl (Nat.le_of_ble_eq_true rfl) dX10_longestPath_18 (fun r_18 S_18 H locs hq hW => ?_)
    obtain ⟨rfl, rfl⟩ := hq
    exact md_iret C hr hlocks rfl hW (Or.inl ⟨c_13, rfl, ss_ss _ _ _ _⟩) dX10_longestPath_21
theorem dX10_longestPathBySweeps_0 : decode cX10_longestPathBySweeps 0 = .ok (.aload_n 0, 1) := by decide +kernel
theorem dX10_longestPathBySweeps_1 : decode cX10_longestPathBySweeps 1 = .ok (.iload_n 1, 1) := by decide +kernel
theorem dX10_longestPathBySweeps_2 : decode cX10_longestPathBySweeps 2 = .ok (.invokevirtual 187, 3) := by decide +kernel
theorem dX10_longestPathBySweeps_5 : decode cX10_longestPathBySweeps 5 = .ok (.ireturn, 1) := by decide +kernel
set_option maxHeartbeats 1000000 in
set_option maxRecDepth 20000 in
theorem m_longestPathBySweeps (l : Launch) (D : va_G) (aT : Nat → ClassId) (ad : Nat → Nat) (S : MSt) (x : Int32) (hF : FoW (S 0)) : MdI l yX10_longestPathBySweeps cX10_longestPathBySweeps 2 .int 7 159 D aT ad [.ref (ad 0), .int x] S (fun r S1 => (fnd (fun k => S 0 (29 + 4 * k)) x (nM (S 0)) = none ∧ r = -1 ∧ S1 = ss S 8 (nI 1)) ∨ (∃ q, fnd (fun k => S 0 (29 + 4 * k)) x (nM (S 0)) = some q ∧ r = nI (lpO (prM (S 0)) (nM (S 0)) q (nM (S 0)) + 1) ∧ S1 = ss S 8 (nI 0))) := by
  refine MdI.of (by decide +kernel) rfl (Nat.le_of_ble_eq_true rfl) ?_
  intro p e s m below meth c A ls C hml hl hA hr hlocks hW
  have hl : lv_has ls 2 [(0, .ref (ad 0)), (1, .int x)] := hl
  have hx := C.1
  have hb := C.2.1
  refine lv_aload_n hx hb dX10_longestPathBySweeps_0 rfl (lv_at hl 0 rfl) ?_
  refine lv_iload_n hx hb dX10_longestPathBySweeps_1 rfl (lv_at hl 1 rfl) ?_
  refine md_calli C hml hl.1 (As := [.int x]) (rest := []) (m_longestPath l D aT ad S (x) hF) gT_longestPath hd_longestPath rfl ⟨Nat.le_of_ble_eq_true rfl, Nat.le_of_ble_eq_true rfl⟩ ⟨Nat.le_refl _, Nat.le_refl _⟩ hW hA rfl (Nat.le_of_ble_eq_true rfl) dX10_longestPathBySweeps_2 (fun r_2 S_2 H locs hq hW => ?_)
  rcases hq with ⟨h1, rfl, rfl⟩ | ⟨q, h1, rfl, rfl⟩
  · exact md_iret C hr hlocks rfl hW (Or.inl ⟨h1, rfl, rfl⟩) dX10_longestPathBySweeps_5
  · exact md_iret C hr hlocks rfl hW (Or.inr ⟨q, h1, rfl, rfl⟩) dX10_longestPathBySweeps_5
theorem gT_measures : GoodIn gw (wsV RX10 196 RX10 yX10_measures (Cond.code yX10_measures cX10_measures 5 (none) :: gw)) := gdV gw_1954 gw_1956 gw_51 gw_81 gw_1957
theorem hd_measures : yX10_measures.cls = RX10 ∧ yX10_measures.cls ≠ "java/lang/invoke/MethodHandle" ∧ yX10_measures.cls ≠ "java/lang/invoke/VarHandle" ∧ (parseMethodDescriptor yX10_measures.desc).map (fun d => d.parameters.length) = some 0 := ⟨rfl, by decide +kernel, by decide +kernel, by decide +kernel⟩
theorem dX10_measures_0 : decode cX10_measures 0 = .ok (.aload_n 0, 1) := by decide +kernel
theorem dX10_measures_1 : decode cX10_measures 1 = .ok (.iconst 0, 1) := by decide +kernel
theorem dX10_measures_2 : decode cX10_measures 2 = .ok (.putfield 190, 3) := by decide +kernel
theorem dX10_measures_5 : decode cX10_measures 5 = .ok (.aload_n 0, 1) := by decide +kernel
theorem dX10_measures_6 : decode cX10_measures 6 = .ok (.iconst 1, 1) := by decide +kernel
theorem dX10_measures_7 : decode cX10_measures 7 = .ok (.putfield 193, 3) := by decide +kernel
theorem dX10_measures_10 : decode cX10_measures 10 = .ok (.iconst 0, 1) := by decide +kernel
theorem dX10_measures_11 : decode cX10_measures 11 = .ok (.istore_n 1, 1) := by decide +kernel
theorem dX10_measures_12 : decode cX10_measures 12 = .ok (.iload_n 1, 1) := by decide +kernel
theorem dX10_measures_13 : decode cX10_measures 13 = .ok (.aload_n 0, 1) := by decide +kernel
theorem dX10_measures_14 : decode cX10_measures 14 = .ok (.getfield 9, 3) := by decide +kernel
theorem dX10_measures_17 : decode cX10_measures 17 = .ok (.iconst 2, 1) := by decide +kernel
theorem dX10_measures_18 : decode cX10_measures 18 = .ok (.iaload, 1) := by decide +kernel
theorem dX10_measures_19 : decode cX10_measures 19 = .ok (.if_icmp .ge 42, 3) := by decide +kernel
theorem dX10_measures_22 : decode cX10_measures 22 = .ok (.aload_n 0, 1) := by decide +kernel
theorem dX10_measures_23 : decode cX10_measures 23 = .ok (.getfield 32, 3) := by decide +kernel
theorem dX10_measures_26 : decode cX10_measures 26 = .ok (.iload_n 1, 1) := by decide +kernel
theorem dX10_measures_27 : decode cX10_measures 27 = .ok (.aload_n 0, 1) := by decide +kernel
theorem dX10_measures_28 : decode cX10_measures 28 = .ok (.iload_n 1, 1) := by decide +kernel
theorem dX10_measures_29 : decode cX10_measures 29 = .ok (.iconst 3, 1) := by decide +kernel
theorem dX10_measures_30 : decode cX10_measures 30 = .ok (.invokevirtual 67, 3) := by decide +kernel
theorem dX10_measures_33 : decode cX10_measures 33 = .ok (.iastore, 1) := by decide +kernel
theorem dX10_measures_34 : decode cX10_measures 34 = .ok (.aload_n 0, 1) := by decide +kernel
theorem dX10_measures_35 : decode cX10_measures 35 = .ok (.getfield 35, 3) := by decide +kernel
theorem dX10_measures_38 : decode cX10_measures 38 = .ok (.iload_n 1, 1) := by decide +kernel
theorem dX10_measures_39 : decode cX10_measures 39 = .ok (.iconst 0, 1) := by decide +kernel
theorem dX10_measures_40 : decode cX10_measures 40 = .ok (.iastore, 1) := by decide +kernel
theorem dX10_measures_41 : decode cX10_measures 41 = .ok (.aload_n 0, 1) := by decide +kernel
theorem dX10_measures_42 : decode cX10_measures 42 = .ok (.getfield 38, 3) := by decide +kernel
theorem dX10_measures_45 : decode cX10_measures 45 = .ok (.iload_n 1, 1) := by decide +kernel
theorem dX10_measures_46 : decode cX10_measures 46 = .ok (.iconst 1, 1) := by decide +kernel
theorem dX10_measures_47 : decode cX10_measures 47 = .ok (.iastore, 1) := by decide +kernel
theorem dX10_measures_48 : decode cX10_measures 48 = .ok (.aload_n 0, 1) := by decide +kernel
theorem dX10_measures_49 : decode cX10_measures 49 = .ok (.getfield 41, 3) := by decide +kernel
theorem dX10_measures_52 : decode cX10_measures 52 = .ok (.iload_n 1, 1) := by decide +kernel
theorem dX10_measures_53 : decode cX10_measures 53 = .ok (.iconst 1, 1) := by decide +kernel
theorem dX10_measures_54 : decode cX10_measures 54 = .ok (.iastore, 1) := by decide +kernel
theorem dX10_measures_55 : decode cX10_measures 55 = .ok (.iinc 1 1, 3) := by decide +kernel
theorem dX10_measures_58 : decode cX10_measures 58 = .ok (.goto (-46), 3) := by decide +kernel
theorem dX10_measures_61 : decode cX10_measures 61 = .ok (.aload_n 0, 1) := by decide +kernel
theorem dX10_measures_62 : decode cX10_measures 62 = .ok (.getfield 9, 3) := by decide +kernel
theorem dX10_measures_65 : decode cX10_measures 65 = .ok (.iconst 2, 1) := by decide +kernel
theorem dX10_measures_66 : decode cX10_measures 66 = .ok (.iaload, 1) := by decide +kernel
theorem dX10_measures_67 : decode cX10_measures 67 = .ok (.iconst 1, 1) := by decide +kernel
theorem dX10_measures_68 : decode cX10_measures 68 = .ok (.isub, 1) := by decide +kernel
theorem dX10_measures_69 : decode cX10_measures 69 = .ok (.istore_n 1, 1) := by decide +kernel
theorem dX10_measures_70 : decode cX10_measures 70 = .ok (.iload_n 1, 1) := by decide +kernel
theorem dX10_measures_71 : decode cX10_measures 71 = .ok (.ifCond .lt 129, 3) := by decide +kernel
theorem dX10_measures_74 : decode cX10_measures 74 = .ok (.aload_n 0, 1) := by decide +kernel
theorem dX10_measures_75 : decode cX10_measures 75 = .ok (.getfield 32, 3) := by decide +kernel
theorem dX10_measures_78 : decode cX10_measures 78 = .ok (.iload_n 1, 1) := by decide +kernel
theorem dX10_measures_79 : decode cX10_measures 79 = .ok (.iaload, 1) := by decide +kernel
theorem dX10_measures_80 : decode cX10_measures 80 = .ok (.aload_n 0, 1) := by decide +kernel
theorem dX10_measures_81 : decode cX10_measures 81 = .ok (.getfield 35, 3) := by decide +kernel
theorem dX10_measures_84 : decode cX10_measures 84 = .ok (.iload_n 1, 1) := by decide +kernel
theorem dX10_measures_85 : decode cX10_measures 85 = .ok (.iaload, 1) := by decide +kernel
theorem dX10_measures_86 : decode cX10_measures 86 = .ok (.invokestatic 138, 3) := by decide +kernel
theorem dX10_measures_89 : decode cX10_measures 89 = .ok (.istore_n 2, 1) := by decide +kernel
theorem dX10_measures_90 : decode cX10_measures 90 = .ok (.aload_n 0, 1) := by decide +kernel
theorem dX10_measures_91 : decode cX10_measures 91 = .ok (.getfield 38, 3) := by decide +kernel
theorem dX10_measures_94 : decode cX10_measures 94 = .ok (.iload_n 1, 1) := by decide +kernel
theorem dX10_measures_95 : decode cX10_measures 95 = .ok (.iaload, 1) := by decide +kernel
theorem dX10_measures_96 : decode cX10_measures 96 = .ok (.aload_n 0, 1) := by decide +kernel
theorem dX10_measures_97 : decode cX10_measures 97 = .ok (.getfield 41, 3) := by decide +kernel
theorem dX10_measures_100 : decode cX10_measures 100 = .ok (.iload_n 1, 1) := by decide +kernel
theorem dX10_measures_101 : decode cX10_measures 101 = .ok (.iaload, 1) := by decide +kernel
theorem dX10_measures_102 : decode cX10_measures 102 = .ok (.iadd, 1) := by decide +kernel
theorem dX10_measures_103 : decode cX10_measures 103 = .ok (.istore_n 3, 1) := by decide +kernel
theorem dX10_measures_104 : decode cX10_measures 104 = .ok (.aload_n 0, 1) := by decide +kernel
theorem dX10_measures_105 : decode cX10_measures 105 = .ok (.iload_n 1, 1) := by decide +kernel
theorem dX10_measures_106 : decode cX10_measures 106 = .ok (.invokevirtual 75, 3) := by decide +kernel
theorem dX10_measures_109 : decode cX10_measures 109 = .ok (.istore 4, 2) := by decide +kernel
theorem dX10_measures_111 : decode cX10_measures 111 = .ok (.iload 4, 2) := by decide +kernel
theorem dX10_measures_113 : decode cX10_measures 113 = .ok (.iconst (-1), 1) := by decide +kernel
theorem dX10_measures_114 : decode cX10_measures 114 = .ok (.if_icmp .ne 26, 3) := by decide +kernel
theorem dX10_measures_117 : decode cX10_measures 117 = .ok (.aload_n 0, 1) := by decide +kernel
theorem dX10_measures_118 : decode cX10_measures 118 = .ok (.dup, 1) := by decide +kernel
theorem dX10_measures_119 : decode cX10_measures 119 = .ok (.getfield 190, 3) := by decide +kernel
theorem dX10_measures_122 : decode cX10_measures 122 = .ok (.iload_n 2, 1) := by decide +kernel
theorem dX10_measures_123 : decode cX10_measures 123 = .ok (.iadd, 1) := by decide +kernel
theorem dX10_measures_124 : decode cX10_measures 124 = .ok (.putfield 190, 3) := by decide +kernel
theorem dX10_measures_127 : decode cX10_measures 127 = .ok (.aload_n 0, 1) := by decide +kernel
theorem dX10_measures_128 : decode cX10_measures 128 = .ok (.dup, 1) := by decide +kernel
theorem dX10_measures_129 : decode cX10_measures 129 = .ok (.getfield 193, 3) := by decide +kernel
theorem dX10_measures_132 : decode cX10_measures 132 = .ok (.iload_n 3, 1) := by decide +kernel
theorem dX10_measures_133 : decode cX10_measures 133 = .ok (.imul, 1) := by decide +kernel
theorem dX10_measures_134 : decode cX10_measures 134 = .ok (.putfield 193, 3) := by decide +kernel
theorem dX10_measures_137 : decode cX10_measures 137 = .ok (.goto 57, 3) := by decide +kernel
theorem dX10_measures_140 : decode cX10_measures 140 = .ok (.aload_n 0, 1) := by decide +kernel
theorem dX10_measures_141 : decode cX10_measures 141 = .ok (.getfield 32, 3) := by decide +kernel
theorem dX10_measures_144 : decode cX10_measures 144 = .ok (.iload 4, 2) := by decide +kernel
theorem dX10_measures_146 : decode cX10_measures 146 = .ok (.dup2, 1) := by decide +kernel
theorem dX10_measures_147 : decode cX10_measures 147 = .ok (.iaload, 1) := by decide +kernel
theorem dX10_measures_148 : decode cX10_measures 148 = .ok (.aload_n 0, 1) := by decide +kernel
theorem dX10_measures_149 : decode cX10_measures 149 = .ok (.getfield 35, 3) := by decide +kernel
theorem dX10_measures_152 : decode cX10_measures 152 = .ok (.iload_n 1, 1) := by decide +kernel
theorem dX10_measures_153 : decode cX10_measures 153 = .ok (.iaload, 1) := by decide +kernel
theorem dX10_measures_154 : decode cX10_measures 154 = .ok (.iadd, 1) := by decide +kernel
theorem dX10_measures_155 : decode cX10_measures 155 = .ok (.iastore, 1) := by decide +kernel
theorem dX10_measures_156 : decode cX10_measures 156 = .ok (.aload_n 0, 1) := by decide +kernel
theorem dX10_measures_157 : decode cX10_measures 157 = .ok (.getfield 35, 3) := by decide +kernel
theorem dX10_measures_160 : decode cX10_measures 160 = .ok (.iload 4, 2) := by decide +kernel
theorem dX10_measures_162 : decode cX10_measures 162 = .ok (.dup2, 1) := by decide +kernel
theorem dX10_measures_163 : decode cX10_measures 163 = .ok (.iaload, 1) := by decide +kernel
theorem dX10_measures_164 : decode cX10_measures 164 = .ok (.iload_n 2, 1) := by decide +kernel
theorem dX10_measures_165 : decode cX10_measures 165 = .ok (.iadd, 1) := by decide +kernel
theorem dX10_measures_166 : decode cX10_measures 166 = .ok (.iastore, 1) := by decide +kernel
theorem dX10_measures_167 : decode cX10_measures 167 = .ok (.aload_n 0, 1) := by decide +kernel
theorem dX10_measures_168 : decode cX10_measures 168 = .ok (.getfield 38, 3) := by decide +kernel
theorem dX10_measures_171 : decode cX10_measures 171 = .ok (.iload 4, 2) := by decide +kernel
theorem dX10_measures_173 : decode cX10_measures 173 = .ok (.dup2, 1) := by decide +kernel
theorem dX10_measures_174 : decode cX10_measures 174 = .ok (.iaload, 1) := by decide +kernel
theorem dX10_measures_175 : decode cX10_measures 175 = .ok (.aload_n 0, 1) := by decide +kernel
theorem dX10_measures_176 : decode cX10_measures 176 = .ok (.getfield 41, 3) := by decide +kernel
theorem dX10_measures_179 : decode cX10_measures 179 = .ok (.iload_n 1, 1) := by decide +kernel
theorem dX10_measures_180 : decode cX10_measures 180 = .ok (.iaload, 1) := by decide +kernel
theorem dX10_measures_181 : decode cX10_measures 181 = .ok (.imul, 1) := by decide +kernel
theorem dX10_measures_182 : decode cX10_measures 182 = .ok (.iastore, 1) := by decide +kernel
theorem dX10_measures_183 : decode cX10_measures 183 = .ok (.aload_n 0, 1) := by decide +kernel
theorem dX10_measures_184 : decode cX10_measures 184 = .ok (.getfield 41, 3) := by decide +kernel
theorem dX10_measures_187 : decode cX10_measures 187 = .ok (.iload 4, 2) := by decide +kernel
theorem dX10_measures_189 : decode cX10_measures 189 = .ok (.dup2, 1) := by decide +kernel
theorem dX10_measures_190 : decode cX10_measures 190 = .ok (.iaload, 1) := by decide +kernel
theorem dX10_measures_191 : decode cX10_measures 191 = .ok (.iload_n 3, 1) := by decide +kernel
theorem dX10_measures_192 : decode cX10_measures 192 = .ok (.imul, 1) := by decide +kernel
theorem dX10_measures_193 : decode cX10_measures 193 = .ok (.iastore, 1) := by decide +kernel
theorem dX10_measures_194 : decode cX10_measures 194 = .ok (.iinc 1 (-1), 3) := by decide +kernel
theorem dX10_measures_197 : decode cX10_measures 197 = .ok (.goto (-127), 3) := by decide +kernel
theorem dX10_measures_200 : decode cX10_measures 200 = .ok (.return_, 1) := by decide +kernel
set_option maxHeartbeats 4000000 in
set_option maxRecDepth 20000 in
theorem m_measures (l : Launch) (D : va_G) (aT : Nat → ClassId) (ad : Nat → Nat) (S : MSt) (hF : FoW (S 0)) : MdV l yX10_measures cX10_measures 5 3 65 D aT ad [.ref (ad 0)] S (fun S1 => S1 = meaT S (meaR S)) := by
  refine MdV.of (by decide +kernel) rfl (Nat.le_of_ble_eq_true rfl) ?_
  intro p e s m below meth c A ls C hml hl hA hr hlocks hW
  have hl : lv_has ls 5 [(0, .ref (ad 0))] := hl
  have hx := C.1
  have hb := C.2.1
  refine lv_aload_n hx hb dX10_measures_0 rfl (lv_at hl 0 rfl) ?_
  refine lv_iconst (v := nI 0) hx hb dX10_measures_1 (by decide) ?_
  refine md_put_worthAll C hW dX10_measures_2 (fun H locs hW => ?_)
  refine lv_aload_n hx hb dX10_measures_5 rfl (lv_at hl 0 rfl) ?_
  refine lv_iconst (v := nI 1) hx hb dX10_measures_6 (by decide) ?_
  refine md_put_setsAll C hW dX10_measures_7 (fun H locs hW => ?_)
  refine lv_iconst (v := nI 0) hx hb dX10_measures_10 (by decide) ?_
  refine lv_istore_n (lv' := [(1, .int (nI 0)), (0, .ref (ad 0))]) hx hb dX10_measures_11 rfl hl (by decide) rfl (fun ls hl => ?_)
  refine W_loopH (σ := Nat) (fun z_ => nM (S 0) - z_) (fun z_ H locs g => ∃ ls, g = F0 m 12 ls [] ∧ lv_has ls 5 [(0, .ref (ad 0)), (1, .int (nI z_))] ∧ MdB D aT ad (stT S (cpyF (S 5) (fun j => S 0 (29 + 4 * j + 3)) z_) (cpyF (S 6) (fun _ => nI 0) z_) (cpyF (S 7) (fun _ => nI 1) z_) (cpyF (S 8) (fun _ => nI 1) z_) (nI 0) (nI 1)) A s.heap H locs ∧ (z_ ≤ nM (S 0))) ?_ 0 _ ⟨_, rfl, lv_sub hl [1, 0] rfl, (by rw [cpyF_0, cpyF_0, cpyF_0, cpyF_0, ← stT_0]; exact hW), Nat.zero_le _⟩
  clear hW hl
  rintro k H locs g ⟨ls, rfl, hl, hW, hk⟩ ih_12
  have h12 := hF.n12
  refine lv_iload_n hx hb dX10_measures_12 rfl (lv_at hl 1 rfl) ?_
  refine lv_aload_n hx hb dX10_measures_13 rfl (lv_at hl 0 rfl) ?_
  refine md_geta_m C hW dX10_measures_14 ?_
  refine lv_iconst (v := nI 2) hx hb dX10_measures_17 (by decide) ?_
  refine md_ald_m C hW (i := 2) (by omega) dX10_measures_18 ?_
  refine r_eq (y := (nI (nM (S 0)))) (hF.1) ?_
  refine r_geN hx hb (a := k) (b := (nM (S 0))) (by omega) (by omega) (tgt := 61) dX10_measures_19 (by decide) (fun c_19 => ?_) (fun c_19 => ?_)
  · refine lv_aload_n hx hb dX10_measures_61 rfl (lv_at hl 0 rfl) ?_
    refine md_geta_m C hW dX10_measures_62 ?_
    refine lv_iconst (v := nI 2) hx hb dX10_measures_65 (by decide) ?_
    refine md_ald_m C hW (i := 2) (by omega) dX10_measures_66 ?_
    refine r_eq (y := (nI (nM (S 0)))) (hF.1) ?_
    refine lv_iconst (v := nI 1) hx hb dX10_measures_67 (by decide) ?_
    refine lv_isub hx hb dX10_measures_68 ?_
    refine lv_istore_n (lv' := [(1, .int (nI (nM (S 0)) - nI 1)), (0, .ref (ad 0))]) hx hb dX10_measures_69 rfl hl (by decide) rfl (fun ls hl => ?_)
    refine W_loopH (σ := (Nat → Int32) × (Nat → Int32) × (Nat → Int32) × (Nat → Int32) × Int32 × Int32 × Nat) (fun z_ => z_.2.2.2.2.2.2) (fun z_ H locs g => ∃ ls, g = F0 m 70 ls [] ∧ lv_has ls 5 [(0, .ref (ad 0)), (1, .int (nI z_.2.2.2.2.2.2 - nI 1))] ∧ MdB D aT ad (stT S z_.1 z_.2.1 z_.2.2.1 z_.2.2.2.1 z_.2.2.2.2.1 z_.2.2.2.2.2.1) A s.heap H locs ∧ (meaD (S 0) z_.2.2.2.2.2.2 (z_.1, z_.2.1, z_.2.2.1, z_.2.2.2.1, z_.2.2.2.2.1, z_.2.2.2.2.2.1) = meaR S ∧ z_.2.2.2.2.2.2 ≤ nM (S 0))) ?_ ((cpyF (S 5) (fun j => S 0 (29 + 4 * j + 3)) (nM (S 0))), (cpyF (S 6) (fun _ => nI 0) (nM (S 0))), (cpyF (S 7) (fun _ => nI 1) (nM (S 0))), (cpyF (S 8) (fun _ => nI 1) (nM (S 0))), (nI 0), (nI 1), (nM (S 0))) _ ⟨_, rfl, lv_sub hl [1, 0] rfl, (by rw [show k = nM (S 0) by omega] at hW; exact hW), ⟨rfl, Nat.le_refl _⟩⟩
    clear hW hl
    rintro ⟨w, wo, sw, so, wa, sa, i⟩ H locs g ⟨ls, rfl, hl, hW, he, hin⟩ ih_70
    dsimp only at hl hW he hin ⊢
    have h12 := hF.n12
    refine lv_iload_n hx hb dX10_measures_70 rfl (lv_at hl 1 rfl) ?_
    refine r_ifltD hx hb (a := i) (b := 1) (by omega) (by omega) (tgt := 200) dX10_measures_71 (by decide) (fun c_71 => ?_) (fun c_71 => ?_)
    · exact md_vret C hr hlocks hW (by rw [← he, show i = 0 by omega]; rfl) dX10_measures_200
    · obtain ⟨i, rfl⟩ : ∃ i2, i = i2 + 1 := ⟨i - 1, by omega⟩
      rw [pk_sub (by omega)] at hl
      have hl : lv_has ls 5 [(0, .ref (ad 0)), (1, .int (nI i))] := hl
      refine lv_aload_n hx hb dX10_measures_74 rfl (lv_at hl 0 rfl) ?_
      refine md_geta_with C hW dX10_measures_75 ?_
      refine lv_iload_n hx hb dX10_measures_78 rfl (lv_at hl 1 rfl) ?_
      refine md_ald_with C hW (i := i) (by omega) dX10_measures_79 ?_
      refine r_eq (y := (w i)) (rfl) ?_
      refine lv_aload_n hx hb dX10_measures_80 rfl (lv_at hl 0 rfl) ?_
      refine md_geta_without C hW dX10_measures_81 ?_
      refine lv_iload_n hx hb dX10_measures_84 rfl (lv_at hl 1 rfl) ?_
      refine md_ald_without C hW (i := i) (by omega) dX10_measures_85 ?_
      refine r_eq (y := (wo i)) (rfl) ?_
      refine md_max C hml hl.1 gk_max ⟨Nat.le_of_ble_eq_true rfl, Nat.le_of_ble_eq_true rfl, Nat.le_of_ble_eq_true rfl⟩ ⟨Nat.le_refl _, Nat.le_refl _⟩ dX10_measures_86 ?_
      refine r_eq (y := (mxF (w i) (wo i))) (rfl) ?_
      refine lv_istore_n (lv' := [(2, .int (mxF (w i) (wo i))), (0, .ref (ad 0)), (1, .int (nI i))]) hx hb dX10_measures_89 rfl hl (by decide) rfl (fun ls hl => ?_)
      refine lv_aload_n hx hb dX10_measures_90 rfl (lv_at hl 1 rfl) ?_
      refine md_geta_setsWith C hW dX10_measures_91 ?_
      refine lv_iload_n hx hb dX10_measures_94 rfl (lv_at hl 2 rfl) ?_
      refine md_ald_setsWith C hW (i := i) (by omega) dX10_measures_95 ?_
      refine r_eq (y := (sw i)) (rfl) ?_
      refine lv_aload_n hx hb dX10_measures_96 rfl (lv_at hl 1 rfl) ?_
      refine md_geta_setsWithout C hW dX10_measures_97 ?_
      refine lv_iload_n hx hb dX10_measures_100 rfl (lv_at hl 2 rfl) ?_
      refine md_ald_setsWithout C hW (i := i) (by omega) dX10_measures_101 ?_
      refine r_eq (y := (so i)) (rfl) ?_
      refine lv_iadd hx hb dX10_measures_102 ?_
      refine lv_istore_n (lv' := [(3, .int ((sw i) + (so i))), (2, .int (mxF (w i) (wo i))), (0, .ref (ad 0)), (1, .int (nI i))]) hx hb dX10_measures_103 rfl hl (by decide) rfl (fun ls hl => ?_)
      refine lv_aload_n hx hb dX10_measures_104 rfl (lv_at hl 2 rfl) ?_
      refine lv_iload_n hx hb dX10_measures_105 rfl (lv_at hl 3 rfl) ?_
      refine md_callg C hml hl.1 (As := [.int (nI i)]) (rest := []) (m_above l D aT ad (stT S w wo sw so wa sa) (nM (S 0)) (idM (S 0)) (prM (S 0)) (tnM (S 0)) hF i (show i < nM (S 0) by omega)) gT_above hd_above rfl ⟨Nat.le_of_ble_eq_true rfl, Nat.le_of_ble_eq_true rfl⟩ ⟨Nat.le_refl _, Nat.le_refl _⟩ hW hA rfl (Nat.le_of_ble_eq_true rfl) dX10_measures_106 (fun r_106 H locs hq hW => ?_)
      subst hq
      refine lv_istore (lv' := [(4, .int (oi ((prM (S 0)) i))), (3, .int ((sw i) + (so i))), (2, .int (mxF (w i) (wo i))), (0, .ref (ad 0)), (1, .int (nI i))]) hx hb dX10_measures_109 hl (by decide) rfl (fun ls hl => ?_)
      refine lv_iload hx hb dX10_measures_111 (lv_at hl 0 rfl) ?_
      refine lv_iconst (v := (-1)) hx hb dX10_measures_113 (by decide) ?_
      refine r_oi_ne hx hb (o := ((prM (S 0)) i)) (hF.plim (show i < nM (S 0) by omega)) (tgt := 140) dX10_measures_114 (by decide) (fun j_114 c_114 => ?_) (fun c_114 => ?_)
      · have hl : lv_has ls 5 [(4, .int (nI j_114)), (3, .int ((sw i) + (so i))), (2, .int (mxF (w i) (wo i))), (0, .ref (ad 0)), (1, .int (nI i))] := by rw [c_114] at hl; exact hl
        have hj := hF.ok _ _ (show i < nM (S 0) by omega) c_114
        refine lv_aload_n hx hb dX10_measures_140 rfl (lv_at hl 3 rfl) ?_
        refine md_geta_with C hW dX10_measures_141 ?_
        refine lv_iload hx hb dX10_measures_144 (lv_at hl 0 rfl) ?_
        refine lv_dup2_11 hx hb dX10_measures_146 rfl rfl ?_
        refine md_ald_with C hW (i := j_114) (by omega) dX10_measures_147 ?_
        refine r_eq (y := (w j_114)) (rfl) ?_
        refine lv_aload_n hx hb dX10_measures_148 rfl (lv_at hl 3 rfl) ?_
        refine md_geta_without C hW dX10_measures_149 ?_
        refine lv_iload_n hx hb dX10_measures_152 rfl (lv_at hl 4 rfl) ?_
        refine md_ald_without C hW (i := i) (by omega) dX10_measures_153 ?_
        refine r_eq (y := (wo i)) (rfl) ?_
        refine lv_iadd hx hb dX10_measures_154 ?_
        refine md_ast_with C hW (i := j_114) (by omega) dX10_measures_155 (fun H locs hW => ?_)
        have hW : MdB D aT ad (stT S (upd w j_114 (w j_114 + wo i)) wo sw so wa sa) A s.heap H locs := by rw [stT_5] at hW; exact hW
        refine lv_aload_n hx hb dX10_measures_156 rfl (lv_at hl 3 rfl) ?_
        refine md_geta_without C hW dX10_measures_157 ?_
        refine lv_iload hx hb dX10_measures_160 (lv_at hl 0 rfl) ?_
        refine lv_dup2_11 hx hb dX10_measures_162 rfl rfl ?_
        refine md_ald_without C hW (i := j_114) (by omega) dX10_measures_163 ?_
        refine r_eq (y := (wo j_114)) (rfl) ?_
        refine lv_iload_n hx hb dX10_measures_164 rfl (lv_at hl 2 rfl) ?_
        refine lv_iadd hx hb dX10_measures_165 ?_
        refine md_ast_without C hW (i := j_114) (by omega) dX10_measures_166 (fun H locs hW => ?_)
        have hW : MdB D aT ad (stT S (upd w j_114 (w j_114 + wo i)) (upd wo j_114 (wo j_114 + (mxF (w i) (wo i)))) sw so wa sa) A s.heap H locs := by rw [stT_6] at hW; exact hW
        refine lv_aload_n hx hb dX10_measures_167 rfl (lv_at hl 3 rfl) ?_
        refine md_geta_setsWith C hW dX10_measures_168 ?_
        refine lv_iload hx hb dX10_measures_171 (lv_at hl 0 rfl) ?_
        refine lv_dup2_11 hx hb dX10_measures_173 rfl rfl ?_
        refine md_ald_setsWith C hW (i := j_114) (by omega) dX10_measures_174 ?_
        refine r_eq (y := (sw j_114)) (rfl) ?_
        refine lv_aload_n hx hb dX10_measures_175 rfl (lv_at hl 3 rfl) ?_
        refine md_geta_setsWithout C hW dX10_measures_176 ?_
        refine lv_iload_n hx hb dX10_measures_179 rfl (lv_at hl 4 rfl) ?_
        refine md_ald_setsWithout C hW (i := i) (by omega) dX10_measures_180 ?_
        refine r_eq (y := (so i)) (rfl) ?_
        refine lv_imul hx hb dX10_measures_181 ?_
        refine md_ast_setsWith C hW (i := j_114) (by omega) dX10_measures_182 (fun H locs hW => ?_)
        have hW : MdB D aT ad (stT S (upd w j_114 (w j_114 + wo i)) (upd wo j_114 (wo j_114 + (mxF (w i) (wo i)))) (upd sw j_114 (sw j_114 * so i)) so wa sa) A s.heap H locs := by rw [stT_7] at hW; exact hW
        refine lv_aload_n hx hb dX10_measures_183 rfl (lv_at hl 3 rfl) ?_
        refine md_geta_setsWithout C hW dX10_measures_184 ?_
        refine lv_iload hx hb dX10_measures_187 (lv_at hl 0 rfl) ?_
        refine lv_dup2_11 hx hb dX10_measures_189 rfl rfl ?_
        refine md_ald_setsWithout C hW (i := j_114) (by omega) dX10_measures_190 ?_
        refine r_eq (y := (so j_114)) (rfl) ?_
        refine lv_iload_n hx hb dX10_measures_191 rfl (lv_at hl 1 rfl) ?_
        refine lv_imul hx hb dX10_measures_192 ?_
        refine md_ast_setsWithout C hW (i := j_114) (by omega) dX10_measures_193 (fun H locs hW => ?_)
        have hW : MdB D aT ad (stT S (upd w j_114 (w j_114 + wo i)) (upd wo j_114 (wo j_114 + (mxF (w i) (wo i)))) (upd sw j_114 (sw j_114 * so i)) (upd so j_114 (so j_114 * (sw i + so i))) wa sa) A s.heap H locs := by rw [stT_8] at hW; exact hW
        refine lv_iinc (v := (nI i - nI 1)) (lv' := [(1, .int (nI i - nI 1)), (4, .int (nI j_114)), (3, .int ((sw i) + (so i))), (2, .int (mxF (w i) (wo i))), (0, .ref (ad 0))]) hx hb dX10_measures_194 hl (k := 4) rfl (dm1 _) (by decide) rfl (fun ls hl => ?_)
        refine lv_goto (tgt := 70) hx hb dX10_measures_197 (by decide) ?_
        exact ih_70 ((upd w j_114 (w j_114 + wo i)), (upd wo j_114 (wo j_114 + (mxF (w i) (wo i)))), (upd sw j_114 (sw j_114 * so i)), (upd so j_114 (so j_114 * (sw i + so i))), wa, sa, i) _ _ _ (by dsimp only; omega) ⟨_, rfl, lv_sub hl [4, 0] rfl, hW, ⟨by rw [← he, meaD, meaS, c_114], by (try dsimp only); omega⟩⟩
      · have hl : lv_has ls 5 [(4, .int (-1)), (3, .int ((sw i) + (so i))), (2, .int (mxF (w i) (wo i))), (0, .ref (ad 0)), (1, .int (nI i))] := by rw [c_114] at hl; exact hl
        refine lv_aload_n hx hb dX10_measures_117 rfl (lv_at hl 3 rfl) ?_
        refine lv_dup hx hb dX10_measures_118 rfl ?_
        refine md_get_worthAll C hW dX10_measures_119 ?_
        refine r_eq (y := wa) (by simp [stT, upd]) ?_
        refine lv_iload_n hx hb dX10_measures_122 rfl (lv_at hl 2 rfl) ?_
        refine lv_iadd hx hb dX10_measures_123 ?_
        refine md_put_worthAll C hW dX10_measures_124 (fun H locs hW => ?_)
        have hW : MdB D aT ad (stT S w wo sw so (wa + (mxF (w i) (wo i))) sa) A s.heap H locs := by rw [stT_wa] at hW; exact hW
        refine lv_aload_n hx hb dX10_measures_127 rfl (lv_at hl 3 rfl) ?_
        refine lv_dup hx hb dX10_measures_128 rfl ?_
        refine md_get_setsAll C hW dX10_measures_129 ?_
        refine r_eq (y := sa) (by simp [stT, upd]) ?_
        refine lv_iload_n hx hb dX10_measures_132 rfl (lv_at hl 1 rfl) ?_
        refine lv_imul hx hb dX10_measures_133 ?_
        refine md_put_setsAll C hW dX10_measures_134 (fun H locs hW => ?_)
        have hW : MdB D aT ad (stT S w wo sw so (wa + (mxF (w i) (wo i))) (sa * (sw i + so i))) A s.heap H locs := by rw [stT_sa] at hW; exact hW
        refine lv_goto (tgt := 194) hx hb dX10_measures_137 (by decide) ?_
        refine lv_iinc (v := (nI i - nI 1)) (lv' := [(1, .int (nI i - nI 1)), (4, .int (-1)), (3, .int ((sw i) + (so i))), (2, .int (mxF (w i) (wo i))), (0, .ref (ad 0))]) hx hb dX10_measures_194 hl (k := 4) rfl (dm1 _) (by decide) rfl (fun ls hl => ?_)
        refine lv_goto (tgt := 70) hx hb dX10_measures_197 (by decide) ?_
        exact ih_70 (w, wo, sw, so, (wa + (mxF (w i) (wo i))), (sa * (sw i + so i)), i) _ _ _ (by dsimp only; omega) ⟨_, rfl, lv_sub hl [4, 0] rfl, hW, ⟨by rw [← he, meaD, meaS, c_114], by (try dsimp only); omega⟩⟩
  · refine lv_aload_n hx hb dX10_measures_22 rfl (lv_at hl 0 rfl) ?_
    refine md_geta_with C hW dX10_measures_23 ?_
    refine lv_iload_n hx hb dX10_measures_26 rfl (lv_at hl 1 rfl) ?_
    refine lv_aload_n hx hb dX10_measures_27 rfl (lv_at hl 0 rfl) ?_
    refine lv_iload_n hx hb dX10_measures_28 rfl (lv_at hl 1 rfl) ?_
    refine lv_iconst (v := nI 3) hx hb dX10_measures_29 (by decide) ?_
    refine md_callg C hml hl.1 (As := [.int (nI k), .int (nI 3)]) (rest := [.int (nI k), .ref (ad 6)]) (m_of l D aT ad (stT S (cpyF (S 5) (fun j => S 0 (29 + 4 * j + 3)) k) (cpyF (S 6) (fun _ => nI 0) k) (cpyF (S 7) (fun _ => nI 1) k) (cpyF (S 8) (fun _ => nI 1) k) (nI 0) (nI 1)) k 3 (by omega)) gT_of hd_of rfl ⟨Nat.le_of_ble_eq_true rfl, Nat.le_of_ble_eq_true rfl⟩ ⟨Nat.le_refl _, Nat.le_refl _⟩ hW hA rfl (Nat.le_of_ble_eq_true rfl) dX10_measures_30 (fun r_30 H locs hq hW => ?_)
    subst hq
    refine r_eq (y := (S 0 (29 + 4 * k + 3))) (rfl) ?_
    refine md_ast_with C hW (i := k) (by omega) dX10_measures_33 (fun H locs hW => ?_)
    have hW : MdB D aT ad (stT S (upd (cpyF (S 5) (fun j => S 0 (29 + 4 * j + 3)) k) k (S 0 (29 + 4 * k + 3))) (cpyF (S 6) (fun _ => nI 0) k) (cpyF (S 7) (fun _ => nI 1) k) (cpyF (S 8) (fun _ => nI 1) k) (nI 0) (nI 1)) A s.heap H locs := by rw [stT_5] at hW; exact hW
    refine lv_aload_n hx hb dX10_measures_34 rfl (lv_at hl 0 rfl) ?_
    refine md_geta_without C hW dX10_measures_35 ?_
    refine lv_iload_n hx hb dX10_measures_38 rfl (lv_at hl 1 rfl) ?_
    refine lv_iconst (v := nI 0) hx hb dX10_measures_39 (by decide) ?_
    refine md_ast_without C hW (i := k) (by omega) dX10_measures_40 (fun H locs hW => ?_)
    have hW : MdB D aT ad (stT S (upd (cpyF (S 5) (fun j => S 0 (29 + 4 * j + 3)) k) k (S 0 (29 + 4 * k + 3))) (upd (cpyF (S 6) (fun _ => nI 0) k) k (nI 0)) (cpyF (S 7) (fun _ => nI 1) k) (cpyF (S 8) (fun _ => nI 1) k) (nI 0) (nI 1)) A s.heap H locs := by rw [stT_6] at hW; exact hW
    refine lv_aload_n hx hb dX10_measures_41 rfl (lv_at hl 0 rfl) ?_
    refine md_geta_setsWith C hW dX10_measures_42 ?_
    refine lv_iload_n hx hb dX10_measures_45 rfl (lv_at hl 1 rfl) ?_
    refine lv_iconst (v := nI 1) hx hb dX10_measures_46 (by decide) ?_
    refine md_ast_setsWith C hW (i := k) (by omega) dX10_measures_47 (fun H locs hW => ?_)
    have hW : MdB D aT ad (stT S (upd (cpyF (S 5) (fun j => S 0 (29 + 4 * j + 3)) k) k (S 0 (29 + 4 * k + 3))) (upd (cpyF (S 6) (fun _ => nI 0) k) k (nI 0)) (upd (cpyF (S 7) (fun _ => nI 1) k) k (nI 1)) (cpyF (S 8) (fun _ => nI 1) k) (nI 0) (nI 1)) A s.heap H locs := by rw [stT_7] at hW; exact hW
    refine lv_aload_n hx hb dX10_measures_48 rfl (lv_at hl 0 rfl) ?_
    refine md_geta_setsWithout C hW dX10_measures_49 ?_
    refine lv_iload_n hx hb dX10_measures_52 rfl (lv_at hl 1 rfl) ?_
    refine lv_iconst (v := nI 1) hx hb dX10_measures_53 (by decide) ?_
    refine md_ast_setsWithout C hW (i := k) (by omega) dX10_measures_54 (fun H locs hW => ?_)
    have hW : MdB D aT ad (stT S (upd (cpyF (S 5) (fun j => S 0 (29 + 4 * j + 3)) k) k (S 0 (29 + 4 * k + 3))) (upd (cpyF (S 6) (fun _ => nI 0) k) k (nI 0)) (upd (cpyF (S 7) (fun _ => nI 1) k) k (nI 1)) (upd (cpyF (S 8) (fun _ => nI 1) k) k (nI 1)) (nI 0) (nI 1)) A s.heap H locs := by rw [stT_8] at hW; exact hW
    refine lv_iinc (v := (nI (k + 1))) (lv' := [(1, .int (nI (k + 1))), (0, .ref (ad 0))]) hx hb dX10_measures_55 hl (k := 1) rfl (nI_1 _) (by decide) rfl (fun ls hl => ?_)
    refine lv_goto (tgt := 12) hx hb dX10_measures_58 (by decide) ?_
    exact ih_12 (k + 1) _ _ _ (by omega) ⟨_, rfl, lv_sub hl [1, 0] rfl, (by rw [← cpyF_1 (S 5) _ k, ← cpyF_1 (S 6) _ k, ← cpyF_1 (S 7) _ k, ← cpyF_1 (S 8) _ k]; exact hW), (by omega)⟩
theorem gT_bestWorth : GoodIn gw (wsV RX10 199 RX10 yX10_bestWorth (Cond.code yX10_bestWorth cX10_bestWorth 1 (some .int) :: gw)) := gdV gw_1962 gw_1951 gw_1952 gw_81 gw_1953
theorem hd_bestWorth : yX10_bestWorth.cls = RX10 ∧ yX10_bestWorth.cls ≠ "java/lang/invoke/MethodHandle" ∧ yX10_bestWorth.cls ≠ "java/lang/invoke/VarHandle" ∧ (parseMethodDescriptor yX10_bestWorth.desc).map (fun d => d.parameters.length) = some 0 := ⟨rfl, by decide +kernel, by decide +kernel, by decide +kernel⟩
theorem dX10_bestWorth_0 : decode cX10_bestWorth 0 = .ok (.aload_n 0, 1) := by decide +kernel
theorem dX10_bestWorth_1 : decode cX10_bestWorth 1 = .ok (.iconst 0, 1) := by decide +kernel
theorem dX10_bestWorth_2 : decode cX10_bestWorth 2 = .ok (.putfield 57, 3) := by decide +kernel
theorem dX10_bestWorth_5 : decode cX10_bestWorth 5 = .ok (.aload_n 0, 1) := by decide +kernel
theorem dX10_bestWorth_6 : decode cX10_bestWorth 6 = .ok (.invokevirtual 196, 3) := by decide +kernel
theorem dX10_bestWorth_9 : decode cX10_bestWorth 9 = .ok (.aload_n 0, 1) := by decide +kernel
theorem dX10_bestWorth_10 : decode cX10_bestWorth 10 = .ok (.getfield 190, 3) := by decide +kernel
theorem dX10_bestWorth_13 : decode cX10_bestWorth 13 = .ok (.ireturn, 1) := by decide +kernel
set_option maxHeartbeats 1000000 in
set_option maxRecDepth 20000 in
theorem m_bestWorth (l : Launch) (D : va_G) (aT : Nat → ClassId) (ad : Nat → Nat) (S : MSt) (hF : FoW (S 0)) : MdI l yX10_bestWorth cX10_bestWorth 1 .int 4 89 D aT ad [.ref (ad 0)] S (fun r S1 => r = (meaR (ss S 8 (nI 0))).2.2.2.2.1 ∧ S1 = (meaT (ss S 8 (nI 0)) (meaR (ss S 8 (nI 0))))) := by
  refine MdI.of (by decide +kernel) rfl (Nat.le_of_ble_eq_true rfl) ?_
  intro p e s m below meth c A ls C hml hl hA hr hlocks hW
  have hl : lv_has ls 1 [(0, .ref (ad 0))] := hl
  have hx := C.1
  have hb := C.2.1
  refine lv_aload_n hx hb dX10_bestWorth_0 rfl (lv_at hl 0 rfl) ?_
  refine lv_iconst (v := nI 0) hx hb dX10_bestWorth_1 (by decide) ?_
  refine md_put_thrown C hW dX10_bestWorth_2 (fun H locs hW => ?_)
  refine lv_aload_n hx hb dX10_bestWorth_5 rfl (lv_at hl 0 rfl) ?_
  refine md_callv C hml hl.1 (As := []) (rest := []) (m_measures l D aT ad (ss S 8 (nI 0)) hF) gT_measures hd_measures rfl ⟨Nat.le_of_ble_eq_true rfl, Nat.le_of_ble_eq_true rfl⟩ ⟨Nat.le_refl _, Nat.le_refl _⟩ hW hA rfl (Nat.le_of_ble_eq_true rfl) dX10_bestWorth_6 (fun S_6 H locs hq hW => ?_)
  subst hq
  refine lv_aload_n hx hb dX10_bestWorth_9 rfl (lv_at hl 0 rfl) ?_
  refine md_get_worthAll C hW dX10_bestWorth_10 ?_
  refine r_eq (y := ((meaR (ss S 8 (nI 0))).2.2.2.2.1)) (by simp [meaT, stT, upd]) ?_
  exact md_iret C hr hlocks rfl hW (⟨rfl, rfl⟩) dX10_bestWorth_13
theorem dX10_goodSets_0 : decode cX10_goodSets 0 = .ok (.aload_n 0, 1) := by decide +kernel
theorem dX10_goodSets_1 : decode cX10_goodSets 1 = .ok (.iconst 0, 1) := by decide +kernel
theorem dX10_goodSets_2 : decode cX10_goodSets 2 = .ok (.putfield 57, 3) := by decide +kernel
theorem dX10_goodSets_5 : decode cX10_goodSets 5 = .ok (.aload_n 0, 1) := by decide +kernel
theorem dX10_goodSets_6 : decode cX10_goodSets 6 = .ok (.invokevirtual 196, 3) := by decide +kernel
theorem dX10_goodSets_9 : decode cX10_goodSets 9 = .ok (.aload_n 0, 1) := by decide +kernel
theorem dX10_goodSets_10 : decode cX10_goodSets 10 = .ok (.getfield 193, 3) := by decide +kernel
theorem dX10_goodSets_13 : decode cX10_goodSets 13 = .ok (.ireturn, 1) := by decide +kernel
set_option maxHeartbeats 1000000 in
set_option maxRecDepth 20000 in
theorem m_goodSets (l : Launch) (D : va_G) (aT : Nat → ClassId) (ad : Nat → Nat) (S : MSt) (hF : FoW (S 0)) : MdI l yX10_goodSets cX10_goodSets 1 .int 4 89 D aT ad [.ref (ad 0)] S (fun r S1 => r = (meaR (ss S 8 (nI 0))).2.2.2.2.2 ∧ S1 = (meaT (ss S 8 (nI 0)) (meaR (ss S 8 (nI 0))))) := by
  refine MdI.of (by decide +kernel) rfl (Nat.le_of_ble_eq_true rfl) ?_
  intro p e s m below meth c A ls C hml hl hA hr hlocks hW
  have hl : lv_has ls 1 [(0, .ref (ad 0))] := hl
  have hx := C.1
  have hb := C.2.1
  refine lv_aload_n hx hb dX10_goodSets_0 rfl (lv_at hl 0 rfl) ?_
  refine lv_iconst (v := nI 0) hx hb dX10_goodSets_1 (by decide) ?_
  refine md_put_thrown C hW dX10_goodSets_2 (fun H locs hW => ?_)
  refine lv_aload_n hx hb dX10_goodSets_5 rfl (lv_at hl 0 rfl) ?_
  refine md_callv C hml hl.1 (As := []) (rest := []) (m_measures l D aT ad (ss S 8 (nI 0)) hF) gT_measures hd_measures rfl ⟨Nat.le_of_ble_eq_true rfl, Nat.le_of_ble_eq_true rfl⟩ ⟨Nat.le_refl _, Nat.le_refl _⟩ hW hA rfl (Nat.le_of_ble_eq_true rfl) dX10_goodSets_6 (fun S_6 H locs hq hW => ?_)
  subst hq
  refine lv_aload_n hx hb dX10_goodSets_9 rfl (lv_at hl 0 rfl) ?_
  refine md_get_setsAll C hW dX10_goodSets_10 ?_
  refine r_eq (y := ((meaR (ss S 8 (nI 0))).2.2.2.2.2)) (by simp [meaT, stT, upd]) ?_
  exact md_iret C hr hlocks rfl hW (⟨rfl, rfl⟩) dX10_goodSets_13
theorem dX10_bestWorthBySets_0 : decode cX10_bestWorthBySets 0 = .ok (.aload_n 0, 1) := by decide +kernel
theorem dX10_bestWorthBySets_1 : decode cX10_bestWorthBySets 1 = .ok (.invokevirtual 199, 3) := by decide +kernel
theorem dX10_bestWorthBySets_4 : decode cX10_bestWorthBySets 4 = .ok (.ireturn, 1) := by decide +kernel
set_option maxHeartbeats 1000000 in
set_option maxRecDepth 20000 in
theorem m_bestWorthBySets (l : Launch) (D : va_G) (aT : Nat → ClassId) (ad : Nat → Nat) (S : MSt) (hF : FoW (S 0)) : MdI l yX10_bestWorthBySets cX10_bestWorthBySets 1 .int 5 109 D aT ad [.ref (ad 0)] S (fun r S1 => r = (meaR (ss S 8 (nI 0))).2.2.2.2.1 ∧ S1 = (meaT (ss S 8 (nI 0)) (meaR (ss S 8 (nI 0))))) := by
  refine MdI.of (by decide +kernel) rfl (Nat.le_of_ble_eq_true rfl) ?_
  intro p e s m below meth c A ls C hml hl hA hr hlocks hW
  have hl : lv_has ls 1 [(0, .ref (ad 0))] := hl
  have hx := C.1
  have hb := C.2.1
  refine lv_aload_n hx hb dX10_bestWorthBySets_0 rfl (lv_at hl 0 rfl) ?_
  refine md_calli C hml hl.1 (As := []) (rest := []) (m_bestWorth l D aT ad S hF) gT_bestWorth hd_bestWorth rfl ⟨Nat.le_of_ble_eq_true rfl, Nat.le_of_ble_eq_true rfl⟩ ⟨Nat.le_refl _, Nat.le_refl _⟩ hW hA rfl (Nat.le_of_ble_eq_true rfl) dX10_bestWorthBySets_1 (fun r_1 S_1 H locs hq hW => ?_)
  obtain ⟨rfl, rfl⟩ := hq
  exact md_iret C hr hlocks rfl hW (⟨rfl, rfl⟩) dX10_bestWorthBySets_4
theorem dX10_weightByAccounts_0 : decode cX10_weightByAccounts 0 = .ok (.aload_n 0, 1) := by decide +kernel
theorem dX10_weightByAccounts_1 : decode cX10_weightByAccounts 1 = .ok (.invokevirtual 204, 3) := by decide +kernel
theorem dX10_weightByAccounts_4 : decode cX10_weightByAccounts 4 = .ok (.ireturn, 1) := by decide +kernel
set_option maxHeartbeats 1000000 in
set_option maxRecDepth 20000 in
theorem m_weightByAccounts (l : Launch) (D : va_G) (aT : Nat → ClassId) (ad : Nat → Nat) (S : MSt) (hF : FoW (S 0)) : MdI l yX10_weightByAccounts cX10_weightByAccounts 1 .int 2 44 D aT ad [.ref (ad 0)] S (fun r S1 => r = smw (S 0) (nM (S 0)) ∧ S1 = ss S 8 (nI 0)) := by
  refine MdI.of (by decide +kernel) rfl (Nat.le_of_ble_eq_true rfl) ?_
  intro p e s m below meth c A ls C hml hl hA hr hlocks hW
  have hl : lv_has ls 1 [(0, .ref (ad 0))] := hl
  have hx := C.1
  have hb := C.2.1
  refine lv_aload_n hx hb dX10_weightByAccounts_0 rfl (lv_at hl 0 rfl) ?_
  refine md_calli C hml hl.1 (As := []) (rest := []) (m_weightTotal l D aT ad S hF) gT_weightTotal hd_weightTotal rfl ⟨Nat.le_of_ble_eq_true rfl, Nat.le_of_ble_eq_true rfl⟩ ⟨Nat.le_refl _, Nat.le_refl _⟩ hW hA rfl (Nat.le_of_ble_eq_true rfl) dX10_weightByAccounts_1 (fun r_1 S_1 H locs hq hW => ?_)
  obtain ⟨rfl, rfl⟩ := hq
  exact md_iret C hr hlocks rfl hW (⟨rfl, rfl⟩) dX10_weightByAccounts_4
