/-- whether a number is a place before h -/
def isHB (h : Nat) (x : Int32) : Bool := decide (0 ≤ x.toInt ∧ x.toInt < h)
theorem isH_eq {h : Nat} (hh : h < 1024) (x : Int32) : rgB 0 (nI h - nI 1).toInt64 x = isHB h x := by
  unfold rgB isHB
  have e : (nI h - nI 1).toInt = (h : Int) - (1 : Nat) := pk_sub_toInt (by omega) (by omega)
  have e0 : (0 : Int64).toInt = 0 := by decide
  congr 1
  rw [Int64.le_iff_toInt_le, Int64.le_iff_toInt_le, Int32.toInt_toInt64, Int32.toInt_toInt64, e, e0]
  apply propext
  constructor <;> intro h <;> omega
theorem isHB_nat {h : Nat} {x : Int32} (e : isHB h x = true) (hh : h < 1024) : ∃ i, i < h ∧ x = nI i := by
  have h1 := of_decide_eq_true e
  refine ⟨x.toInt.toNat, by omega, ?_⟩
  apply Int32.toInt_inj.mp
  rw [nI_toInt (by omega)]
  omega
theorem dz_eq {a b : Nat} (ha : a < 1024) (hb : b < 1024) : nI a - nI b = 0 ↔ a = b := by
  have e := pk_sub_toInt (a := a) (b := b) (by omega) (by omega)
  have h0 : (0 : Int32).toInt = 0 := by decide
  rw [← Int32.toInt_inj, e, h0]; omega
theorem dz_lt {a b : Nat} (ha : a < 1024) (hb : b < 1024) : 0 < nI a - nI b ↔ b < a := by
  have e := pk_sub_toInt (a := a) (b := b) (by omega) (by omega)
  have h0 : (0 : Int32).toInt = 0 := by decide
  rw [Int32.lt_iff_toInt_lt, e, h0]; omega
section IFD
variable {p : Program} {l : Launch} {e : Env} {R : Room} {s : State} {m : MethodId} {args : Array Value} {below : List Frame} {meth : Method} {c : Code} {H : Heap} {locs : List Loc} {cells slots : Nat} {Q : State → Prop} {cc : ByteArray} {pc : Nat} {ls : Array Slot} {rest : List Value}
theorem r_ifneD (hx : p.tables.exec = Jvm.exec) (hb : c.code = cc) {a b : Nat} (ha : a < 1024) (hb' : b < 1024) {off : Int} {tgt : Nat} (hdg : decode cc pc = .ok (.ifCond .ne off, 3)) (ht : (pc : Int) + off = (tgt : Int)) (kt : a ≠ b → W p l e R s m args below meth c H locs cells slots Q (F0 m tgt ls rest)) (kf : a = b → W p l e R s m args below meth c H locs cells slots Q (F0 m (pc + 3) ls rest)) : W p l e R s m args below meth c H locs cells slots Q (F0 m pc ls (.int (nI a - nI b) :: rest)) :=
  lv_if_ne hx hb hdg ht (fun h => kt (fun z => h ((dz_eq ha hb').mpr z))) (fun h => kf ((dz_eq ha hb').mp h))
theorem r_ifgtD (hx : p.tables.exec = Jvm.exec) (hb : c.code = cc) {a b : Nat} (ha : a < 1024) (hb' : b < 1024) {off : Int} {tgt : Nat} (hdg : decode cc pc = .ok (.ifCond .gt off, 3)) (ht : (pc : Int) + off = (tgt : Int)) (kt : b < a → W p l e R s m args below meth c H locs cells slots Q (F0 m tgt ls rest)) (kf : a ≤ b → W p l e R s m args below meth c H locs cells slots Q (F0 m (pc + 3) ls rest)) : W p l e R s m args below meth c H locs cells slots Q (F0 m pc ls (.int (nI a - nI b) :: rest)) :=
  lv_if_gt hx hb hdg ht (fun h => kt ((dz_lt ha hb').mp h)) (fun h => kf (Nat.not_lt.mp (fun z => h ((dz_lt ha hb').mpr z))))
end IFD
/-- whether one hedge ranks ahead of another -/
def hAh (lv th : Nat → Nat) (a b : Nat) : Bool := decide (lv b < lv a ∨ (lv a = lv b ∧ (th b < th a ∨ (th a = th b ∧ a < b))))
/-- how many of the first o are ahead of k -/
def rkN (ah : Nat → Nat → Bool) (k : Nat) : Nat → Nat
  | 0 => 0
  | o + 1 => rkN ah k o + if ah o k then 1 else 0
theorem rkN_le {ah : Nat → Nat → Bool} {k : Nat} : ∀ {o : Nat}, rkN ah k o ≤ o := by
  intro o
  induction o with
  | zero => exact Nat.le_refl _
  | succ o ih => unfold rkN; split <;> omega
/-- how many of the first i places lie in the branch of r -/
def brs (pr : Nat → Option Nat) (r : Nat) : Nat → Nat
  | 0 => 0
  | i + 1 => brs pr r i + if anc pr r i then 1 else 0
/-- the sum of the first weights -/
def smw (m : Nat → Int32) : Nat → Int32
  | 0 => nI 0
  | i + 1 => smw m i + m (29 + 4 * i + 3)
theorem gT_isHedge : GoodIn gw (wsV RX10 166 RX10 yX10_isHedge (Cond.code yX10_isHedge cX10_isHedge 2 (some .boolean) :: gw)) := gdV gw_1848 gw_1850 gw_45 gw_81 gw_1851
theorem hd_isHedge : yX10_isHedge.cls = RX10 ∧ yX10_isHedge.cls ≠ "java/lang/invoke/MethodHandle" ∧ yX10_isHedge.cls ≠ "java/lang/invoke/VarHandle" ∧ (parseMethodDescriptor yX10_isHedge.desc).map (fun d => d.parameters.length) = some 1 := ⟨rfl, by decide +kernel, by decide +kernel, by decide +kernel⟩
theorem dX10_isHedge_0 : decode cX10_isHedge 0 = .ok (.iload_n 1, 1) := by decide +kernel
theorem dX10_isHedge_1 : decode cX10_isHedge 1 = .ok (.i2l, 1) := by decide +kernel
theorem dX10_isHedge_2 : decode cX10_isHedge 2 = .ok (.lconst 0, 1) := by decide +kernel
theorem dX10_isHedge_3 : decode cX10_isHedge 3 = .ok (.aload_n 0, 1) := by decide +kernel
theorem dX10_isHedge_4 : decode cX10_isHedge 4 = .ok (.getfield 9, 3) := by decide +kernel
theorem dX10_isHedge_7 : decode cX10_isHedge 7 = .ok (.iconst 0, 1) := by decide +kernel
theorem dX10_isHedge_8 : decode cX10_isHedge 8 = .ok (.iaload, 1) := by decide +kernel
theorem dX10_isHedge_9 : decode cX10_isHedge 9 = .ok (.iconst 1, 1) := by decide +kernel
theorem dX10_isHedge_10 : decode cX10_isHedge 10 = .ok (.isub, 1) := by decide +kernel
theorem dX10_isHedge_11 : decode cX10_isHedge 11 = .ok (.i2l, 1) := by decide +kernel
theorem dX10_isHedge_12 : decode cX10_isHedge 12 = .ok (.invokestatic 63, 3) := by decide +kernel
theorem dX10_isHedge_15 : decode cX10_isHedge 15 = .ok (.ireturn, 1) := by decide +kernel
set_option maxHeartbeats 1000000 in
set_option maxRecDepth 20000 in
theorem m_isHedge (l : Launch) (D : va_G) (aT : Nat → ClassId) (ad : Nat → Nat) (S : MSt) (x : Int32) (hH : HeW (S 0)) : MdG l yX10_isHedge cX10_isHedge 2 .boolean 1 25 D aT ad [.ref (ad 0), .int x] S (fun r => r = bI (isHB (hM (S 0)) x)) := by
  refine MdI.of (by decide +kernel) rfl (Nat.le_of_ble_eq_true rfl) ?_
  intro p e s m below meth c A ls C hml hl hA hr hlocks hW
  have hl : lv_has ls 2 [(0, .ref (ad 0)), (1, .int x)] := hl
  have hx := C.1
  have hb := C.2.1
  refine lv_iload_n hx hb dX10_isHedge_0 rfl (lv_at hl 1 rfl) ?_
  refine lv_i2l (v := (x).toInt64) hx hb dX10_isHedge_1 rfl ?_
  refine lv_lconst (v := 0) hx hb dX10_isHedge_2 (by decide) ?_
  refine lv_aload_n hx hb dX10_isHedge_3 rfl (lv_at hl 0 rfl) ?_
  refine md_geta_m C hW dX10_isHedge_4 ?_
  refine lv_iconst (v := nI 0) hx hb dX10_isHedge_7 (by decide) ?_
  refine md_ald_m C hW (i := 0) (by omega) dX10_isHedge_8 ?_
  refine r_eq (y := (nI (hM (S 0)))) (hH.1) ?_
  refine lv_iconst (v := nI 1) hx hb dX10_isHedge_9 (by decide) ?_
  refine lv_isub hx hb dX10_isHedge_10 ?_
  refine lv_i2l (v := ((nI (hM (S 0)) - nI 1)).toInt64) hx hb dX10_isHedge_11 rfl ?_
  refine md_calls C hml hl.1 (As := [.long ((x).toInt64), .long 0, .long (((nI (hM (S 0)) - nI 1)).toInt64)]) (rest := []) (m_in l ((x).toInt64) 0 (((nI (hM (S 0)) - nI 1)).toInt64)) gT_in hd_in rfl ⟨Nat.le_of_ble_eq_true rfl, Nat.le_of_ble_eq_true rfl⟩ ⟨Nat.le_refl _, Nat.le_refl _⟩ rfl (Nat.le_of_ble_eq_true rfl) dX10_isHedge_12 (fun r_12 hq => ?_)
  subst hq
  refine r_eq (y := (bI (isHB (hM (S 0)) x))) (congrArg bI (isH_eq (by have := hH.2.1; omega) x)) ?_
  exact md_iret C hr hlocks (bI_nar _) hW (⟨rfl, rfl⟩) dX10_isHedge_15
theorem dX10_hedgeCount_0 : decode cX10_hedgeCount 0 = .ok (.aload_n 0, 1) := by decide +kernel
theorem dX10_hedgeCount_1 : decode cX10_hedgeCount 1 = .ok (.iconst 0, 1) := by decide +kernel
theorem dX10_hedgeCount_2 : decode cX10_hedgeCount 2 = .ok (.putfield 57, 3) := by decide +kernel
theorem dX10_hedgeCount_5 : decode cX10_hedgeCount 5 = .ok (.aload_n 0, 1) := by decide +kernel
theorem dX10_hedgeCount_6 : decode cX10_hedgeCount 6 = .ok (.getfield 9, 3) := by decide +kernel
theorem dX10_hedgeCount_9 : decode cX10_hedgeCount 9 = .ok (.iconst 0, 1) := by decide +kernel
theorem dX10_hedgeCount_10 : decode cX10_hedgeCount 10 = .ok (.iaload, 1) := by decide +kernel
theorem dX10_hedgeCount_11 : decode cX10_hedgeCount 11 = .ok (.ireturn, 1) := by decide +kernel
set_option maxHeartbeats 1000000 in
set_option maxRecDepth 20000 in
theorem m_hedgeCount (l : Launch) (D : va_G) (aT : Nat → ClassId) (ad : Nat → Nat) (S : MSt) (hH : HeW (S 0)) : MdI l yX10_hedgeCount cX10_hedgeCount 1 .int 0 0 D aT ad [.ref (ad 0)] S (fun r S1 => r = nI (hM (S 0)) ∧ S1 = ss S 8 (nI 0)) := by
  refine MdI.of (by decide +kernel) rfl (Nat.le_of_ble_eq_true rfl) ?_
  intro p e s m below meth c A ls C hml hl hA hr hlocks hW
  have hl : lv_has ls 1 [(0, .ref (ad 0))] := hl
  have hx := C.1
  have hb := C.2.1
  refine lv_aload_n hx hb dX10_hedgeCount_0 rfl (lv_at hl 0 rfl) ?_
  refine lv_iconst (v := nI 0) hx hb dX10_hedgeCount_1 (by decide) ?_
  refine md_put_thrown C hW dX10_hedgeCount_2 (fun H locs hW => ?_)
  refine lv_aload_n hx hb dX10_hedgeCount_5 rfl (lv_at hl 0 rfl) ?_
  refine md_geta_m C hW dX10_hedgeCount_6 ?_
  refine lv_iconst (v := nI 0) hx hb dX10_hedgeCount_9 (by decide) ?_
  refine md_ald_m C hW (i := 0) (by omega) dX10_hedgeCount_10 ?_
  refine r_eq (y := (nI (hM (S 0)))) (hH.1) ?_
  exact md_iret C hr hlocks rfl hW (⟨rfl, rfl⟩) dX10_hedgeCount_11
theorem dX10_leaves_0 : decode cX10_leaves 0 = .ok (.aload_n 0, 1) := by decide +kernel
theorem dX10_leaves_1 : decode cX10_leaves 1 = .ok (.iconst 0, 1) := by decide +kernel
theorem dX10_leaves_2 : decode cX10_leaves 2 = .ok (.putfield 57, 3) := by decide +kernel
theorem dX10_leaves_5 : decode cX10_leaves 5 = .ok (.aload_n 0, 1) := by decide +kernel
theorem dX10_leaves_6 : decode cX10_leaves 6 = .ok (.iload_n 1, 1) := by decide +kernel
theorem dX10_leaves_7 : decode cX10_leaves 7 = .ok (.invokevirtual 166, 3) := by decide +kernel
theorem dX10_leaves_10 : decode cX10_leaves 10 = .ok (.ifCond .eq 15, 3) := by decide +kernel
theorem dX10_leaves_13 : decode cX10_leaves 13 = .ok (.aload_n 0, 1) := by decide +kernel
theorem dX10_leaves_14 : decode cX10_leaves 14 = .ok (.getfield 9, 3) := by decide +kernel
theorem dX10_leaves_17 : decode cX10_leaves 17 = .ok (.iload_n 1, 1) := by decide +kernel
theorem dX10_leaves_18 : decode cX10_leaves 18 = .ok (.invokestatic 86, 3) := by decide +kernel
theorem dX10_leaves_21 : decode cX10_leaves 21 = .ok (.iaload, 1) := by decide +kernel
theorem dX10_leaves_22 : decode cX10_leaves 22 = .ok (.goto 8, 3) := by decide +kernel
theorem dX10_leaves_25 : decode cX10_leaves 25 = .ok (.aload_n 0, 1) := by decide +kernel
theorem dX10_leaves_26 : decode cX10_leaves 26 = .ok (.iconst 1, 1) := by decide +kernel
theorem dX10_leaves_27 : decode cX10_leaves 27 = .ok (.invokevirtual 101, 3) := by decide +kernel
theorem dX10_leaves_30 : decode cX10_leaves 30 = .ok (.ireturn, 1) := by decide +kernel
set_option maxHeartbeats 1000000 in
set_option maxRecDepth 20000 in
theorem m_leaves (l : Launch) (D : va_G) (aT : Nat → ClassId) (ad : Nat → Nat) (S : MSt) (x : Int32) (hH : HeW (S 0)) : MdI l yX10_leaves cX10_leaves 2 .int 2 46 D aT ad [.ref (ad 0), .int x] S (fun r S1 => (isHB (hM (S 0)) x = false ∧ r = -1 ∧ S1 = ss S 8 (nI 1)) ∨ (∃ i, i < hM (S 0) ∧ x = nI i ∧ r = nI (lvM (S 0) i) ∧ S1 = ss S 8 (nI 0))) := by
  refine MdI.of (by decide +kernel) rfl (Nat.le_of_ble_eq_true rfl) ?_
  intro p e s m below meth c A ls C hml hl hA hr hlocks hW
  have hl : lv_has ls 2 [(0, .ref (ad 0)), (1, .int x)] := hl
  have hx := C.1
  have hb := C.2.1
  refine lv_aload_n hx hb dX10_leaves_0 rfl (lv_at hl 0 rfl) ?_
  refine lv_iconst (v := nI 0) hx hb dX10_leaves_1 (by decide) ?_
  refine md_put_thrown C hW dX10_leaves_2 (fun H locs hW => ?_)
  refine lv_aload_n hx hb dX10_leaves_5 rfl (lv_at hl 0 rfl) ?_
  refine lv_iload_n hx hb dX10_leaves_6 rfl (lv_at hl 1 rfl) ?_
  refine md_callg C hml hl.1 (As := [.int x]) (rest := []) (m_isHedge l D aT ad (ss S 8 (nI 0)) (x) hH) gT_isHedge hd_isHedge rfl ⟨Nat.le_of_ble_eq_true rfl, Nat.le_of_ble_eq_true rfl⟩ ⟨Nat.le_refl _, Nat.le_refl _⟩ hW hA rfl (Nat.le_of_ble_eq_true rfl) dX10_leaves_7 (fun r_7 H locs hq hW => ?_)
  subst hq
  refine r_bI_eq hx hb (b := (isHB (hM (S 0)) x)) (tgt := 25) dX10_leaves_10 (by decide) (fun c_10 => ?_) (fun c_10 => ?_)
  · refine lv_aload_n hx hb dX10_leaves_25 rfl (lv_at hl 0 rfl) ?_
    refine lv_iconst (v := nI 1) hx hb dX10_leaves_26 (by decide) ?_
    refine md_calli C hml hl.1 (As := [.int (nI 1)]) (rest := []) (m_throwing l D aT ad (ss S 8 (nI 0)) 1) gT_throwing hd_throwing rfl ⟨Nat.le_of_ble_eq_true rfl, Nat.le_of_ble_eq_true rfl⟩ ⟨Nat.le_refl _, Nat.le_refl _⟩ hW hA rfl (Nat.le_of_ble_eq_true rfl) dX10_leaves_27 (fun r_27 S_27 H locs hq hW => ?_)
    obtain ⟨rfl, rfl⟩ := hq
    exact md_iret C hr hlocks rfl hW (Or.inl ⟨c_10, rfl, ss_ss _ _ _ _⟩) dX10_leaves_30
  · obtain ⟨i, hi, rfl⟩ := isHB_nat c_10 (by have := hH.2.1; omega)
    have h6 := hH.2.1
    refine lv_aload_n hx hb dX10_leaves_13 rfl (lv_at hl 0 rfl) ?_
    refine md_geta_m C hW dX10_leaves_14 ?_
    refine lv_iload_n hx hb dX10_leaves_17 rfl (lv_at hl 1 rfl) ?_
    refine md_calls C hml hl.1 (As := [.int (nI i)]) (rest := [.ref (ad 1)]) (m_hedgeAt l i) gT_hedgeAt hd_hedgeAt rfl ⟨Nat.le_of_ble_eq_true rfl, Nat.le_of_ble_eq_true rfl⟩ ⟨Nat.le_refl _, Nat.le_refl _⟩ rfl (Nat.le_of_ble_eq_true rfl) dX10_leaves_18 (fun r_18 hq => ?_)
    subst hq
    refine md_ald_m C hW (i := (11 + 3 * i)) (by omega) dX10_leaves_21 ?_
    refine r_eq (y := (nI (lvM (S 0) i))) ((hH.2.2.1 i (by omega)).1) ?_
    refine lv_goto (tgt := 30) hx hb dX10_leaves_22 (by decide) ?_
    exact md_iret C hr hlocks rfl hW (Or.inr ⟨i, hi, rfl, rfl, rfl⟩) dX10_leaves_30
theorem dX10_thorns_0 : decode cX10_thorns 0 = .ok (.aload_n 0, 1) := by decide +kernel
theorem dX10_thorns_1 : decode cX10_thorns 1 = .ok (.iconst 0, 1) := by decide +kernel
theorem dX10_thorns_2 : decode cX10_thorns 2 = .ok (.putfield 57, 3) := by decide +kernel
theorem dX10_thorns_5 : decode cX10_thorns 5 = .ok (.aload_n 0, 1) := by decide +kernel
theorem dX10_thorns_6 : decode cX10_thorns 6 = .ok (.iload_n 1, 1) := by decide +kernel
theorem dX10_thorns_7 : decode cX10_thorns 7 = .ok (.invokevirtual 166, 3) := by decide +kernel
theorem dX10_thorns_10 : decode cX10_thorns 10 = .ok (.ifCond .eq 17, 3) := by decide +kernel
theorem dX10_thorns_13 : decode cX10_thorns 13 = .ok (.aload_n 0, 1) := by decide +kernel
theorem dX10_thorns_14 : decode cX10_thorns 14 = .ok (.getfield 9, 3) := by decide +kernel
theorem dX10_thorns_17 : decode cX10_thorns 17 = .ok (.iload_n 1, 1) := by decide +kernel
theorem dX10_thorns_18 : decode cX10_thorns 18 = .ok (.invokestatic 86, 3) := by decide +kernel
theorem dX10_thorns_21 : decode cX10_thorns 21 = .ok (.iconst 1, 1) := by decide +kernel
theorem dX10_thorns_22 : decode cX10_thorns 22 = .ok (.iadd, 1) := by decide +kernel
theorem dX10_thorns_23 : decode cX10_thorns 23 = .ok (.iaload, 1) := by decide +kernel
theorem dX10_thorns_24 : decode cX10_thorns 24 = .ok (.goto 8, 3) := by decide +kernel
theorem dX10_thorns_27 : decode cX10_thorns 27 = .ok (.aload_n 0, 1) := by decide +kernel
theorem dX10_thorns_28 : decode cX10_thorns 28 = .ok (.iconst 1, 1) := by decide +kernel
theorem dX10_thorns_29 : decode cX10_thorns 29 = .ok (.invokevirtual 101, 3) := by decide +kernel
theorem dX10_thorns_32 : decode cX10_thorns 32 = .ok (.ireturn, 1) := by decide +kernel
set_option maxHeartbeats 1000000 in
set_option maxRecDepth 20000 in
theorem m_thorns (l : Launch) (D : va_G) (aT : Nat → ClassId) (ad : Nat → Nat) (S : MSt) (x : Int32) (hH : HeW (S 0)) : MdI l yX10_thorns cX10_thorns 2 .int 2 46 D aT ad [.ref (ad 0), .int x] S (fun r S1 => (isHB (hM (S 0)) x = false ∧ r = -1 ∧ S1 = ss S 8 (nI 1)) ∨ (∃ i, i < hM (S 0) ∧ x = nI i ∧ r = nI (thM (S 0) i) ∧ S1 = ss S 8 (nI 0))) := by
  refine MdI.of (by decide +kernel) rfl (Nat.le_of_ble_eq_true rfl) ?_
  intro p e s m below meth c A ls C hml hl hA hr hlocks hW
  have hl : lv_has ls 2 [(0, .ref (ad 0)), (1, .int x)] := hl
  have hx := C.1
  have hb := C.2.1
  refine lv_aload_n hx hb dX10_thorns_0 rfl (lv_at hl 0 rfl) ?_
  refine lv_iconst (v := nI 0) hx hb dX10_thorns_1 (by decide) ?_
  refine md_put_thrown C hW dX10_thorns_2 (fun H locs hW => ?_)
  refine lv_aload_n hx hb dX10_thorns_5 rfl (lv_at hl 0 rfl) ?_
  refine lv_iload_n hx hb dX10_thorns_6 rfl (lv_at hl 1 rfl) ?_
  refine md_callg C hml hl.1 (As := [.int x]) (rest := []) (m_isHedge l D aT ad (ss S 8 (nI 0)) (x) hH) gT_isHedge hd_isHedge rfl ⟨Nat.le_of_ble_eq_true rfl, Nat.le_of_ble_eq_true rfl⟩ ⟨Nat.le_refl _, Nat.le_refl _⟩ hW hA rfl (Nat.le_of_ble_eq_true rfl) dX10_thorns_7 (fun r_7 H locs hq hW => ?_)
  subst hq
  refine r_bI_eq hx hb (b := (isHB (hM (S 0)) x)) (tgt := 27) dX10_thorns_10 (by decide) (fun c_10 => ?_) (fun c_10 => ?_)
  · refine lv_aload_n hx hb dX10_thorns_27 rfl (lv_at hl 0 rfl) ?_
    refine lv_iconst (v := nI 1) hx hb dX10_thorns_28 (by decide) ?_
    refine md_calli C hml hl.1 (As := [.int (nI 1)]) (rest := []) (m_throwing l D aT ad (ss S 8 (nI 0)) 1) gT_throwing hd_throwing rfl ⟨Nat.le_of_ble_eq_true rfl, Nat.le_of_ble_eq_true rfl⟩ ⟨Nat.le_refl _, Nat.le_refl _⟩ hW hA rfl (Nat.le_of_ble_eq_true rfl) dX10_thorns_29 (fun r_29 S_29 H locs hq hW => ?_)
    obtain ⟨rfl, rfl⟩ := hq
    exact md_iret C hr hlocks rfl hW (Or.inl ⟨c_10, rfl, ss_ss _ _ _ _⟩) dX10_thorns_32
  · obtain ⟨i, hi, rfl⟩ := isHB_nat c_10 (by have := hH.2.1; omega)
    have h6 := hH.2.1
    refine lv_aload_n hx hb dX10_thorns_13 rfl (lv_at hl 0 rfl) ?_
    refine md_geta_m C hW dX10_thorns_14 ?_
    refine lv_iload_n hx hb dX10_thorns_17 rfl (lv_at hl 1 rfl) ?_
    refine md_calls C hml hl.1 (As := [.int (nI i)]) (rest := [.ref (ad 1)]) (m_hedgeAt l i) gT_hedgeAt hd_hedgeAt rfl ⟨Nat.le_of_ble_eq_true rfl, Nat.le_of_ble_eq_true rfl⟩ ⟨Nat.le_refl _, Nat.le_refl _⟩ rfl (Nat.le_of_ble_eq_true rfl) dX10_thorns_18 (fun r_18 hq => ?_)
    subst hq
    refine lv_iconst (v := nI 1) hx hb dX10_thorns_21 (by decide) ?_
    refine r_iaddN hx hb (a := (11 + 3 * i)) (b := 1) dX10_thorns_22 ?_
    refine md_ald_m C hW (i := 11 + 3 * i + 1) (by omega) dX10_thorns_23 ?_
    refine r_eq (y := (nI (thM (S 0) i))) ((hH.2.2.2.1 i (by omega)).1) ?_
    refine lv_goto (tgt := 32) hx hb dX10_thorns_24 (by decide) ?_
    exact md_iret C hr hlocks rfl hW (Or.inr ⟨i, hi, rfl, rfl, rfl⟩) dX10_thorns_32
theorem gT_isHedgeAhead : GoodIn gw (wsV RX10 169 RX10 yX10_isHedgeAhead (Cond.code yX10_isHedgeAhead cX10_isHedgeAhead 4 (some .boolean) :: gw)) := gdV gw_1860 gw_1862 gw_46 gw_81 gw_1863
theorem hd_isHedgeAhead : yX10_isHedgeAhead.cls = RX10 ∧ yX10_isHedgeAhead.cls ≠ "java/lang/invoke/MethodHandle" ∧ yX10_isHedgeAhead.cls ≠ "java/lang/invoke/VarHandle" ∧ (parseMethodDescriptor yX10_isHedgeAhead.desc).map (fun d => d.parameters.length) = some 2 := ⟨rfl, by decide +kernel, by decide +kernel, by decide +kernel⟩
theorem dX10_isHedgeAhead_0 : decode cX10_isHedgeAhead 0 = .ok (.aload_n 0, 1) := by decide +kernel
theorem dX10_isHedgeAhead_1 : decode cX10_isHedgeAhead 1 = .ok (.getfield 9, 3) := by decide +kernel
theorem dX10_isHedgeAhead_4 : decode cX10_isHedgeAhead 4 = .ok (.iload_n 1, 1) := by decide +kernel
theorem dX10_isHedgeAhead_5 : decode cX10_isHedgeAhead 5 = .ok (.invokestatic 86, 3) := by decide +kernel
theorem dX10_isHedgeAhead_8 : decode cX10_isHedgeAhead 8 = .ok (.iaload, 1) := by decide +kernel
theorem dX10_isHedgeAhead_9 : decode cX10_isHedgeAhead 9 = .ok (.aload_n 0, 1) := by decide +kernel
theorem dX10_isHedgeAhead_10 : decode cX10_isHedgeAhead 10 = .ok (.getfield 9, 3) := by decide +kernel
theorem dX10_isHedgeAhead_13 : decode cX10_isHedgeAhead 13 = .ok (.iload_n 2, 1) := by decide +kernel
theorem dX10_isHedgeAhead_14 : decode cX10_isHedgeAhead 14 = .ok (.invokestatic 86, 3) := by decide +kernel
theorem dX10_isHedgeAhead_17 : decode cX10_isHedgeAhead 17 = .ok (.iaload, 1) := by decide +kernel
theorem dX10_isHedgeAhead_18 : decode cX10_isHedgeAhead 18 = .ok (.isub, 1) := by decide +kernel
theorem dX10_isHedgeAhead_19 : decode cX10_isHedgeAhead 19 = .ok (.istore_n 3, 1) := by decide +kernel
theorem dX10_isHedgeAhead_20 : decode cX10_isHedgeAhead 20 = .ok (.iload_n 3, 1) := by decide +kernel
theorem dX10_isHedgeAhead_21 : decode cX10_isHedgeAhead 21 = .ok (.ifCond .ne 29, 3) := by decide +kernel
theorem dX10_isHedgeAhead_24 : decode cX10_isHedgeAhead 24 = .ok (.aload_n 0, 1) := by decide +kernel
theorem dX10_isHedgeAhead_25 : decode cX10_isHedgeAhead 25 = .ok (.getfield 9, 3) := by decide +kernel
theorem dX10_isHedgeAhead_28 : decode cX10_isHedgeAhead 28 = .ok (.iload_n 1, 1) := by decide +kernel
theorem dX10_isHedgeAhead_29 : decode cX10_isHedgeAhead 29 = .ok (.invokestatic 86, 3) := by decide +kernel
theorem dX10_isHedgeAhead_32 : decode cX10_isHedgeAhead 32 = .ok (.iconst 1, 1) := by decide +kernel
theorem dX10_isHedgeAhead_33 : decode cX10_isHedgeAhead 33 = .ok (.iadd, 1) := by decide +kernel
theorem dX10_isHedgeAhead_34 : decode cX10_isHedgeAhead 34 = .ok (.iaload, 1) := by decide +kernel
theorem dX10_isHedgeAhead_35 : decode cX10_isHedgeAhead 35 = .ok (.aload_n 0, 1) := by decide +kernel
theorem dX10_isHedgeAhead_36 : decode cX10_isHedgeAhead 36 = .ok (.getfield 9, 3) := by decide +kernel
theorem dX10_isHedgeAhead_39 : decode cX10_isHedgeAhead 39 = .ok (.iload_n 2, 1) := by decide +kernel
theorem dX10_isHedgeAhead_40 : decode cX10_isHedgeAhead 40 = .ok (.invokestatic 86, 3) := by decide +kernel
theorem dX10_isHedgeAhead_43 : decode cX10_isHedgeAhead 43 = .ok (.iconst 1, 1) := by decide +kernel
theorem dX10_isHedgeAhead_44 : decode cX10_isHedgeAhead 44 = .ok (.iadd, 1) := by decide +kernel
theorem dX10_isHedgeAhead_45 : decode cX10_isHedgeAhead 45 = .ok (.iaload, 1) := by decide +kernel
theorem dX10_isHedgeAhead_46 : decode cX10_isHedgeAhead 46 = .ok (.isub, 1) := by decide +kernel
theorem dX10_isHedgeAhead_47 : decode cX10_isHedgeAhead 47 = .ok (.goto 4, 3) := by decide +kernel
theorem dX10_isHedgeAhead_50 : decode cX10_isHedgeAhead 50 = .ok (.iload_n 3, 1) := by decide +kernel
theorem dX10_isHedgeAhead_51 : decode cX10_isHedgeAhead 51 = .ok (.istore_n 3, 1) := by decide +kernel
theorem dX10_isHedgeAhead_52 : decode cX10_isHedgeAhead 52 = .ok (.iload_n 3, 1) := by decide +kernel
theorem dX10_isHedgeAhead_53 : decode cX10_isHedgeAhead 53 = .ok (.ifCond .gt 12, 3) := by decide +kernel
theorem dX10_isHedgeAhead_56 : decode cX10_isHedgeAhead 56 = .ok (.iload_n 3, 1) := by decide +kernel
theorem dX10_isHedgeAhead_57 : decode cX10_isHedgeAhead 57 = .ok (.ifCond .ne 12, 3) := by decide +kernel
theorem dX10_isHedgeAhead_60 : decode cX10_isHedgeAhead 60 = .ok (.iload_n 1, 1) := by decide +kernel
theorem dX10_isHedgeAhead_61 : decode cX10_isHedgeAhead 61 = .ok (.iload_n 2, 1) := by decide +kernel
theorem dX10_isHedgeAhead_62 : decode cX10_isHedgeAhead 62 = .ok (.if_icmp .ge 7, 3) := by decide +kernel
theorem dX10_isHedgeAhead_65 : decode cX10_isHedgeAhead 65 = .ok (.iconst 1, 1) := by decide +kernel
theorem dX10_isHedgeAhead_66 : decode cX10_isHedgeAhead 66 = .ok (.goto 4, 3) := by decide +kernel
theorem dX10_isHedgeAhead_69 : decode cX10_isHedgeAhead 69 = .ok (.iconst 0, 1) := by decide +kernel
theorem dX10_isHedgeAhead_70 : decode cX10_isHedgeAhead 70 = .ok (.ireturn, 1) := by decide +kernel
set_option maxHeartbeats 1000000 in
set_option maxRecDepth 20000 in
theorem m_isHedgeAhead (l : Launch) (D : va_G) (aT : Nat → ClassId) (ad : Nat → Nat) (S : MSt) (a b : Nat) (hH : HeW (S 0)) (ha : a < hM (S 0)) (hb2 : b < hM (S 0)) : MdG l yX10_isHedgeAhead cX10_isHedgeAhead 4 .boolean 1 20 D aT ad [.ref (ad 0), .int (nI a), .int (nI b)] S (fun r => r = bI (hAh (lvM (S 0)) (thM (S 0)) a b)) := by
  refine MdI.of (by decide +kernel) rfl (Nat.le_of_ble_eq_true rfl) ?_
  intro p e s m below meth c A ls C hml hl hA hr hlocks hW
  have hl : lv_has ls 4 [(0, .ref (ad 0)), (1, .int (nI a)), (2, .int (nI b))] := hl
  have hx := C.1
  have hb := C.2.1
  refine lv_aload_n hx hb dX10_isHedgeAhead_0 rfl (lv_at hl 0 rfl) ?_
  refine md_geta_m C hW dX10_isHedgeAhead_1 ?_
  refine lv_iload_n hx hb dX10_isHedgeAhead_4 rfl (lv_at hl 1 rfl) ?_
  refine md_calls C hml hl.1 (As := [.int (nI a)]) (rest := [.ref (ad 1)]) (m_hedgeAt l a) gT_hedgeAt hd_hedgeAt rfl ⟨Nat.le_of_ble_eq_true rfl, Nat.le_of_ble_eq_true rfl⟩ ⟨Nat.le_refl _, Nat.le_refl _⟩ rfl (Nat.le_of_ble_eq_true rfl) dX10_isHedgeAhead_5 (fun r_5 hq => ?_)
  subst hq
  refine md_ald_m C hW (i := (11 + 3 * a)) (by have := hH.2.1; omega) dX10_isHedgeAhead_8 ?_
  refine r_eq (y := (nI (lvM (S 0) a))) ((hH.2.2.1 a (by omega)).1) ?_
  refine lv_aload_n hx hb dX10_isHedgeAhead_9 rfl (lv_at hl 0 rfl) ?_
  refine md_geta_m C hW dX10_isHedgeAhead_10 ?_
  refine lv_iload_n hx hb dX10_isHedgeAhead_13 rfl (lv_at hl 2 rfl) ?_
  refine md_calls C hml hl.1 (As := [.int (nI b)]) (rest := [.ref (ad 1), .int (nI (lvM (S 0) a))]) (m_hedgeAt l b) gT_hedgeAt hd_hedgeAt rfl ⟨Nat.le_of_ble_eq_true rfl, Nat.le_of_ble_eq_true rfl⟩ ⟨Nat.le_refl _, Nat.le_refl _⟩ rfl (Nat.le_of_ble_eq_true rfl) dX10_isHedgeAhead_14 (fun r_14 hq => ?_)
  subst hq
  refine md_ald_m C hW (i := (11 + 3 * b)) (by have := hH.2.1; omega) dX10_isHedgeAhead_17 ?_
  refine r_eq (y := (nI (lvM (S 0) b))) ((hH.2.2.1 b (by omega)).1) ?_
  refine lv_isub hx hb dX10_isHedgeAhead_18 ?_
  refine lv_istore_n (lv' := [(3, .int (nI (lvM (S 0) a) - nI (lvM (S 0) b))), (0, .ref (ad 0)), (1, .int (nI a)), (2, .int (nI b))]) hx hb dX10_isHedgeAhead_19 rfl hl (by decide) rfl (fun ls hl => ?_)
  refine lv_iload_n hx hb dX10_isHedgeAhead_20 rfl (lv_at hl 0 rfl) ?_
  refine r_ifneD hx hb (a := (lvM (S 0) a)) (b := (lvM (S 0) b)) (by first | exact Nat.lt_of_le_of_lt (hH.2.2.1 a (by omega)).2.2 (by decide) | exact Nat.lt_of_le_of_lt (hH.2.2.1 b (by omega)).2.2 (by decide) | exact Nat.lt_of_le_of_lt (hH.2.2.2.1 a (by omega)).2 (by decide) | exact Nat.lt_of_le_of_lt (hH.2.2.2.1 b (by omega)).2 (by decide) | (have := hH.2.1; omega)) (by first | exact Nat.lt_of_le_of_lt (hH.2.2.1 a (by omega)).2.2 (by decide) | exact Nat.lt_of_le_of_lt (hH.2.2.1 b (by omega)).2.2 (by decide) | exact Nat.lt_of_le_of_lt (hH.2.2.2.1 a (by omega)).2 (by decide) | exact Nat.lt_of_le_of_lt (hH.2.2.2.1 b (by omega)).2 (by decide) | (have := hH.2.1; omega)) (tgt := 50) dX10_isHedgeAhead_21 (by decide) (fun c_21 => ?_) (fun c_21 => ?_)
  · refine lv_iload_n hx hb dX10_isHedgeAhead_50 rfl (lv_at hl 0 rfl) ?_
    refine lv_istore_n (lv' := [(3, .int (nI (lvM (S 0) a) - nI (lvM (S 0) b))), (0, .ref (ad 0)), (1, .int (nI a)), (2, .int (nI b))]) hx hb dX10_isHedgeAhead_51 rfl hl (by decide) rfl (fun ls hl => ?_)
    refine lv_iload_n hx hb dX10_isHedgeAhead_52 rfl (lv_at hl 0 rfl) ?_
    refine r_ifgtD hx hb (a := (lvM (S 0) a)) (b := (lvM (S 0) b)) (by first | exact Nat.lt_of_le_of_lt (hH.2.2.1 a (by omega)).2.2 (by decide) | exact Nat.lt_of_le_of_lt (hH.2.2.1 b (by omega)).2.2 (by decide) | exact Nat.lt_of_le_of_lt (hH.2.2.2.1 a (by omega)).2 (by decide) | exact Nat.lt_of_le_of_lt (hH.2.2.2.1 b (by omega)).2 (by decide) | (have := hH.2.1; omega)) (by first | exact Nat.lt_of_le_of_lt (hH.2.2.1 a (by omega)).2.2 (by decide) | exact Nat.lt_of_le_of_lt (hH.2.2.1 b (by omega)).2.2 (by decide) | exact Nat.lt_of_le_of_lt (hH.2.2.2.1 a (by omega)).2 (by decide) | exact Nat.lt_of_le_of_lt (hH.2.2.2.1 b (by omega)).2 (by decide) | (have := hH.2.1; omega)) (tgt := 65) dX10_isHedgeAhead_53 (by decide) (fun c_53 => ?_) (fun c_53 => ?_)
    · refine lv_iconst (v := nI 1) hx hb dX10_isHedgeAhead_65 (by decide) ?_
      refine lv_goto (tgt := 70) hx hb dX10_isHedgeAhead_66 (by decide) ?_
      exact md_iret C hr hlocks (by decide) hW (⟨by rw [show hAh _ _ a b = true from decide_eq_true (by omega)]; rfl, rfl⟩) dX10_isHedgeAhead_70
    · refine lv_iload_n hx hb dX10_isHedgeAhead_56 rfl (lv_at hl 0 rfl) ?_
      refine r_ifneD hx hb (a := (lvM (S 0) a)) (b := (lvM (S 0) b)) (by first | exact Nat.lt_of_le_of_lt (hH.2.2.1 a (by omega)).2.2 (by decide) | exact Nat.lt_of_le_of_lt (hH.2.2.1 b (by omega)).2.2 (by decide) | exact Nat.lt_of_le_of_lt (hH.2.2.2.1 a (by omega)).2 (by decide) | exact Nat.lt_of_le_of_lt (hH.2.2.2.1 b (by omega)).2 (by decide) | (have := hH.2.1; omega)) (by first | exact Nat.lt_of_le_of_lt (hH.2.2.1 a (by omega)).2.2 (by decide) | exact Nat.lt_of_le_of_lt (hH.2.2.1 b (by omega)).2.2 (by decide) | exact Nat.lt_of_le_of_lt (hH.2.2.2.1 a (by omega)).2 (by decide) | exact Nat.lt_of_le_of_lt (hH.2.2.2.1 b (by omega)).2 (by decide) | (have := hH.2.1; omega)) (tgt := 69) dX10_isHedgeAhead_57 (by decide) (fun c_57 => ?_) (fun c_57 => ?_)
      · refine lv_iconst (v := nI 0) hx hb dX10_isHedgeAhead_69 (by decide) ?_
        exact md_iret C hr hlocks (by decide) hW (⟨by rw [show hAh _ _ a b = false from decide_eq_false (by omega)]; rfl, rfl⟩) dX10_isHedgeAhead_70
      · refine lv_iload_n hx hb dX10_isHedgeAhead_60 rfl (lv_at hl 2 rfl) ?_
        refine lv_iload_n hx hb dX10_isHedgeAhead_61 rfl (lv_at hl 3 rfl) ?_
        refine r_geN hx hb (a := a) (b := b) (by first | exact Nat.lt_of_le_of_lt (hH.2.2.1 a (by omega)).2.2 (by decide) | exact Nat.lt_of_le_of_lt (hH.2.2.1 b (by omega)).2.2 (by decide) | exact Nat.lt_of_le_of_lt (hH.2.2.2.1 a (by omega)).2 (by decide) | exact Nat.lt_of_le_of_lt (hH.2.2.2.1 b (by omega)).2 (by decide) | (have := hH.2.1; omega)) (by first | exact Nat.lt_of_le_of_lt (hH.2.2.1 a (by omega)).2.2 (by decide) | exact Nat.lt_of_le_of_lt (hH.2.2.1 b (by omega)).2.2 (by decide) | exact Nat.lt_of_le_of_lt (hH.2.2.2.1 a (by omega)).2 (by decide) | exact Nat.lt_of_le_of_lt (hH.2.2.2.1 b (by omega)).2 (by decide) | (have := hH.2.1; omega)) (tgt := 69) dX10_isHedgeAhead_62 (by decide) (fun c_62 => ?_) (fun c_62 => ?_)
        · refine lv_iconst (v := nI 0) hx hb dX10_isHedgeAhead_69 (by decide) ?_
          exact md_iret C hr hlocks (by decide) hW (⟨by rw [show hAh _ _ a b = false from decide_eq_false (by omega)]; rfl, rfl⟩) dX10_isHedgeAhead_70
        · refine lv_iconst (v := nI 1) hx hb dX10_isHedgeAhead_65 (by decide) ?_
          refine lv_goto (tgt := 70) hx hb dX10_isHedgeAhead_66 (by decide) ?_
          exact md_iret C hr hlocks (by decide) hW (⟨by rw [show hAh _ _ a b = true from decide_eq_true (by omega)]; rfl, rfl⟩) dX10_isHedgeAhead_70
  · refine lv_aload_n hx hb dX10_isHedgeAhead_24 rfl (lv_at hl 1 rfl) ?_
    refine md_geta_m C hW dX10_isHedgeAhead_25 ?_
    refine lv_iload_n hx hb dX10_isHedgeAhead_28 rfl (lv_at hl 2 rfl) ?_
    refine md_calls C hml hl.1 (As := [.int (nI a)]) (rest := [.ref (ad 1)]) (m_hedgeAt l a) gT_hedgeAt hd_hedgeAt rfl ⟨Nat.le_of_ble_eq_true rfl, Nat.le_of_ble_eq_true rfl⟩ ⟨Nat.le_refl _, Nat.le_refl _⟩ rfl (Nat.le_of_ble_eq_true rfl) dX10_isHedgeAhead_29 (fun r_29 hq => ?_)
    subst hq
    refine lv_iconst (v := nI 1) hx hb dX10_isHedgeAhead_32 (by decide) ?_
    refine r_iaddN hx hb (a := (11 + 3 * a)) (b := 1) dX10_isHedgeAhead_33 ?_
    refine md_ald_m C hW (i := 11 + 3 * a + 1) (by have := hH.2.1; omega) dX10_isHedgeAhead_34 ?_
    refine r_eq (y := (nI (thM (S 0) a))) ((hH.2.2.2.1 a (by omega)).1) ?_
    refine lv_aload_n hx hb dX10_isHedgeAhead_35 rfl (lv_at hl 1 rfl) ?_
    refine md_geta_m C hW dX10_isHedgeAhead_36 ?_
    refine lv_iload_n hx hb dX10_isHedgeAhead_39 rfl (lv_at hl 3 rfl) ?_
    refine md_calls C hml hl.1 (As := [.int (nI b)]) (rest := [.ref (ad 1), .int (nI (thM (S 0) a))]) (m_hedgeAt l b) gT_hedgeAt hd_hedgeAt rfl ⟨Nat.le_of_ble_eq_true rfl, Nat.le_of_ble_eq_true rfl⟩ ⟨Nat.le_refl _, Nat.le_refl _⟩ rfl (Nat.le_of_ble_eq_true rfl) dX10_isHedgeAhead_40 (fun r_40 hq => ?_)
    subst hq
    refine lv_iconst (v := nI 1) hx hb dX10_isHedgeAhead_43 (by decide) ?_
    refine r_iaddN hx hb (a := (11 + 3 * b)) (b := 1) dX10_isHedgeAhead_44 ?_
    refine md_ald_m C hW (i := 11 + 3 * b + 1) (by have := hH.2.1; omega) dX10_isHedgeAhead_45 ?_
    refine r_eq (y := (nI (thM (S 0) b))) ((hH.2.2.2.1 b (by omega)).1) ?_
    refine lv_isub hx hb dX10_isHedgeAhead_46 ?_
    refine lv_goto (tgt := 51) hx hb dX10_isHedgeAhead_47 (by decide) ?_
    refine lv_istore_n (lv' := [(3, .int (nI (thM (S 0) a) - nI (thM (S 0) b))), (0, .ref (ad 0)), (1, .int (nI a)), (2, .int (nI b))]) hx hb dX10_isHedgeAhead_51 rfl hl (by decide) rfl (fun ls hl => ?_)
    refine lv_iload_n hx hb dX10_isHedgeAhead_52 rfl (lv_at hl 0 rfl) ?_
    refine r_ifgtD hx hb (a := (thM (S 0) a)) (b := (thM (S 0) b)) (by first | exact Nat.lt_of_le_of_lt (hH.2.2.1 a (by omega)).2.2 (by decide) | exact Nat.lt_of_le_of_lt (hH.2.2.1 b (by omega)).2.2 (by decide) | exact Nat.lt_of_le_of_lt (hH.2.2.2.1 a (by omega)).2 (by decide) | exact Nat.lt_of_le_of_lt (hH.2.2.2.1 b (by omega)).2 (by decide) | (have := hH.2.1; omega)) (by first | exact Nat.lt_of_le_of_lt (hH.2.2.1 a (by omega)).2.2 (by decide) | exact Nat.lt_of_le_of_lt (hH.2.2.1 b (by omega)).2.2 (by decide) | exact Nat.lt_of_le_of_lt (hH.2.2.2.1 a (by omega)).2 (by decide) | exact Nat.lt_of_le_of_lt (hH.2.2.2.1 b (by omega)).2 (by decide) | (have := hH.2.1; omega)) (tgt := 65) dX10_isHedgeAhead_53 (by decide) (fun c_53 => ?_) (fun c_53 => ?_)
    · refine lv_iconst (v := nI 1) hx hb dX10_isHedgeAhead_65 (by decide) ?_
      refine lv_goto (tgt := 70) hx hb dX10_isHedgeAhead_66 (by decide) ?_
      exact md_iret C hr hlocks (by decide) hW (⟨by rw [show hAh _ _ a b = true from decide_eq_true (by omega)]; rfl, rfl⟩) dX10_isHedgeAhead_70
    · refine lv_iload_n hx hb dX10_isHedgeAhead_56 rfl (lv_at hl 0 rfl) ?_
      refine r_ifneD hx hb (a := (thM (S 0) a)) (b := (thM (S 0) b)) (by first | exact Nat.lt_of_le_of_lt (hH.2.2.1 a (by omega)).2.2 (by decide) | exact Nat.lt_of_le_of_lt (hH.2.2.1 b (by omega)).2.2 (by decide) | exact Nat.lt_of_le_of_lt (hH.2.2.2.1 a (by omega)).2 (by decide) | exact Nat.lt_of_le_of_lt (hH.2.2.2.1 b (by omega)).2 (by decide) | (have := hH.2.1; omega)) (by first | exact Nat.lt_of_le_of_lt (hH.2.2.1 a (by omega)).2.2 (by decide) | exact Nat.lt_of_le_of_lt (hH.2.2.1 b (by omega)).2.2 (by decide) | exact Nat.lt_of_le_of_lt (hH.2.2.2.1 a (by omega)).2 (by decide) | exact Nat.lt_of_le_of_lt (hH.2.2.2.1 b (by omega)).2 (by decide) | (have := hH.2.1; omega)) (tgt := 69) dX10_isHedgeAhead_57 (by decide) (fun c_57 => ?_) (fun c_57 => ?_)
      · refine lv_iconst (v := nI 0) hx hb dX10_isHedgeAhead_69 (by decide) ?_
        exact md_iret C hr hlocks (by decide) hW (⟨by rw [show hAh _ _ a b = false from decide_eq_false (by omega)]; rfl, rfl⟩) dX10_isHedgeAhead_70
      · refine lv_iload_n hx hb dX10_isHedgeAhead_60 rfl (lv_at hl 2 rfl) ?_
        refine lv_iload_n hx hb dX10_isHedgeAhead_61 rfl (lv_at hl 3 rfl) ?_
        refine r_geN hx hb (a := a) (b := b) (by first | exact Nat.lt_of_le_of_lt (hH.2.2.1 a (by omega)).2.2 (by decide) | exact Nat.lt_of_le_of_lt (hH.2.2.1 b (by omega)).2.2 (by decide) | exact Nat.lt_of_le_of_lt (hH.2.2.2.1 a (by omega)).2 (by decide) | exact Nat.lt_of_le_of_lt (hH.2.2.2.1 b (by omega)).2 (by decide) | (have := hH.2.1; omega)) (by first | exact Nat.lt_of_le_of_lt (hH.2.2.1 a (by omega)).2.2 (by decide) | exact Nat.lt_of_le_of_lt (hH.2.2.1 b (by omega)).2.2 (by decide) | exact Nat.lt_of_le_of_lt (hH.2.2.2.1 a (by omega)).2 (by decide) | exact Nat.lt_of_le_of_lt (hH.2.2.2.1 b (by omega)).2 (by decide) | (have := hH.2.1; omega)) (tgt := 69) dX10_isHedgeAhead_62 (by decide) (fun c_62 => ?_) (fun c_62 => ?_)
        · refine lv_iconst (v := nI 0) hx hb dX10_isHedgeAhead_69 (by decide) ?_
          exact md_iret C hr hlocks (by decide) hW (⟨by rw [show hAh _ _ a b = false from decide_eq_false (by omega)]; rfl, rfl⟩) dX10_isHedgeAhead_70
        · refine lv_iconst (v := nI 1) hx hb dX10_isHedgeAhead_65 (by decide) ?_
          refine lv_goto (tgt := 70) hx hb dX10_isHedgeAhead_66 (by decide) ?_
          exact md_iret C hr hlocks (by decide) hW (⟨by rw [show hAh _ _ a b = true from decide_eq_true (by omega)]; rfl, rfl⟩) dX10_isHedgeAhead_70
theorem dX10_hedgeAtRank_0 : decode cX10_hedgeAtRank 0 = .ok (.aload_n 0, 1) := by decide +kernel
theorem dX10_hedgeAtRank_1 : decode cX10_hedgeAtRank 1 = .ok (.iconst 0, 1) := by decide +kernel
theorem dX10_hedgeAtRank_2 : decode cX10_hedgeAtRank 2 = .ok (.putfield 57, 3) := by decide +kernel
theorem dX10_hedgeAtRank_5 : decode cX10_hedgeAtRank 5 = .ok (.iconst 0, 1) := by decide +kernel
theorem dX10_hedgeAtRank_6 : decode cX10_hedgeAtRank 6 = .ok (.istore_n 2, 1) := by decide +kernel
theorem dX10_hedgeAtRank_7 : decode cX10_hedgeAtRank 7 = .ok (.iload_n 2, 1) := by decide +kernel
theorem dX10_hedgeAtRank_8 : decode cX10_hedgeAtRank 8 = .ok (.aload_n 0, 1) := by decide +kernel
theorem dX10_hedgeAtRank_9 : decode cX10_hedgeAtRank 9 = .ok (.getfield 9, 3) := by decide +kernel
theorem dX10_hedgeAtRank_12 : decode cX10_hedgeAtRank 12 = .ok (.iconst 0, 1) := by decide +kernel
theorem dX10_hedgeAtRank_13 : decode cX10_hedgeAtRank 13 = .ok (.iaload, 1) := by decide +kernel
theorem dX10_hedgeAtRank_14 : decode cX10_hedgeAtRank 14 = .ok (.if_icmp .ge 56, 3) := by decide +kernel
theorem dX10_hedgeAtRank_17 : decode cX10_hedgeAtRank 17 = .ok (.iconst 0, 1) := by decide +kernel
theorem dX10_hedgeAtRank_18 : decode cX10_hedgeAtRank 18 = .ok (.istore_n 3, 1) := by decide +kernel
theorem dX10_hedgeAtRank_19 : decode cX10_hedgeAtRank 19 = .ok (.iconst 0, 1) := by decide +kernel
theorem dX10_hedgeAtRank_20 : decode cX10_hedgeAtRank 20 = .ok (.istore 4, 2) := by decide +kernel
theorem dX10_hedgeAtRank_22 : decode cX10_hedgeAtRank 22 = .ok (.iload 4, 2) := by decide +kernel
theorem dX10_hedgeAtRank_24 : decode cX10_hedgeAtRank 24 = .ok (.aload_n 0, 1) := by decide +kernel
theorem dX10_hedgeAtRank_25 : decode cX10_hedgeAtRank 25 = .ok (.getfield 9, 3) := by decide +kernel
theorem dX10_hedgeAtRank_28 : decode cX10_hedgeAtRank 28 = .ok (.iconst 0, 1) := by decide +kernel
theorem dX10_hedgeAtRank_29 : decode cX10_hedgeAtRank 29 = .ok (.iaload, 1) := by decide +kernel
theorem dX10_hedgeAtRank_30 : decode cX10_hedgeAtRank 30 = .ok (.if_icmp .ge 27, 3) := by decide +kernel
theorem dX10_hedgeAtRank_33 : decode cX10_hedgeAtRank 33 = .ok (.iload_n 3, 1) := by decide +kernel
theorem dX10_hedgeAtRank_34 : decode cX10_hedgeAtRank 34 = .ok (.aload_n 0, 1) := by decide +kernel
theorem dX10_hedgeAtRank_35 : decode cX10_hedgeAtRank 35 = .ok (.iload 4, 2) := by decide +kernel
theorem dX10_hedgeAtRank_37 : decode cX10_hedgeAtRank 37 = .ok (.iload_n 2, 1) := by decide +kernel
theorem dX10_hedgeAtRank_38 : decode cX10_hedgeAtRank 38 = .ok (.invokevirtual 169, 3) := by decide +kernel
theorem dX10_hedgeAtRank_41 : decode cX10_hedgeAtRank 41 = .ok (.ifCond .eq 7, 3) := by decide +kernel
theorem dX10_hedgeAtRank_44 : decode cX10_hedgeAtRank 44 = .ok (.iconst 1, 1) := by decide +kernel
theorem dX10_hedgeAtRank_45 : decode cX10_hedgeAtRank 45 = .ok (.goto 4, 3) := by decide +kernel
theorem dX10_hedgeAtRank_48 : decode cX10_hedgeAtRank 48 = .ok (.iconst 0, 1) := by decide +kernel
theorem dX10_hedgeAtRank_49 : decode cX10_hedgeAtRank 49 = .ok (.iadd, 1) := by decide +kernel
theorem dX10_hedgeAtRank_50 : decode cX10_hedgeAtRank 50 = .ok (.istore_n 3, 1) := by decide +kernel
theorem dX10_hedgeAtRank_51 : decode cX10_hedgeAtRank 51 = .ok (.iinc 4 1, 3) := by decide +kernel
theorem dX10_hedgeAtRank_54 : decode cX10_hedgeAtRank 54 = .ok (.goto (-32), 3) := by decide +kernel
theorem dX10_hedgeAtRank_57 : decode cX10_hedgeAtRank 57 = .ok (.iload_n 3, 1) := by decide +kernel
theorem dX10_hedgeAtRank_58 : decode cX10_hedgeAtRank 58 = .ok (.iload_n 1, 1) := by decide +kernel
theorem dX10_hedgeAtRank_59 : decode cX10_hedgeAtRank 59 = .ok (.if_icmp .ne 5, 3) := by decide +kernel
theorem dX10_hedgeAtRank_62 : decode cX10_hedgeAtRank 62 = .ok (.iload_n 2, 1) := by decide +kernel
theorem dX10_hedgeAtRank_63 : decode cX10_hedgeAtRank 63 = .ok (.ireturn, 1) := by decide +kernel
theorem dX10_hedgeAtRank_64 : decode cX10_hedgeAtRank 64 = .ok (.iinc 2 1, 3) := by decide +kernel
theorem dX10_hedgeAtRank_67 : decode cX10_hedgeAtRank 67 = .ok (.goto (-60), 3) := by decide +kernel
theorem dX10_hedgeAtRank_70 : decode cX10_hedgeAtRank 70 = .ok (.aload_n 0, 1) := by decide +kernel
theorem dX10_hedgeAtRank_71 : decode cX10_hedgeAtRank 71 = .ok (.iconst 1, 1) := by decide +kernel
theorem dX10_hedgeAtRank_72 : decode cX10_hedgeAtRank 72 = .ok (.invokevirtual 101, 3) := by decide +kernel
theorem dX10_hedgeAtRank_75 : decode cX10_hedgeAtRank 75 = .ok (.ireturn, 1) := by decide +kernel
set_option maxHeartbeats 2000000 in
set_option maxRecDepth 20000 in
theorem m_hedgeAtRank (l : Launch) (D : va_G) (aT : Nat → ClassId) (ad : Nat → Nat) (S : MSt) (x : Int32) (hH : HeW (S 0)) : MdI l yX10_hedgeAtRank cX10_hedgeAtRank 5 .int 2 43 D aT ad [.ref (ad 0), .int x] S (fun r S1 => (fnd (fun k => nI (rkN (hAh (lvM (S 0)) (thM (S 0))) k (hM (S 0)))) x (hM (S 0)) = none ∧ r = -1 ∧ S1 = ss S 8 (nI 1)) ∨ (∃ k, fnd (fun k => nI (rkN (hAh (lvM (S 0)) (thM (S 0))) k (hM (S 0)))) x (hM (S 0)) = some k ∧ r = nI k ∧ S1 = ss S 8 (nI 0))) := by
  refine MdI.of (by decide +kernel) rfl (Nat.le_of_ble_eq_true rfl) ?_
  intro p e s m below meth c A ls C hml hl hA hr hlocks hW
  have hl : lv_has ls 5 [(0, .ref (ad 0)), (1, .int x)] := hl
  have hx := C.1
  have hb := C.2.1
  refine lv_aload_n hx hb dX10_hedgeAtRank_0 rfl (lv_at hl 0 rfl) ?_
  refine lv_iconst (v := nI 0) hx hb dX10_hedgeAtRank_1 (by decide) ?_
  refine md_put_thrown C hW dX10_hedgeAtRank_2 (fun H locs hW => ?_)
  refine lv_iconst (v := nI 0) hx hb dX10_hedgeAtRank_5 (by decide) ?_
  refine lv_istore_n (lv' := [(2, .int (nI 0)), (0, .ref (ad 0)), (1, .int x)]) hx hb dX10_hedgeAtRank_6 rfl hl (by decide) rfl (fun ls hl => ?_)
  refine W_loopH (σ := Nat) (fun z_ => hM (S 0) - z_) (fun z_ H locs g => ∃ ls, g = F0 m 7 ls [] ∧ lv_has ls 5 [(0, .ref (ad 0)), (1, .int x), (2, .int (nI z_))] ∧ MdB D aT ad (ss S 8 (nI 0)) A s.heap H locs ∧ (fnd (fun k => nI (rkN (hAh (lvM (S 0)) (thM (S 0))) k (hM (S 0)))) x z_ = none ∧ z_ ≤ hM (S 0))) ?_ 0 _ ⟨_, rfl, lv_sub hl [1, 2, 0] rfl, hW, ⟨rfl, Nat.zero_le _⟩⟩
  clear hW hl
  rintro k H locs g ⟨ls, rfl, hl, hW, hk, hkh⟩ ih_7
  have h6 := hH.2.1
  refine lv_iload_n hx hb dX10_hedgeAtRank_7 rfl (lv_at hl 2 rfl) ?_
  refine lv_aload_n hx hb dX10_hedgeAtRank_8 rfl (lv_at hl 0 rfl) ?_
  refine md_geta_m C hW dX10_hedgeAtRank_9 ?_
  refine lv_iconst (v := nI 0) hx hb dX10_hedgeAtRank_12 (by decide) ?_
  refine md_ald_m C hW (i := 0) (by omega) dX10_hedgeAtRank_13 ?_
  refine r_eq (y := (nI (hM (S 0)))) (hH.1) ?_
  refine r_geN hx hb (a := k) (b := (hM (S 0))) (by omega) (by omega) (tgt := 70) dX10_hedgeAtRank_14 (by decide) (fun c_14 => ?_) (fun c_14 => ?_)
  · refine lv_aload_n hx hb dX10_hedgeAtRank_70 rfl (lv_at hl 0 rfl) ?_
    refine lv_iconst (v := nI 1) hx hb dX10_hedgeAtRank_71 (by decide) ?_
    refine md_calli C hml hl.1 (As := [.int (nI 1)]) (rest := []) (m_throwing l D aT ad (ss S 8 (nI 0)) 1) gT_throwing hd_throwing rfl ⟨Nat.le_of_ble_eq_true rfl, Nat.le_of_ble_eq_true rfl⟩ ⟨Nat.le_refl _, Nat.le_refl _⟩ hW hA rfl (Nat.le_of_ble_eq_true rfl) dX10_hedgeAtRank_72 (fun r_72 S_72 H locs hq hW => ?_)
    obtain ⟨rfl, rfl⟩ := hq
    exact md_iret C hr hlocks rfl hW (Or.inl ⟨(show k = hM (S 0) by omega) ▸ hk, rfl, ss_ss _ _ _ _⟩) dX10_hedgeAtRank_75
  · refine lv_iconst (v := nI 0) hx hb dX10_hedgeAtRank_17 (by decide) ?_
    refine lv_istore_n (lv' := [(3, .int (nI 0)), (0, .ref (ad 0)), (1, .int x), (2, .int (nI k))]) hx hb dX10_hedgeAtRank_18 rfl hl (by decide) rfl (fun ls hl => ?_)
    refine lv_iconst (v := nI 0) hx hb dX10_hedgeAtRank_19 (by decide) ?_
    refine lv_istore (lv' := [(4, .int (nI 0)), (3, .int (nI 0)), (0, .ref (ad 0)), (1, .int x), (2, .int (nI k))]) hx hb dX10_hedgeAtRank_20 hl (by decide) rfl (fun ls hl => ?_)
    refine W_loopH (σ := Nat × Nat) (fun z_ => hM (S 0) - z_.2) (fun z_ H locs g => ∃ ls, g = F0 m 22 ls [] ∧ lv_has ls 5 [(0, .ref (ad 0)), (1, .int x), (2, .int (nI k)), (3, .int (nI z_.1)), (4, .int (nI z_.2))] ∧ MdB D aT ad (ss S 8 (nI 0)) A s.heap H locs ∧ (z_.1 = (rkN (hAh (lvM (S 0)) (thM (S 0))) k z_.2) ∧ z_.2 ≤ hM (S 0))) ?_ (0, 0) _ ⟨_, rfl, lv_sub hl [2, 3, 4, 1, 0] rfl, hW, ⟨rfl, Nat.zero_le _⟩⟩
    clear hW hl
    rintro ⟨bf, o⟩ H locs g ⟨ls, rfl, hl, hW, hb2, hoh⟩ ih_22
    dsimp only at hl hW hb2 hoh ⊢
    refine lv_iload hx hb dX10_hedgeAtRank_22 (lv_at hl 4 rfl) ?_
    refine lv_aload_n hx hb dX10_hedgeAtRank_24 rfl (lv_at hl 0 rfl) ?_
    refine md_geta_m C hW dX10_hedgeAtRank_25 ?_
    refine lv_iconst (v := nI 0) hx hb dX10_hedgeAtRank_28 (by decide) ?_
    refine md_ald_m C hW (i := 0) (by omega) dX10_hedgeAtRank_29 ?_
    refine r_eq (y := (nI (hM (S 0)))) (hH.1) ?_
    refine r_geN hx hb (a := o) (b := (hM (S 0))) (by omega) (by omega) (tgt := 57) dX10_hedgeAtRank_30 (by decide) (fun c_30 => ?_) (fun c_30 => ?_)
    · refine lv_iload_n hx hb dX10_hedgeAtRank_57 rfl (lv_at hl 3 rfl) ?_
      refine lv_iload_n hx hb dX10_hedgeAtRank_58 rfl (lv_at hl 1 rfl) ?_
      refine lv_icmp_ne hx hb (x := (nI bf)) (y := x) (tgt := 64) dX10_hedgeAtRank_59 (by decide) (fun c_59 => ?_) (fun c_59 => ?_)
      · refine lv_iinc (v := (nI (k + 1))) (lv' := [(2, .int (nI (k + 1))), (0, .ref (ad 0)), (1, .int x), (3, .int (nI bf)), (4, .int (nI o))]) hx hb dX10_hedgeAtRank_64 hl (k := 2) rfl (nI_1 _) (by decide) rfl (fun ls hl => ?_)
        refine lv_goto (tgt := 7) hx hb dX10_hedgeAtRank_67 (by decide) ?_
        exact ih_7 (k + 1) _ _ _ (by omega) ⟨_, rfl, lv_sub hl [1, 2, 0] rfl, hW, ⟨fnd_step hk (fun z => c_59 (by rw [hb2, show o = hM (S 0) by omega]; exact z)), by omega⟩⟩
      · refine lv_iload_n hx hb dX10_hedgeAtRank_62 rfl (lv_at hl 2 rfl) ?_
        exact md_iret C hr hlocks rfl hW (Or.inr ⟨k, fnd_hit hk (by rw [hb2, show o = hM (S 0) by omega] at c_59; exact c_59) (by omega), rfl, rfl⟩) dX10_hedgeAtRank_63
    · refine lv_iload_n hx hb dX10_hedgeAtRank_33 rfl (lv_at hl 3 rfl) ?_
      refine lv_aload_n hx hb dX10_hedgeAtRank_34 rfl (lv_at hl 0 rfl) ?_
      refine lv_iload hx hb dX10_hedgeAtRank_35 (lv_at hl 4 rfl) ?_
      refine lv_iload_n hx hb dX10_hedgeAtRank_37 rfl (lv_at hl 2 rfl) ?_
      refine md_callg C hml hl.1 (As := [.int (nI o), .int (nI k)]) (rest := [.int (nI bf)]) (m_isHedgeAhead l D aT ad (ss S 8 (nI 0)) o k hH (show o < hM (S 0) by omega) (show k < hM (S 0) by omega)) gT_isHedgeAhead hd_isHedgeAhead rfl ⟨Nat.le_of_ble_eq_true rfl, Nat.le_of_ble_eq_true rfl⟩ ⟨Nat.le_refl _, Nat.le_refl _⟩ hW hA rfl (Nat.le_of_ble_eq_true rfl) dX10_hedgeAtRank_38 (fun r_38 H locs hq hW => ?_)
      subst hq
      refine r_bI_eq hx hb (b := (hAh (lvM (S 0)) (thM (S 0)) o k)) (tgt := 48) dX10_hedgeAtRank_41 (by decide) (fun c_41 => ?_) (fun c_41 => ?_)
      · refine lv_iconst (v := nI 0) hx hb dX10_hedgeAtRank_48 (by decide) ?_
        refine r_iaddN hx hb (a := bf) (b := 0) dX10_hedgeAtRank_49 ?_
        refine lv_istore_n (lv' := [(3, .int (nI (bf + 0))), (0, .ref (ad 0)), (1, .int x), (2, .int (nI k)), (4, .int (nI o))]) hx hb dX10_hedgeAtRank_50 rfl hl (by decide) rfl (fun ls hl => ?_)
        refine lv_iinc (v := (nI (o + 1))) (lv' := [(4, .int (nI (o + 1))), (3, .int (nI (bf + 0))), (0, .ref (ad 0)), (1, .int x), (2, .int (nI k))]) hx hb dX10_hedgeAtRank_51 hl (k := 4) rfl (nI_1 _) (by decide) rfl (fun ls hl => ?_)
        refine lv_goto (tgt := 22) hx hb dX10_hedgeAtRank_54 (by decide) ?_
        exact ih_22 (bf + 0, (o + 1)) _ _ _ (by dsimp only; omega) ⟨_, rfl, lv_sub hl [2, 3, 4, 1, 0] rfl, hW, ⟨by rw [rkN, c_41, ← hb2]; rfl, by (try dsimp only); omega⟩⟩
      · refine lv_iconst (v := nI 1) hx hb dX10_hedgeAtRank_44 (by decide) ?_
        refine lv_goto (tgt := 49) hx hb dX10_hedgeAtRank_45 (by decide) ?_
        refine r_iaddN hx hb (a := bf) (b := 1) dX10_hedgeAtRank_49 ?_
        refine lv_istore_n (lv' := [(3, .int (nI (bf + 1))), (0, .ref (ad 0)), (1, .int x), (2, .int (nI k)), (4, .int (nI o))]) hx hb dX10_hedgeAtRank_50 rfl hl (by decide) rfl (fun ls hl => ?_)
        refine lv_iinc (v := (nI (o + 1))) (lv' := [(4, .int (nI (o + 1))), (3, .int (nI (bf + 1))), (0, .ref (ad 0)), (1, .int x), (2, .int (nI k))]) hx hb dX10_hedgeAtRank_51 hl (k := 4) rfl (nI_1 _) (by decide) rfl (fun ls hl => ?_)
        refine lv_goto (tgt := 22) hx hb dX10_hedgeAtRank_54 (by decide) ?_
        exact ih_22 (bf + 1, (o + 1)) _ _ _ (by dsimp only; omega) ⟨_, rfl, lv_sub hl [2, 3, 4, 1, 0] rfl, hW, ⟨by rw [rkN, c_41, ← hb2]; rfl, by (try dsimp only); omega⟩⟩
theorem dX10_leavesInFavour_0 : decode cX10_leavesInFavour 0 = .ok (.aload_n 0, 1) := by decide +kernel
theorem dX10_leavesInFavour_1 : decode cX10_leavesInFavour 1 = .ok (.iconst 0, 1) := by decide +kernel
theorem dX10_leavesInFavour_2 : decode cX10_leavesInFavour 2 = .ok (.putfield 57, 3) := by decide +kernel
theorem dX10_leavesInFavour_5 : decode cX10_leavesInFavour 5 = .ok (.aload_n 0, 1) := by decide +kernel
theorem dX10_leavesInFavour_6 : decode cX10_leavesInFavour 6 = .ok (.iload_n 1, 1) := by decide +kernel
theorem dX10_leavesInFavour_7 : decode cX10_leavesInFavour 7 = .ok (.invokevirtual 71, 3) := by decide +kernel
theorem dX10_leavesInFavour_10 : decode cX10_leavesInFavour 10 = .ok (.istore_n 2, 1) := by decide +kernel
theorem dX10_leavesInFavour_11 : decode cX10_leavesInFavour 11 = .ok (.iload_n 2, 1) := by decide +kernel
theorem dX10_leavesInFavour_12 : decode cX10_leavesInFavour 12 = .ok (.iconst (-1), 1) := by decide +kernel
theorem dX10_leavesInFavour_13 : decode cX10_leavesInFavour 13 = .ok (.if_icmp .ne 11, 3) := by decide +kernel
theorem dX10_leavesInFavour_16 : decode cX10_leavesInFavour 16 = .ok (.aload_n 0, 1) := by decide +kernel
theorem dX10_leavesInFavour_17 : decode cX10_leavesInFavour 17 = .ok (.iconst 1, 1) := by decide +kernel
theorem dX10_leavesInFavour_18 : decode cX10_leavesInFavour 18 = .ok (.invokevirtual 101, 3) := by decide +kernel
theorem dX10_leavesInFavour_21 : decode cX10_leavesInFavour 21 = .ok (.goto 8, 3) := by decide +kernel
theorem dX10_leavesInFavour_24 : decode cX10_leavesInFavour 24 = .ok (.aload_n 0, 1) := by decide +kernel
theorem dX10_leavesInFavour_25 : decode cX10_leavesInFavour 25 = .ok (.iload_n 2, 1) := by decide +kernel
theorem dX10_leavesInFavour_26 : decode cX10_leavesInFavour 26 = .ok (.invokevirtual 147, 3) := by decide +kernel
theorem dX10_leavesInFavour_29 : decode cX10_leavesInFavour 29 = .ok (.ireturn, 1) := by decide +kernel
set_option maxHeartbeats 1000000 in
set_option maxRecDepth 20000 in
theorem m_leavesInFavour (l : Launch) (D : va_G) (aT : Nat → ClassId) (ad : Nat → Nat) (S : MSt) (x : Int32) (hF : FoW (S 0)) (hH : HeW (S 0)) : MdI l yX10_leavesInFavour cX10_leavesInFavour 3 .int 3 69 D aT ad [.ref (ad 0), .int x] S (fun r S1 => (fnd (fun k => S 0 (29 + 4 * k)) x (nM (S 0)) = none ∧ r = -1 ∧ S1 = ss S 8 (nI 1)) ∨ (∃ q, fnd (fun k => S 0 (29 + 4 * k)) x (nM (S 0)) = some q ∧ r = nI (fav (lvM (S 0)) (taM (S 0)) (tnM (S 0) q) (hM (S 0))) ∧ S1 = ss S 8 (nI 0))) := by
  refine MdI.of (by decide +kernel) rfl (Nat.le_of_ble_eq_true rfl) ?_
  intro p e s m below meth c A ls C hml hl hA hr hlocks hW
  have hl : lv_has ls 3 [(0, .ref (ad 0)), (1, .int x)] := hl
  have hx := C.1
  have hb := C.2.1
  refine lv_aload_n hx hb dX10_leavesInFavour_0 rfl (lv_at hl 0 rfl) ?_
  refine lv_iconst (v := nI 0) hx hb dX10_leavesInFavour_1 (by decide) ?_
  refine md_put_thrown C hW dX10_leavesInFavour_2 (fun H locs hW => ?_)
  refine lv_aload_n hx hb dX10_leavesInFavour_5 rfl (lv_at hl 0 rfl) ?_
  refine lv_iload_n hx hb dX10_leavesInFavour_6 rfl (lv_at hl 1 rfl) ?_
  refine md_callg C hml hl.1 (As := [.int x]) (rest := []) (m_find l D aT ad (ss S 8 (nI 0)) (x) (nM (S 0)) hF.1 hF.2.1) gT_find hd_find rfl ⟨Nat.le_of_ble_eq_true rfl, Nat.le_of_ble_eq_true rfl⟩ ⟨Nat.le_refl _, Nat.le_refl _⟩ hW hA rfl (Nat.le_of_ble_eq_true rfl) dX10_leavesInFavour_7 (fun r_7 H locs hq hW => ?_)
  subst hq
  refine lv_istore_n (lv' := [(2, .int (oi (fnd (fun k => (ss S 8 (nI 0)) 0 (29 + 4 * k)) (x) (nM (S 0))))), (0, .ref (ad 0)), (1, .int x)]) hx hb dX10_leavesInFavour_10 rfl hl (by decide) rfl (fun ls hl => ?_)
  refine lv_iload_n hx hb dX10_leavesInFavour_11 rfl (lv_at hl 0 rfl) ?_
  refine lv_iconst (v := (-1)) hx hb dX10_leavesInFavour_12 (by decide) ?_
  refine r_oi_ne hx hb (o := (fnd (fun k => (ss S 8 (nI 0)) 0 (29 + 4 * k)) (x) (nM (S 0)))) (fun j hj => by have := (fnd_some hj).1; have := hF.n12; omega) (tgt := 24) dX10_leavesInFavour_13 (by decide) (fun j_13 c_13 => ?_) (fun c_13 => ?_)
  · have hl : lv_has ls 3 [(2, .int (nI j_13)), (0, .ref (ad 0)), (1, .int x)] := by rw [c_13] at hl; exact hl
    have hq0 := (fnd_some c_13).1
    have h12 := hF.n12
    refine lv_aload_n hx hb dX10_leavesInFavour_24 rfl (lv_at hl 1 rfl) ?_
    refine lv_iload_n hx hb dX10_leavesInFavour_25 rfl (lv_at hl 0 rfl) ?_
    refine md_callg C hml hl.1 (As := [.int (nI j_13)]) (rest := []) (m_favour l D aT ad (ss S 8 (nI 0)) (hM (S 0)) (lvM (S 0)) (thM (S 0)) (taM (S 0)) hH (nM (S 0)) (idM (S 0)) (prM (S 0)) (tnM (S 0)) hF j_13 (hq0)) gT_favour hd_favour rfl ⟨Nat.le_of_ble_eq_true rfl, Nat.le_of_ble_eq_true rfl⟩ ⟨Nat.le_refl _, Nat.le_refl _⟩ hW hA rfl (Nat.le_of_ble_eq_true rfl) dX10_leavesInFavour_26 (fun r_26 H locs hq hW => ?_)
    subst hq
    exact md_iret C hr hlocks rfl hW (Or.inr ⟨j_13, c_13, rfl, rfl⟩) dX10_leavesInFavour_29
  · have hl : lv_has ls 3 [(2, .int (-1)), (0, .ref (ad 0)), (1, .int x)] := by rw [c_13] at hl; exact hl
    refine lv_aload_n hx hb dX10_leavesInFavour_16 rfl (lv_at hl 1 rfl) ?_
    refine lv_iconst (v := nI 1) hx hb dX10_leavesInFavour_17 (by decide) ?_
    refine md_calli C hml hl.1 (As := [.int (nI 1)]) (rest := []) (m_throwing l D aT ad (ss S 8 (nI 0)) 1) gT_throwing hd_throwing rfl ⟨Nat.le_of_ble_eq_true rfl, Nat.le_of_ble_eq_true rfl⟩ ⟨Nat.le_refl _, Nat.le_refl _⟩ hW hA rfl (Nat.le_of_ble_eq_true rfl) dX10_leavesInFavour_18 (fun r_18 S_18 H locs hq hW => ?_)
    obtain ⟨rfl, rfl⟩ := hq
    refine lv_goto (tgt := 29) hx hb dX10_leavesInFavour_21 (by decide) ?_
    exact md_iret C hr hlocks rfl hW (Or.inl ⟨c_13, rfl, ss_ss _ _ _ _⟩) dX10_leavesInFavour_29
theorem dX10_motionCount_0 : decode cX10_motionCount 0 = .ok (.aload_n 0, 1) := by decide +kernel
theorem dX10_motionCount_1 : decode cX10_motionCount 1 = .ok (.iconst 0, 1) := by decide +kernel
theorem dX10_motionCount_2 : decode cX10_motionCount 2 = .ok (.putfield 57, 3) := by decide +kernel
theorem dX10_motionCount_5 : decode cX10_motionCount 5 = .ok (.aload_n 0, 1) := by decide +kernel
theorem dX10_motionCount_6 : decode cX10_motionCount 6 = .ok (.getfield 9, 3) := by decide +kernel
theorem dX10_motionCount_9 : decode cX10_motionCount 9 = .ok (.iconst 2, 1) := by decide +kernel
theorem dX10_motionCount_10 : decode cX10_motionCount 10 = .ok (.iaload, 1) := by decide +kernel
theorem dX10_motionCount_11 : decode cX10_motionCount 11 = .ok (.ireturn, 1) := by decide +kernel
set_option maxHeartbeats 1000000 in
set_option maxRecDepth 20000 in
theorem m_motionCount (l : Launch) (D : va_G) (aT : Nat → ClassId) (ad : Nat → Nat) (S : MSt) (hF : FoW (S 0)) : MdI l yX10_motionCount cX10_motionCount 1 .int 0 0 D aT ad [.ref (ad 0)] S (fun r S1 => r = nI (nM (S 0)) ∧ S1 = ss S 8 (nI 0)) := by
  refine MdI.of (by decide +kernel) rfl (Nat.le_of_ble_eq_true rfl) ?_
  intro p e s m below meth c A ls C hml hl hA hr hlocks hW
  have hl : lv_has ls 1 [(0, .ref (ad 0))] := hl
  have hx := C.1
  have hb := C.2.1
  refine lv_aload_n hx hb dX10_motionCount_0 rfl (lv_at hl 0 rfl) ?_
  refine lv_iconst (v := nI 0) hx hb dX10_motionCount_1 (by decide) ?_
  refine md_put_thrown C hW dX10_motionCount_2 (fun H locs hW => ?_)
  refine lv_aload_n hx hb dX10_motionCount_5 rfl (lv_at hl 0 rfl) ?_
  refine md_geta_m C hW dX10_motionCount_6 ?_
  refine lv_iconst (v := nI 2) hx hb dX10_motionCount_9 (by decide) ?_
  refine md_ald_m C hW (i := 2) (by omega) dX10_motionCount_10 ?_
  refine r_eq (y := (nI (nM (S 0)))) (hF.1) ?_
  exact md_iret C hr hlocks rfl hW (⟨rfl, rfl⟩) dX10_motionCount_11
theorem dX10_motionAt_0 : decode cX10_motionAt 0 = .ok (.aload_n 0, 1) := by decide +kernel
theorem dX10_motionAt_1 : decode cX10_motionAt 1 = .ok (.iconst 0, 1) := by decide +kernel
theorem dX10_motionAt_2 : decode cX10_motionAt 2 = .ok (.putfield 57, 3) := by decide +kernel
theorem dX10_motionAt_5 : decode cX10_motionAt 5 = .ok (.iload_n 1, 1) := by decide +kernel
theorem dX10_motionAt_6 : decode cX10_motionAt 6 = .ok (.i2l, 1) := by decide +kernel
theorem dX10_motionAt_7 : decode cX10_motionAt 7 = .ok (.lconst 0, 1) := by decide +kernel
theorem dX10_motionAt_8 : decode cX10_motionAt 8 = .ok (.aload_n 0, 1) := by decide +kernel
theorem dX10_motionAt_9 : decode cX10_motionAt 9 = .ok (.getfield 9, 3) := by decide +kernel
theorem dX10_motionAt_12 : decode cX10_motionAt 12 = .ok (.iconst 2, 1) := by decide +kernel
theorem dX10_motionAt_13 : decode cX10_motionAt 13 = .ok (.iaload, 1) := by decide +kernel
theorem dX10_motionAt_14 : decode cX10_motionAt 14 = .ok (.iconst 1, 1) := by decide +kernel
theorem dX10_motionAt_15 : decode cX10_motionAt 15 = .ok (.isub, 1) := by decide +kernel
theorem dX10_motionAt_16 : decode cX10_motionAt 16 = .ok (.i2l, 1) := by decide +kernel
theorem dX10_motionAt_17 : decode cX10_motionAt 17 = .ok (.invokestatic 63, 3) := by decide +kernel
theorem dX10_motionAt_20 : decode cX10_motionAt 20 = .ok (.ifCond .eq 12, 3) := by decide +kernel
theorem dX10_motionAt_23 : decode cX10_motionAt 23 = .ok (.aload_n 0, 1) := by decide +kernel
theorem dX10_motionAt_24 : decode cX10_motionAt 24 = .ok (.iload_n 1, 1) := by decide +kernel
theorem dX10_motionAt_25 : decode cX10_motionAt 25 = .ok (.iconst 0, 1) := by decide +kernel
theorem dX10_motionAt_26 : decode cX10_motionAt 26 = .ok (.invokevirtual 67, 3) := by decide +kernel
theorem dX10_motionAt_29 : decode cX10_motionAt 29 = .ok (.goto 8, 3) := by decide +kernel
theorem dX10_motionAt_32 : decode cX10_motionAt 32 = .ok (.aload_n 0, 1) := by decide +kernel
theorem dX10_motionAt_33 : decode cX10_motionAt 33 = .ok (.iconst 1, 1) := by decide +kernel
theorem dX10_motionAt_34 : decode cX10_motionAt 34 = .ok (.invokevirtual 101, 3) := by decide +kernel
theorem dX10_motionAt_37 : decode cX10_motionAt 37 = .ok (.ireturn, 1) := by decide +kernel
set_option maxHeartbeats 1000000 in
set_option maxRecDepth 20000 in
theorem m_motionAt (l : Launch) (D : va_G) (aT : Nat → ClassId) (ad : Nat → Nat) (S : MSt) (x : Int32) (hF : FoW (S 0)) : MdI l yX10_motionAt cX10_motionAt 2 .int 1 25 D aT ad [.ref (ad 0), .int x] S (fun r S1 => (isHB (nM (S 0)) x = false ∧ r = -1 ∧ S1 = ss S 8 (nI 1)) ∨ (∃ i, i < nM (S 0) ∧ x = nI i ∧ r = S 0 (29 + 4 * i) ∧ S1 = ss S 8 (nI 0))) := by
  refine MdI.of (by decide +kernel) rfl (Nat.le_of_ble_eq_true rfl) ?_
  intro p e s m below meth c A ls C hml hl hA hr hlocks hW
  have hl : lv_has ls 2 [(0, .ref (ad 0)), (1, .int x)] := hl
  have hx := C.1
  have hb := C.2.1
  refine lv_aload_n hx hb dX10_motionAt_0 rfl (lv_at hl 0 rfl) ?_
  refine lv_iconst (v := nI 0) hx hb dX10_motionAt_1 (by decide) ?_
  refine md_put_thrown C hW dX10_motionAt_2 (fun H locs hW => ?_)
  refine lv_iload_n hx hb dX10_motionAt_5 rfl (lv_at hl 1 rfl) ?_
  refine lv_i2l (v := (x).toInt64) hx hb dX10_motionAt_6 rfl ?_
  refine lv_lconst (v := 0) hx hb dX10_motionAt_7 (by decide) ?_
  refine lv_aload_n hx hb dX10_motionAt_8 rfl (lv_at hl 0 rfl) ?_
  refine md_geta_m C hW dX10_motionAt_9 ?_
  refine lv_iconst (v := nI 2) hx hb dX10_motionAt_12 (by decide) ?_
  refine md_ald_m C hW (i := 2) (by omega) dX10_motionAt_13 ?_
  refine r_eq (y := (nI (nM (S 0)))) (hF.1) ?_
  refine lv_iconst (v := nI 1) hx hb dX10_motionAt_14 (by decide) ?_
  refine lv_isub hx hb dX10_motionAt_15 ?_
  refine lv_i2l (v := ((nI (nM (S 0)) - nI 1)).toInt64) hx hb dX10_motionAt_16 rfl ?_
  refine md_calls C hml hl.1 (As := [.long ((x).toInt64), .long 0, .long (((nI (nM (S 0)) - nI 1)).toInt64)]) (rest := []) (m_in l ((x).toInt64) 0 (((nI (nM (S 0)) - nI 1)).toInt64)) gT_in hd_in rfl ⟨Nat.le_of_ble_eq_true rfl, Nat.le_of_ble_eq_true rfl⟩ ⟨Nat.le_refl _, Nat.le_refl _⟩ rfl (Nat.le_of_ble_eq_true rfl) dX10_motionAt_17 (fun r_17 hq => ?_)
  subst hq
  refine r_eq (y := (bI (isHB (nM (S 0)) x))) (congrArg bI (isH_eq (by have := hF.n12; omega) x)) ?_
  refine r_bI_eq hx hb (b := (isHB (nM (S 0)) x)) (tgt := 32) dX10_motionAt_20 (by decide) (fun c_20 => ?_) (fun c_20 => ?_)
  · refine lv_aload_n hx hb dX10_motionAt_32 rfl (lv_at hl 0 rfl) ?_
    refine lv_iconst (v := nI 1) hx hb dX10_motionAt_33 (by decide) ?_
    refine md_calli C hml hl.1 (As := [.int (nI 1)]) (rest := []) (m_throwing l D aT ad (ss S 8 (nI 0)) 1) gT_throwing hd_throwing rfl ⟨Nat.le_of_ble_eq_true rfl, Nat.le_of_ble_eq_true rfl⟩ ⟨Nat.le_refl _, Nat.le_refl _⟩ hW hA rfl (Nat.le_of_ble_eq_true rfl) dX10_motionAt_34 (fun r_34 S_34 H locs hq hW => ?_)
    obtain ⟨rfl, rfl⟩ := hq
    exact md_iret C hr hlocks rfl hW (Or.inl ⟨c_20, rfl, ss_ss _ _ _ _⟩) dX10_motionAt_37
  · obtain ⟨i, hi, rfl⟩ := isHB_nat c_20 (by have := hF.n12; omega)
    have h12 := hF.n12
    refine lv_aload_n hx hb dX10_motionAt_23 rfl (lv_at hl 0 rfl) ?_
    refine lv_iload_n hx hb dX10_motionAt_24 rfl (lv_at hl 1 rfl) ?_
    refine lv_iconst (v := nI 0) hx hb dX10_motionAt_25 (by decide) ?_
    refine md_callg C hml hl.1 (As := [.int (nI i), .int (nI 0)]) (rest := []) (m_of l D aT ad (ss S 8 (nI 0)) i 0 (by omega)) gT_of hd_of rfl ⟨Nat.le_of_ble_eq_true rfl, Nat.le_of_ble_eq_true rfl⟩ ⟨Nat.le_refl _, Nat.le_refl _⟩ hW hA rfl (Nat.le_of_ble_eq_true rfl) dX10_motionAt_26 (fun r_26 H locs hq hW => ?_)
    subst hq
    refine r_eq (y := (S 0 (29 + 4 * i + 0))) (rfl) ?_
    refine lv_goto (tgt := 37) hx hb dX10_motionAt_29 (by decide) ?_
    exact md_iret C hr hlocks rfl hW (Or.inr ⟨i, hi, rfl, rfl, rfl⟩) dX10_motionAt_37
theorem gT_ofMotion : GoodIn gw (wsV RX10 172 RX10 yX10_ofMotion (Cond.code yX10_ofMotion cX10_ofMotion 3 (some .int) :: gw)) := gdV gw_1884 gw_1886 gw_47 gw_81 gw_1887
theorem hd_ofMotion : yX10_ofMotion.cls = RX10 ∧ yX10_ofMotion.cls ≠ "java/lang/invoke/MethodHandle" ∧ yX10_ofMotion.cls ≠ "java/lang/invoke/VarHandle" ∧ (parseMethodDescriptor yX10_ofMotion.desc).map (fun d => d.parameters.length) = some 2 := ⟨rfl, by decide +kernel, by decide +kernel, by decide +kernel⟩
theorem dX10_ofMotion_0 : decode cX10_ofMotion 0 = .ok (.aload_n 0, 1) := by decide +kernel
theorem dX10_ofMotion_1 : decode cX10_ofMotion 1 = .ok (.iconst 0, 1) := by decide +kernel
theorem dX10_ofMotion_2 : decode cX10_ofMotion 2 = .ok (.putfield 57, 3) := by decide +kernel
theorem dX10_ofMotion_5 : decode cX10_ofMotion 5 = .ok (.aload_n 0, 1) := by decide +kernel
theorem dX10_ofMotion_6 : decode cX10_ofMotion 6 = .ok (.iload_n 1, 1) := by decide +kernel
theorem dX10_ofMotion_7 : decode cX10_ofMotion 7 = .ok (.invokevirtual 71, 3) := by decide +kernel
theorem dX10_ofMotion_10 : decode cX10_ofMotion 10 = .ok (.iconst (-1), 1) := by decide +kernel
theorem dX10_ofMotion_11 : decode cX10_ofMotion 11 = .ok (.if_icmp .ne 11, 3) := by decide +kernel
theorem dX10_ofMotion_14 : decode cX10_ofMotion 14 = .ok (.aload_n 0, 1) := by decide +kernel
theorem dX10_ofMotion_15 : decode cX10_ofMotion 15 = .ok (.iconst 1, 1) := by decide +kernel
theorem dX10_ofMotion_16 : decode cX10_ofMotion 16 = .ok (.invokevirtual 101, 3) := by decide +kernel
theorem dX10_ofMotion_19 : decode cX10_ofMotion 19 = .ok (.goto 13, 3) := by decide +kernel
theorem dX10_ofMotion_22 : decode cX10_ofMotion 22 = .ok (.aload_n 0, 1) := by decide +kernel
theorem dX10_ofMotion_23 : decode cX10_ofMotion 23 = .ok (.aload_n 0, 1) := by decide +kernel
theorem dX10_ofMotion_24 : decode cX10_ofMotion 24 = .ok (.iload_n 1, 1) := by decide +kernel
theorem dX10_ofMotion_25 : decode cX10_ofMotion 25 = .ok (.invokevirtual 71, 3) := by decide +kernel
theorem dX10_ofMotion_28 : decode cX10_ofMotion 28 = .ok (.iload_n 2, 1) := by decide +kernel
theorem dX10_ofMotion_29 : decode cX10_ofMotion 29 = .ok (.invokevirtual 67, 3) := by decide +kernel
theorem dX10_ofMotion_32 : decode cX10_ofMotion 32 = .ok (.ireturn, 1) := by decide +kernel
set_option maxHeartbeats 1000000 in
set_option maxRecDepth 20000 in
theorem m_ofMotion (l : Launch) (D : va_G) (aT : Nat → ClassId) (ad : Nat → Nat) (S : MSt) (x : Int32) (w : Nat) (hw4 : w < 4) (hF : FoW (S 0)) : MdI l yX10_ofMotion cX10_ofMotion 3 .int 2 44 D aT ad [.ref (ad 0), .int x, .int (nI w)] S (fun r S1 => (fnd (fun k => S 0 (29 + 4 * k)) x (nM (S 0)) = none ∧ r = -1 ∧ S1 = ss S 8 (nI 1)) ∨ (∃ q, fnd (fun k => S 0 (29 + 4 * k)) x (nM (S 0)) = some q ∧ r = S 0 (29 + 4 * q + w) ∧ S1 = ss S 8 (nI 0))) := by
  refine MdI.of (by decide +kernel) rfl (Nat.le_of_ble_eq_true rfl) ?_
  intro p e s m below meth c A ls C hml hl hA hr hlocks hW
  have hl : lv_has ls 3 [(0, .ref (ad 0)), (1, .int x), (2, .int (nI w))] := hl
  have hx := C.1
  have hb := C.2.1
  refine lv_aload_n hx hb dX10_ofMotion_0 rfl (lv_at hl 0 rfl) ?_
  refine lv_iconst (v := nI 0) hx hb dX10_ofMotion_1 (by decide) ?_
  refine md_put_thrown C hW dX10_ofMotion_2 (fun H locs hW => ?_)
  refine lv_aload_n hx hb dX10_ofMotion_5 rfl (lv_at hl 0 rfl) ?_
  refine lv_iload_n hx hb dX10_ofMotion_6 rfl (lv_at hl 1 rfl) ?_
  refine md_callg C hml hl.1 (As := [.int x]) (rest := []) (m_find l D aT ad (ss S 8 (nI 0)) (x) (nM (S 0)) hF.1 hF.2.1) gT_find hd_find rfl ⟨Nat.le_of_ble_eq_true rfl, Nat.le_of_ble_eq_true rfl⟩ ⟨Nat.le_refl _, Nat.le_refl _⟩ hW hA rfl (Nat.le_of_ble_eq_true rfl) dX10_ofMotion_7 (fun r_7 H locs hq hW => ?_)
  subst hq
  refine lv_iconst (v := (-1)) hx hb dX10_ofMotion_10 (by decide) ?_
  refine r_oi_ne hx hb (o := (fnd (fun k => (ss S 8 (nI 0)) 0 (29 + 4 * k)) (x) (nM (S 0)))) (fun j hj => by have := (fnd_some hj).1; have := hF.n12; omega) (tgt := 22) dX10_ofMotion_11 (by decide) (fun j_11 c_11 => ?_) (fun c_11 => ?_)
  · have hq0 := (fnd_some c_11).1
    have h12 := hF.n12
    refine lv_aload_n hx hb dX10_ofMotion_22 rfl (lv_at hl 0 rfl) ?_
    refine lv_aload_n hx hb dX10_ofMotion_23 rfl (lv_at hl 0 rfl) ?_
    refine lv_iload_n hx hb dX10_ofMotion_24 rfl (lv_at hl 1 rfl) ?_
    refine md_callg C hml hl.1 (As := [.int x]) (rest := [.ref (ad 0)]) (m_find l D aT ad (ss S 8 (nI 0)) (x) (nM (S 0)) hF.1 hF.2.1) gT_find hd_find rfl ⟨Nat.le_of_ble_eq_true rfl, Nat.le_of_ble_eq_true rfl⟩ ⟨Nat.le_refl _, Nat.le_refl _⟩ hW hA rfl (Nat.le_of_ble_eq_true rfl) dX10_ofMotion_25 (fun r_25 H locs hq hW => ?_)
    subst hq
    refine r_eq (y := (nI j_11)) (by rw [c_11]; rfl) ?_
    refine lv_iload_n hx hb dX10_ofMotion_28 rfl (lv_at hl 2 rfl) ?_
    refine md_callg C hml hl.1 (As := [.int (nI j_11), .int (nI w)]) (rest := []) (m_of l D aT ad (ss S 8 (nI 0)) j_11 w (by omega)) gT_of hd_of rfl ⟨Nat.le_of_ble_eq_true rfl, Nat.le_of_ble_eq_true rfl⟩ ⟨Nat.le_refl _, Nat.le_refl _⟩ hW hA rfl (Nat.le_of_ble_eq_true rfl) dX10_ofMotion_29 (fun r_29 H locs hq hW => ?_)
    subst hq
    exact md_iret C hr hlocks rfl hW (Or.inr ⟨j_11, c_11, rfl, rfl⟩) dX10_ofMotion_32
  · refine lv_aload_n hx hb dX10_ofMotion_14 rfl (lv_at hl 0 rfl) ?_
    refine lv_iconst (v := nI 1) hx hb dX10_ofMotion_15 (by decide) ?_
    refine md_calli C hml hl.1 (As := [.int (nI 1)]) (rest := []) (m_throwing l D aT ad (ss S 8 (nI 0)) 1) gT_throwing hd_throwing rfl ⟨Nat.le_of_ble_eq_true rfl, Nat.le_of_ble_eq_true rfl⟩ ⟨Nat.le_refl _, Nat.le_refl _⟩ hW hA rfl (Nat.le_of_ble_eq_true rfl) dX10_ofMotion_16 (fun r_16 S_16 H locs hq hW => ?_)
    obtain ⟨rfl, rfl⟩ := hq
    refine lv_goto (tgt := 32) hx hb dX10_ofMotion_19 (by decide) ?_
    exact md_iret C hr hlocks rfl hW (Or.inl ⟨c_11, rfl, ss_ss _ _ _ _⟩) dX10_ofMotion_32
theorem dX10_tone_0 : decode cX10_tone 0 = .ok (.aload_n 0, 1) := by decide +kernel
theorem dX10_tone_1 : decode cX10_tone 1 = .ok (.iload_n 1, 1) := by decide +kernel
theorem dX10_tone_2 : decode cX10_tone 2 = .ok (.iconst 2, 1) := by decide +kernel
theorem dX10_tone_3 : decode cX10_tone 3 = .ok (.invokevirtual 172, 3) := by decide +kernel
theorem dX10_tone_6 : decode cX10_tone 6 = .ok (.ireturn, 1) := by decide +kernel
set_option maxHeartbeats 1000000 in
set_option maxRecDepth 20000 in
theorem m_tone (l : Launch) (D : va_G) (aT : Nat → ClassId) (ad : Nat → Nat) (S : MSt) (x : Int32) (hF : FoW (S 0)) : MdI l yX10_tone cX10_tone 2 .int 3 66 D aT ad [.ref (ad 0), .int x] S (fun r S1 => (fnd (fun k => S 0 (29 + 4 * k)) x (nM (S 0)) = none ∧ r = -1 ∧ S1 = ss S 8 (nI 1)) ∨ (∃ q, fnd (fun k => S 0 (29 + 4 * k)) x (nM (S 0)) = some q ∧ r = S 0 (29 + 4 * q + 2) ∧ S1 = ss S 8 (nI 0))) := by
  refine MdI.of (by decide +kernel) rfl (Nat.le_of_ble_eq_true rfl) ?_
  intro p e s m below meth c A ls C hml hl hA hr hlocks hW
  have hl : lv_has ls 2 [(0, .ref (ad 0)), (1, .int x)] := hl
  have hx := C.1
  have hb := C.2.1
  refine lv_aload_n hx hb dX10_tone_0 rfl (lv_at hl 0 rfl) ?_
  refine lv_iload_n hx hb dX10_tone_1 rfl (lv_at hl 1 rfl) ?_
  refine lv_iconst (v := nI 2) hx hb dX10_tone_2 (by decide) ?_
  refine md_calli C hml hl.1 (As := [.int x, .int (nI 2)]) (rest := []) (m_ofMotion l D aT ad S (x) 2 (by decide) hF) gT_ofMotion hd_ofMotion rfl ⟨Nat.le_of_ble_eq_true rfl, Nat.le_of_ble_eq_true rfl⟩ ⟨Nat.le_refl _, Nat.le_refl _⟩ hW hA rfl (Nat.le_of_ble_eq_true rfl) dX10_tone_3 (fun r_3 S_3 H locs hq hW => ?_)
  rcases hq with ⟨h1, rfl, rfl⟩ | ⟨q, h1, rfl, rfl⟩
  · exact md_iret C hr hlocks rfl hW (Or.inl ⟨h1, rfl, rfl⟩) dX10_tone_6
  · exact md_iret C hr hlocks rfl hW (Or.inr ⟨q, h1, rfl, rfl⟩) dX10_tone_6
theorem dX10_weight_0 : decode cX10_weight 0 = .ok (.aload_n 0, 1) := by decide +kernel
theorem dX10_weight_1 : decode cX10_weight 1 = .ok (.iload_n 1, 1) := by decide +kernel
theorem dX10_weight_2 : decode cX10_weight 2 = .ok (.iconst 3, 1) := by decide +kernel
theorem dX10_weight_3 : decode cX10_weight 3 = .ok (.invokevirtual 172, 3) := by decide +kernel
theorem dX10_weight_6 : decode cX10_weight 6 = .ok (.ireturn, 1) := by decide +kernel
set_option maxHeartbeats 1000000 in
set_option maxRecDepth 20000 in
theorem m_weight (l : Launch) (D : va_G) (aT : Nat → ClassId) (ad : Nat → Nat) (S : MSt) (x : Int32) (hF : FoW (S 0)) : MdI l yX10_weight cX10_weight 2 .int 3 66 D aT ad [.ref (ad 0), .int x] S (fun r S1 => (fnd (fun k => S 0 (29 + 4 * k)) x (nM (S 0)) = none ∧ r = -1 ∧ S1 = ss S 8 (nI 1)) ∨ (∃ q, fnd (fun k => S 0 (29 + 4 * k)) x (nM (S 0)) = some q ∧ r = S 0 (29 + 4 * q + 3) ∧ S1 = ss S 8 (nI 0))) := by
  refine MdI.of (by decide +kernel) rfl (Nat.le_of_ble_eq_true rfl) ?_
  intro p e s m below meth c A ls C hml hl hA hr hlocks hW
  have hl : lv_has ls 2 [(0, .ref (ad 0)), (1, .int x)] := hl
  have hx := C.1
  have hb := C.2.1
  refine lv_aload_n hx hb dX10_weight_0 rfl (lv_at hl 0 rfl) ?_
  refine lv_iload_n hx hb dX10_weight_1 rfl (lv_at hl 1 rfl) ?_
  refine lv_iconst (v := nI 3) hx hb dX10_weight_2 (by decide) ?_
  refine md_calli C hml hl.1 (As := [.int x, .int (nI 3)]) (rest := []) (m_ofMotion l D aT ad S (x) 3 (by decide) hF) gT_ofMotion hd_ofMotion rfl ⟨Nat.le_of_ble_eq_true rfl, Nat.le_of_ble_eq_true rfl⟩ ⟨Nat.le_refl _, Nat.le_refl _⟩ hW hA rfl (Nat.le_of_ble_eq_true rfl) dX10_weight_3 (fun r_3 S_3 H locs hq hW => ?_)
  rcases hq with ⟨h1, rfl, rfl⟩ | ⟨q, h1, rfl, rfl⟩
  · exact md_iret C hr hlocks rfl hW (Or.inl ⟨h1, rfl, rfl⟩) dX10_weight_6
  · exact md_iret C hr hlocks rfl hW (Or.inr ⟨q, h1, rfl, rfl⟩) dX10_weight_6
theorem dX10_depth_0 : decode cX10_depth 0 = .ok (.aload_n 0, 1) := by decide +kernel
theorem dX10_depth_1 : decode cX10_depth 1 = .ok (.iconst 0, 1) := by decide +kernel
theorem dX10_depth_2 : decode cX10_depth 2 = .ok (.putfield 57, 3) := by decide +kernel
theorem dX10_depth_5 : decode cX10_depth 5 = .ok (.aload_n 0, 1) := by decide +kernel
theorem dX10_depth_6 : decode cX10_depth 6 = .ok (.iload_n 1, 1) := by decide +kernel
theorem dX10_depth_7 : decode cX10_depth 7 = .ok (.invokevirtual 71, 3) := by decide +kernel
theorem dX10_depth_10 : decode cX10_depth 10 = .ok (.iconst (-1), 1) := by decide +kernel
theorem dX10_depth_11 : decode cX10_depth 11 = .ok (.if_icmp .ne 11, 3) := by decide +kernel
theorem dX10_depth_14 : decode cX10_depth 14 = .ok (.aload_n 0, 1) := by decide +kernel
theorem dX10_depth_15 : decode cX10_depth 15 = .ok (.iconst 1, 1) := by decide +kernel
theorem dX10_depth_16 : decode cX10_depth 16 = .ok (.invokevirtual 101, 3) := by decide +kernel
theorem dX10_depth_19 : decode cX10_depth 19 = .ok (.goto 12, 3) := by decide +kernel
theorem dX10_depth_22 : decode cX10_depth 22 = .ok (.aload_n 0, 1) := by decide +kernel
theorem dX10_depth_23 : decode cX10_depth 23 = .ok (.aload_n 0, 1) := by decide +kernel
theorem dX10_depth_24 : decode cX10_depth 24 = .ok (.iload_n 1, 1) := by decide +kernel
theorem dX10_depth_25 : decode cX10_depth 25 = .ok (.invokevirtual 71, 3) := by decide +kernel
theorem dX10_depth_28 : decode cX10_depth 28 = .ok (.invokevirtual 125, 3) := by decide +kernel
theorem dX10_depth_31 : decode cX10_depth 31 = .ok (.ireturn, 1) := by decide +kernel
set_option maxHeartbeats 1000000 in
set_option maxRecDepth 20000 in
theorem m_depth (l : Launch) (D : va_G) (aT : Nat → ClassId) (ad : Nat → Nat) (S : MSt) (x : Int32) (hF : FoW (S 0)) : MdI l yX10_depth cX10_depth 2 .int 4 88 D aT ad [.ref (ad 0), .int x] S (fun r S1 => (fnd (fun k => S 0 (29 + 4 * k)) x (nM (S 0)) = none ∧ r = -1 ∧ S1 = ss S 8 (nI 1)) ∨ (∃ q, fnd (fun k => S 0 (29 + 4 * k)) x (nM (S 0)) = some q ∧ r = nI (dep (prM (S 0)) q) ∧ S1 = ss S 8 (nI 0))) := by
  refine MdI.of (by decide +kernel) rfl (Nat.le_of_ble_eq_true rfl) ?_
  intro p e s m below meth c A ls C hml hl hA hr hlocks hW
  have hl : lv_has ls 2 [(0, .ref (ad 0)), (1, .int x)] := hl
  have hx := C.1
  have hb := C.2.1
  refine lv_aload_n hx hb dX10_depth_0 rfl (lv_at hl 0 rfl) ?_
  refine lv_iconst (v := nI 0) hx hb dX10_depth_1 (by decide) ?_
  refine md_put_thrown C hW dX10_depth_2 (fun H locs hW => ?_)
  refine lv_aload_n hx hb dX10_depth_5 rfl (lv_at hl 0 rfl) ?_
  refine lv_iload_n hx hb dX10_depth_6 rfl (lv_at hl 1 rfl) ?_
  refine md_callg C hml hl.1 (As := [.int x]) (rest := []) (m_find l D aT ad (ss S 8 (nI 0)) (x) (nM (S 0)) hF.1 hF.2.1) gT_find hd_find rfl ⟨Nat.le_of_ble_eq_true rfl, Nat.le_of_ble_eq_true rfl⟩ ⟨Nat.le_refl _, Nat.le_refl _⟩ hW hA rfl (Nat.le_of_ble_eq_true rfl) dX10_depth_7 (fun r_7 H locs hq hW => ?_)
  subst hq
  refine lv_iconst (v := (-1)) hx hb dX10_depth_10 (by decide) ?_
  refine r_oi_ne hx hb (o := (fnd (fun k => (ss S 8 (nI 0)) 0 (29 + 4 * k)) (x) (nM (S 0)))) (fun j hj => by have := (fnd_some hj).1; have := hF.n12; omega) (tgt := 22) dX10_depth_11 (by decide) (fun j_11 c_11 => ?_) (fun c_11 => ?_)
  · have hq0 := (fnd_some c_11).1
    have h12 := hF.n12
    refine lv_aload_n hx hb dX10_depth_22 rfl (lv_at hl 0 rfl) ?_
    refine lv_aload_n hx hb dX10_depth_23 rfl (lv_at hl 0 rfl) ?_
    refine lv_iload_n hx hb dX10_depth_24 rfl (lv_at hl 1 rfl) ?_
    refine md_callg C hml hl.1 (As := [.int x]) (rest := [.ref (ad 0)]) (m_find l D aT ad (ss S 8 (nI 0)) (x) (nM (S 0)) hF.1 hF.2.1) gT_find hd_find rfl ⟨Nat.le_of_ble_eq_true rfl, Nat.le_of_ble_eq_true rfl⟩ ⟨Nat.le_refl _, Nat.le_refl _⟩ hW hA rfl (Nat.le_of_ble_eq_true rfl) dX10_depth_25 (fun r_25 H locs hq hW => ?_)
    subst hq
    refine r_eq (y := (nI j_11)) (by rw [c_11]; rfl) ?_
    refine md_callg C hml hl.1 (As := [.int (nI j_11)]) (rest := []) (m_deep l D aT ad (ss S 8 (nI 0)) (nM (S 0)) (idM (S 0)) (prM (S 0)) (tnM (S 0)) hF j_11 (hq0)) gT_deep hd_deep rfl ⟨Nat.le_of_ble_eq_true rfl, Nat.le_of_ble_eq_true rfl⟩ ⟨Nat.le_refl _, Nat.le_refl _⟩ hW hA rfl (Nat.le_of_ble_eq_true rfl) dX10_depth_28 (fun r_28 H locs hq hW => ?_)
    subst hq
    exact md_iret C hr hlocks rfl hW (Or.inr ⟨j_11, c_11, rfl, rfl⟩) dX10_depth_31
  · refine lv_aload_n hx hb dX10_depth_14 rfl (lv_at hl 0 rfl) ?_
    refine lv_iconst (v := nI 1) hx hb dX10_depth_15 (by decide) ?_
    refine md_calli C hml hl.1 (As := [.int (nI 1)]) (rest := []) (m_throwing l D aT ad (ss S 8 (nI 0)) 1) gT_throwing hd_throwing rfl ⟨Nat.le_of_ble_eq_true rfl, Nat.le_of_ble_eq_true rfl⟩ ⟨Nat.le_refl _, Nat.le_refl _⟩ hW hA rfl (Nat.le_of_ble_eq_true rfl) dX10_depth_16 (fun r_16 S_16 H locs hq hW => ?_)
    obtain ⟨rfl, rfl⟩ := hq
    refine lv_goto (tgt := 31) hx hb dX10_depth_19 (by decide) ?_
    exact md_iret C hr hlocks rfl hW (Or.inl ⟨c_11, rfl, ss_ss _ _ _ _⟩) dX10_depth_31
theorem dX10_isTip_0 : decode cX10_isTip 0 = .ok (.aload_n 0, 1) := by decide +kernel
theorem dX10_isTip_1 : decode cX10_isTip 1 = .ok (.iconst 0, 1) := by decide +kernel
theorem dX10_isTip_2 : decode cX10_isTip 2 = .ok (.putfield 57, 3) := by decide +kernel
theorem dX10_isTip_5 : decode cX10_isTip 5 = .ok (.aload_n 0, 1) := by decide +kernel
theorem dX10_isTip_6 : decode cX10_isTip 6 = .ok (.iload_n 1, 1) := by decide +kernel
theorem dX10_isTip_7 : decode cX10_isTip 7 = .ok (.invokevirtual 71, 3) := by decide +kernel
theorem dX10_isTip_10 : decode cX10_isTip 10 = .ok (.iconst (-1), 1) := by decide +kernel
theorem dX10_isTip_11 : decode cX10_isTip 11 = .ok (.if_icmp .ne 11, 3) := by decide +kernel
theorem dX10_isTip_14 : decode cX10_isTip 14 = .ok (.aload_n 0, 1) := by decide +kernel
theorem dX10_isTip_15 : decode cX10_isTip 15 = .ok (.iconst 1, 1) := by decide +kernel
theorem dX10_isTip_16 : decode cX10_isTip 16 = .ok (.invokevirtual 101, 3) := by decide +kernel
theorem dX10_isTip_19 : decode cX10_isTip 19 = .ok (.pop, 1) := by decide +kernel
theorem dX10_isTip_20 : decode cX10_isTip 20 = .ok (.iconst 0, 1) := by decide +kernel
theorem dX10_isTip_21 : decode cX10_isTip 21 = .ok (.ireturn, 1) := by decide +kernel
theorem dX10_isTip_22 : decode cX10_isTip 22 = .ok (.aload_n 0, 1) := by decide +kernel
theorem dX10_isTip_23 : decode cX10_isTip 23 = .ok (.aload_n 0, 1) := by decide +kernel
theorem dX10_isTip_24 : decode cX10_isTip 24 = .ok (.iload_n 1, 1) := by decide +kernel
theorem dX10_isTip_25 : decode cX10_isTip 25 = .ok (.invokevirtual 71, 3) := by decide +kernel
theorem dX10_isTip_28 : decode cX10_isTip 28 = .ok (.invokevirtual 82, 3) := by decide +kernel
theorem dX10_isTip_31 : decode cX10_isTip 31 = .ok (.ireturn, 1) := by decide +kernel
set_option maxHeartbeats 1000000 in
set_option maxRecDepth 20000 in
theorem m_isTip (l : Launch) (D : va_G) (aT : Nat → ClassId) (ad : Nat → Nat) (S : MSt) (x : Int32) (hF : FoW (S 0)) : MdI l yX10_isTip cX10_isTip 2 .boolean 4 88 D aT ad [.ref (ad 0), .int x] S (fun r S1 => (fnd (fun k => S 0 (29 + 4 * k)) x (nM (S 0)) = none ∧ r = nI 0 ∧ S1 = ss S 8 (nI 1)) ∨ (∃ q, fnd (fun k => S 0 (29 + 4 * k)) x (nM (S 0)) = some q ∧ r = bI (tipB (prM (S 0)) q (nM (S 0))) ∧ S1 = ss S 8 (nI 0))) := by
  refine MdI.of (by decide +kernel) rfl (Nat.le_of_ble_eq_true rfl) ?_
  intro p e s m below meth c A ls C hml hl hA hr hlocks hW
  have hl : lv_has ls 2 [(0, .ref (ad 0)), (1, .int x)] := hl
  have hx := C.1
  have hb := C.2.1
  refine lv_aload_n hx hb dX10_isTip_0 rfl (lv_at hl 0 rfl) ?_
  refine lv_iconst (v := nI 0) hx hb dX10_isTip_1 (by decide) ?_
  refine md_put_thrown C hW dX10_isTip_2 (fun H locs hW => ?_)
  refine lv_aload_n hx hb dX10_isTip_5 rfl (lv_at hl 0 rfl) ?_
  refine lv_iload_n hx hb dX10_isTip_6 rfl (lv_at hl 1 rfl) ?_
  refine md_callg C hml hl.1 (As := [.int x]) (rest := []) (m_find l D aT ad (ss S 8 (nI 0)) (x) (nM (S 0)) hF.1 hF.2.1) gT_find hd_find rfl ⟨Nat.le_of_ble_eq_true rfl, Nat.le_of_ble_eq_true rfl⟩ ⟨Nat.le_refl _, Nat.le_refl _⟩ hW hA rfl (Nat.le_of_ble_eq_true rfl) dX10_isTip_7 (fun r_7 H locs hq hW => ?_)
  subst hq
  refine lv_iconst (v := (-1)) hx hb dX10_isTip_10 (by decide) ?_
  refine r_oi_ne hx hb (o := (fnd (fun k => (ss S 8 (nI 0)) 0 (29 + 4 * k)) (x) (nM (S 0)))) (fun j hj => by have := (fnd_some hj).1; have := hF.n12; omega) (tgt := 22) dX10_isTip_11 (by decide) (fun j_11 c_11 => ?_) (fun c_11 => ?_)
  · have hq0 := (fnd_some c_11).1
    have h12 := hF.n12
    refine lv_aload_n hx hb dX10_isTip_22 rfl (lv_at hl 0 rfl) ?_
    refine lv_aload_n hx hb dX10_isTip_23 rfl (lv_at hl 0 rfl) ?_
    refine lv_iload_n hx hb dX10_isTip_24 rfl (lv_at hl 1 rfl) ?_
    refine md_callg C hml hl.1 (As := [.int x]) (rest := [.ref (ad 0)]) (m_find l D aT ad (ss S 8 (nI 0)) (x) (nM (S 0)) hF.1 hF.2.1) gT_find hd_find rfl ⟨Nat.le_of_ble_eq_true rfl, Nat.le_of_ble_eq_true rfl⟩ ⟨Nat.le_refl _, Nat.le_refl _⟩ hW hA rfl (Nat.le_of_ble_eq_true rfl) dX10_isTip_25 (fun r_25 H locs hq hW => ?_)
    subst hq
    refine r_eq (y := (nI j_11)) (by rw [c_11]; rfl) ?_
    refine md_callg C hml hl.1 (As := [.int (nI j_11)]) (rest := []) (m_isTipAt l D aT ad (ss S 8 (nI 0)) (nM (S 0)) (idM (S 0)) (prM (S 0)) (tnM (S 0)) hF j_11 (hq0)) gT_isTipAt hd_isTipAt rfl ⟨Nat.le_of_ble_eq_true rfl, Nat.le_of_ble_eq_true rfl⟩ ⟨Nat.le_refl _, Nat.le_refl _⟩ hW hA rfl (Nat.le_of_ble_eq_true rfl) dX10_isTip_28 (fun r_28 H locs hq hW => ?_)
    subst hq
    exact md_iret C hr hlocks (bI_nar _) hW (Or.inr ⟨j_11, c_11, rfl, rfl⟩) dX10_isTip_31
  · refine lv_aload_n hx hb dX10_isTip_14 rfl (lv_at hl 0 rfl) ?_
    refine lv_iconst (v := nI 1) hx hb dX10_isTip_15 (by decide) ?_
    refine md_calli C hml hl.1 (As := [.int (nI 1)]) (rest := []) (m_throwing l D aT ad (ss S 8 (nI 0)) 1) gT_throwing hd_throwing rfl ⟨Nat.le_of_ble_eq_true rfl, Nat.le_of_ble_eq_true rfl⟩ ⟨Nat.le_refl _, Nat.le_refl _⟩ hW hA rfl (Nat.le_of_ble_eq_true rfl) dX10_isTip_16 (fun r_16 S_16 H locs hq hW => ?_)
    obtain ⟨rfl, rfl⟩ := hq
    refine lv_pop hx hb dX10_isTip_19 rfl ?_
    refine lv_iconst (v := nI 0) hx hb dX10_isTip_20 (by decide) ?_
    exact md_iret C hr hlocks (by decide) hW (Or.inl ⟨c_11, rfl, ss_ss _ _ _ _⟩) dX10_isTip_21
theorem dX10_lastTip_0 : decode cX10_lastTip 0 = .ok (.aload_n 0, 1) := by decide +kernel
theorem dX10_lastTip_1 : decode cX10_lastTip 1 = .ok (.iconst 0, 1) := by decide +kernel
theorem dX10_lastTip_2 : decode cX10_lastTip 2 = .ok (.putfield 57, 3) := by decide +kernel
theorem dX10_lastTip_5 : decode cX10_lastTip 5 = .ok (.aload_n 0, 1) := by decide +kernel
theorem dX10_lastTip_6 : decode cX10_lastTip 6 = .ok (.iload_n 1, 1) := by decide +kernel
theorem dX10_lastTip_7 : decode cX10_lastTip 7 = .ok (.invokevirtual 71, 3) := by decide +kernel
theorem dX10_lastTip_10 : decode cX10_lastTip 10 = .ok (.istore_n 2, 1) := by decide +kernel
theorem dX10_lastTip_11 : decode cX10_lastTip 11 = .ok (.iload_n 2, 1) := by decide +kernel
theorem dX10_lastTip_12 : decode cX10_lastTip 12 = .ok (.iconst (-1), 1) := by decide +kernel
theorem dX10_lastTip_13 : decode cX10_lastTip 13 = .ok (.if_icmp .ne 11, 3) := by decide +kernel
theorem dX10_lastTip_16 : decode cX10_lastTip 16 = .ok (.aload_n 0, 1) := by decide +kernel
theorem dX10_lastTip_17 : decode cX10_lastTip 17 = .ok (.iconst 1, 1) := by decide +kernel
theorem dX10_lastTip_18 : decode cX10_lastTip 18 = .ok (.invokevirtual 101, 3) := by decide +kernel
theorem dX10_lastTip_21 : decode cX10_lastTip 21 = .ok (.goto 13, 3) := by decide +kernel
theorem dX10_lastTip_24 : decode cX10_lastTip 24 = .ok (.aload_n 0, 1) := by decide +kernel
theorem dX10_lastTip_25 : decode cX10_lastTip 25 = .ok (.aload_n 0, 1) := by decide +kernel
theorem dX10_lastTip_26 : decode cX10_lastTip 26 = .ok (.iload_n 2, 1) := by decide +kernel
theorem dX10_lastTip_27 : decode cX10_lastTip 27 = .ok (.invokevirtual 135, 3) := by decide +kernel
theorem dX10_lastTip_30 : decode cX10_lastTip 30 = .ok (.iconst 0, 1) := by decide +kernel
theorem dX10_lastTip_31 : decode cX10_lastTip 31 = .ok (.invokevirtual 67, 3) := by decide +kernel
theorem dX10_lastTip_34 : decode cX10_lastTip 34 = .ok (.ireturn, 1) := by decide +kernel
set_option maxHeartbeats 1000000 in
set_option maxRecDepth 20000 in
theorem m_lastTip (l : Launch) (D : va_G) (aT : Nat → ClassId) (ad : Nat → Nat) (S : MSt) (x : Int32) (hF : FoW (S 0)) : MdI l yX10_lastTip cX10_lastTip 3 .int 5 111 D aT ad [.ref (ad 0), .int x] S (fun r S1 => (fnd (fun k => S 0 (29 + 4 * k)) x (nM (S 0)) = none ∧ r = -1 ∧ S1 = ss S 8 (nI 1)) ∨ (∃ q t, fnd (fun k => S 0 (29 + 4 * k)) x (nM (S 0)) = some q ∧ ltp (prM (S 0)) (nM (S 0)) q (nM (S 0)) = some t ∧ r = S 0 (29 + 4 * t) ∧ S1 = ss S 8 (nI 0))) := by
  refine MdI.of (by decide +kernel) rfl (Nat.le_of_ble_eq_true rfl) ?_
  intro p e s m below meth c A ls C hml hl hA hr hlocks hW
  have hl : lv_has ls 3 [(0, .ref (ad 0)), (1, .int x)] := hl
  have hx := C.1
  have hb := C.2.1
  refine lv_aload_n hx hb dX10_lastTip_0 rfl (lv_at hl 0 rfl) ?_
  refine lv_iconst (v := nI 0) hx hb dX10_lastTip_1 (by decide) ?_
  refine md_put_thrown C hW dX10_lastTip_2 (fun H locs hW => ?_)
  refine lv_aload_n hx hb dX10_lastTip_5 rfl (lv_at hl 0 rfl) ?_
  refine lv_iload_n hx hb dX10_lastTip_6 rfl (lv_at hl 1 rfl) ?_
  refine md_callg C hml hl.1 (As := [.int x]) (rest := []) (m_find l D aT ad (ss S 8 (nI 0)) (x) (nM (S 0)) hF.1 hF.2.1) gT_find hd_find rfl ⟨Nat.le_of_ble_eq_true rfl, Nat.le_of_ble_eq_true rfl⟩ ⟨Nat.le_refl _, Nat.le_refl _⟩ hW hA rfl (Nat.le_of_ble_eq_true rfl) dX10_lastTip_7 (fun r_7 H locs hq hW => ?_)
  subst hq
  refine lv_istore_n (lv' := [(2, .int (oi (fnd (fun k => (ss S 8 (nI 0)) 0 (29 + 4 * k)) (x) (nM (S 0))))), (0, .ref (ad 0)), (1, .int x)]) hx hb dX10_lastTip_10 rfl hl (by decide) rfl (fun ls hl => ?_)
  refine lv_iload_n hx hb dX10_lastTip_11 rfl (lv_at hl 0 rfl) ?_
  refine lv_iconst (v := (-1)) hx hb dX10_lastTip_12 (by decide) ?_
  refine r_oi_ne hx hb (o := (fnd (fun k => (ss S 8 (nI 0)) 0 (29 + 4 * k)) (x) (nM (S 0)))) (fun j hj => by have := (fnd_some hj).1; have := hF.n12; omega) (tgt := 24) dX10_lastTip_13 (by decide) (fun j_13 c_13 => ?_) (fun c_13 => ?_)
  · have hl : lv_has ls 3 [(2, .int (nI j_13)), (0, .ref (ad 0)), (1, .int x)] := by rw [c_13] at hl; exact hl
    have hq0 := (fnd_some c_13).1
    have h12 := hF.n12
    refine lv_aload_n hx hb dX10_lastTip_24 rfl (lv_at hl 1 rfl) ?_
    refine lv_aload_n hx hb dX10_lastTip_25 rfl (lv_at hl 1 rfl) ?_
    refine lv_iload_n hx hb dX10_lastTip_26 rfl (lv_at hl 0 rfl) ?_
    obtain ⟨t, ht, htn⟩ := ltp_ex hF.ok hq0
    refine md_callg C hml hl.1 (As := [.int (nI j_13)]) (rest := [.ref (ad 0)]) (m_lastTipAt l D aT ad (ss S 8 (nI 0)) (nM (S 0)) (idM (S 0)) (prM (S 0)) (tnM (S 0)) hF j_13 (hq0)) gT_lastTipAt hd_lastTipAt rfl ⟨Nat.le_of_ble_eq_true rfl, Nat.le_of_ble_eq_true rfl⟩ ⟨Nat.le_refl _, Nat.le_refl _⟩ hW hA rfl (Nat.le_of_ble_eq_true rfl) dX10_lastTip_27 (fun r_27 H locs hq hW => ?_)
    subst hq
    refine r_eq (y := (nI t)) (by rw [ht]; rfl) ?_
    refine lv_iconst (v := nI 0) hx hb dX10_lastTip_30 (by decide) ?_
    refine md_callg C hml hl.1 (As := [.int (nI t), .int (nI 0)]) (rest := []) (m_of l D aT ad (ss S 8 (nI 0)) t 0 (by omega)) gT_of hd_of rfl ⟨Nat.le_of_ble_eq_true rfl, Nat.le_of_ble_eq_true rfl⟩ ⟨Nat.le_refl _, Nat.le_refl _⟩ hW hA rfl (Nat.le_of_ble_eq_true rfl) dX10_lastTip_31 (fun r_31 H locs hq hW => ?_)
    subst hq
    exact md_iret C hr hlocks rfl hW (Or.inr ⟨j_13, t, c_13, ht, rfl, rfl⟩) dX10_lastTip_34
  · have hl : lv_has ls 3 [(2, .int (-1)), (0, .ref (ad 0)), (1, .int x)] := by rw [c_13] at hl; exact hl
    refine lv_aload_n hx hb dX10_lastTip_16 rfl (lv_at hl 1 rfl) ?_
    refine lv_iconst (v := nI 1) hx hb dX10_lastTip_17 (by decide) ?_
    refine md_calli C hml hl.1 (As := [.int (nI 1)]) (rest := []) (m_throwing l D aT ad (ss S 8 (nI 0)) 1) gT_throwing hd_throwing rfl ⟨Nat.le_of_ble_eq_true rfl, Nat.le_of_ble_eq_true rfl⟩ ⟨Nat.le_refl _, Nat.le_refl _⟩ hW hA rfl (Nat.le_of_ble_eq_true rfl) dX10_lastTip_18 (fun r_18 S_18 H locs hq hW => ?_)
    obtain ⟨rfl, rfl⟩ := hq
    refine lv_goto (tgt := 34) hx hb dX10_lastTip_21 (by decide) ?_
    exact md_iret C hr hlocks rfl hW (Or.inl ⟨c_13, rfl, ss_ss _ _ _ _⟩) dX10_lastTip_34
theorem dX10_branchSize_0 : decode cX10_branchSize 0 = .ok (.aload_n 0, 1) := by decide +kernel
theorem dX10_branchSize_1 : decode cX10_branchSize 1 = .ok (.iconst 0, 1) := by decide +kernel
theorem dX10_branchSize_2 : decode cX10_branchSize 2 = .ok (.putfield 57, 3) := by decide +kernel
theorem dX10_branchSize_5 : decode cX10_branchSize 5 = .ok (.aload_n 0, 1) := by decide +kernel
theorem dX10_branchSize_6 : decode cX10_branchSize 6 = .ok (.iload_n 1, 1) := by decide +kernel
theorem dX10_branchSize_7 : decode cX10_branchSize 7 = .ok (.invokevirtual 71, 3) := by decide +kernel
theorem dX10_branchSize_10 : decode cX10_branchSize 10 = .ok (.istore_n 2, 1) := by decide +kernel
theorem dX10_branchSize_11 : decode cX10_branchSize 11 = .ok (.iload_n 2, 1) := by decide +kernel
theorem dX10_branchSize_12 : decode cX10_branchSize 12 = .ok (.iconst (-1), 1) := by decide +kernel
theorem dX10_branchSize_13 : decode cX10_branchSize 13 = .ok (.if_icmp .ne 9, 3) := by decide +kernel
theorem dX10_branchSize_16 : decode cX10_branchSize 16 = .ok (.aload_n 0, 1) := by decide +kernel
theorem dX10_branchSize_17 : decode cX10_branchSize 17 = .ok (.iconst 1, 1) := by decide +kernel
theorem dX10_branchSize_18 : decode cX10_branchSize 18 = .ok (.invokevirtual 101, 3) := by decide +kernel
theorem dX10_branchSize_21 : decode cX10_branchSize 21 = .ok (.ireturn, 1) := by decide +kernel
theorem dX10_branchSize_22 : decode cX10_branchSize 22 = .ok (.iconst 0, 1) := by decide +kernel
theorem dX10_branchSize_23 : decode cX10_branchSize 23 = .ok (.istore_n 3, 1) := by decide +kernel
theorem dX10_branchSize_24 : decode cX10_branchSize 24 = .ok (.iconst 0, 1) := by decide +kernel
theorem dX10_branchSize_25 : decode cX10_branchSize 25 = .ok (.istore 4, 2) := by decide +kernel
theorem dX10_branchSize_27 : decode cX10_branchSize 27 = .ok (.iload 4, 2) := by decide +kernel
theorem dX10_branchSize_29 : decode cX10_branchSize 29 = .ok (.aload_n 0, 1) := by decide +kernel
theorem dX10_branchSize_30 : decode cX10_branchSize 30 = .ok (.getfield 9, 3) := by decide +kernel
theorem dX10_branchSize_33 : decode cX10_branchSize 33 = .ok (.iconst 2, 1) := by decide +kernel
theorem dX10_branchSize_34 : decode cX10_branchSize 34 = .ok (.iaload, 1) := by decide +kernel
theorem dX10_branchSize_35 : decode cX10_branchSize 35 = .ok (.if_icmp .ge 27, 3) := by decide +kernel
theorem dX10_branchSize_38 : decode cX10_branchSize 38 = .ok (.iload_n 3, 1) := by decide +kernel
theorem dX10_branchSize_39 : decode cX10_branchSize 39 = .ok (.aload_n 0, 1) := by decide +kernel
theorem dX10_branchSize_40 : decode cX10_branchSize 40 = .ok (.iload 4, 2) := by decide +kernel
theorem dX10_branchSize_42 : decode cX10_branchSize 42 = .ok (.iload_n 2, 1) := by decide +kernel
theorem dX10_branchSize_43 : decode cX10_branchSize 43 = .ok (.invokevirtual 78, 3) := by decide +kernel
theorem dX10_branchSize_46 : decode cX10_branchSize 46 = .ok (.ifCond .eq 7, 3) := by decide +kernel
theorem dX10_branchSize_49 : decode cX10_branchSize 49 = .ok (.iconst 1, 1) := by decide +kernel
theorem dX10_branchSize_50 : decode cX10_branchSize 50 = .ok (.goto 4, 3) := by decide +kernel
theorem dX10_branchSize_53 : decode cX10_branchSize 53 = .ok (.iconst 0, 1) := by decide +kernel
theorem dX10_branchSize_54 : decode cX10_branchSize 54 = .ok (.iadd, 1) := by decide +kernel
theorem dX10_branchSize_55 : decode cX10_branchSize 55 = .ok (.istore_n 3, 1) := by decide +kernel
theorem dX10_branchSize_56 : decode cX10_branchSize 56 = .ok (.iinc 4 1, 3) := by decide +kernel
theorem dX10_branchSize_59 : decode cX10_branchSize 59 = .ok (.goto (-32), 3) := by decide +kernel
theorem dX10_branchSize_62 : decode cX10_branchSize 62 = .ok (.iload_n 3, 1) := by decide +kernel
theorem dX10_branchSize_63 : decode cX10_branchSize 63 = .ok (.ireturn, 1) := by decide +kernel
set_option maxHeartbeats 1000000 in
set_option maxRecDepth 20000 in
theorem m_branchSize (l : Launch) (D : va_G) (aT : Nat → ClassId) (ad : Nat → Nat) (S : MSt) (x : Int32) (hF : FoW (S 0)) : MdI l yX10_branchSize cX10_branchSize 5 .int 4 88 D aT ad [.ref (ad 0), .int x] S (fun r S1 => (fnd (fun k => S 0 (29 + 4 * k)) x (nM (S 0)) = none ∧ r = -1 ∧ S1 = ss S 8 (nI 1)) ∨ (∃ q, fnd (fun k => S 0 (29 + 4 * k)) x (nM (S 0)) = some q ∧ r = nI (brs (prM (S 0)) q (nM (S 0))) ∧ S1 = ss S 8 (nI 0))) := by
  refine MdI.of (by decide +kernel) rfl (Nat.le_of_ble_eq_true rfl) ?_
  intro p e s m below meth c A ls C hml hl hA hr hlocks hW
  have hl : lv_has ls 5 [(0, .ref (ad 0)), (1, .int x)] := hl
  have hx := C.1
  have hb := C.2.1
  refine lv_aload_n hx hb dX10_branchSize_0 rfl (lv_at hl 0 rfl) ?_
  refine lv_iconst (v := nI 0) hx hb dX10_branchSize_1 (by decide) ?_
  refine md_put_thrown C hW dX10_branchSize_2 (fun H locs hW => ?_)
  refine lv_aload_n hx hb dX10_branchSize_5 rfl (lv_at hl 0 rfl) ?_
  refine lv_iload_n hx hb dX10_branchSize_6 rfl (lv_at hl 1 rfl) ?_
  refine md_callg C hml hl.1 (As := [.int x]) (rest := []) (m_find l D aT ad (ss S 8 (nI 0)) (x) (nM (S 0)) hF.1 hF.2.1) gT_find hd_find rfl ⟨Nat.le_of_ble_eq_true rfl, Nat.le_of_ble_eq_true rfl⟩ ⟨Nat.le_refl _, Nat.le_refl _⟩ hW hA rfl (Nat.le_of_ble_eq_true rfl) dX10_branchSize_7 (fun r_7 H locs hq hW => ?_)
  subst hq
  refine lv_istore_n (lv' := [(2, .int (oi (fnd (fun k => (ss S 8 (nI 0)) 0 (29 + 4 * k)) (x) (nM (S 0))))), (0, .ref (ad 0)), (1, .int x)]) hx hb dX10_branchSize_10 rfl hl (by decide) rfl (fun ls hl => ?_)
  refine lv_iload_n hx hb dX10_branchSize_11 rfl (lv_at hl 0 rfl) ?_
  refine lv_iconst (v := (-1)) hx hb dX10_branchSize_12 (by decide) ?_
  refine r_oi_ne hx hb (o := (fnd (fun k => (ss S 8 (nI 0)) 0 (29 + 4 * k)) (x) (nM (S 0)))) (fun j hj => by have := (fnd_some hj).1; have := hF.n12; omega) (tgt := 22) dX10_branchSize_13 (by decide) (fun j_13 c_13 => ?_) (fun c_13 => ?_)
  · have hl : lv_has ls 5 [(2, .int (nI j_13)), (0, .ref (ad 0)), (1, .int x)] := by rw [c_13] at hl; exact hl
    have hq0 := (fnd_some c_13).1
    have h12 := hF.n12
    refine lv_iconst (v := nI 0) hx hb dX10_branchSize_22 (by decide) ?_
    refine lv_istore_n (lv' := [(3, .int (nI 0)), (2, .int (nI j_13)), (0, .ref (ad 0)), (1, .int x)]) hx hb dX10_branchSize_23 rfl hl (by decide) rfl (fun ls hl => ?_)
    refine lv_iconst (v := nI 0) hx hb dX10_branchSize_24 (by decide) ?_
    refine lv_istore (lv' := [(4, .int (nI 0)), (3, .int (nI 0)), (2, .int (nI j_13)), (0, .ref (ad 0)), (1, .int x)]) hx hb dX10_branchSize_25 hl (by decide) rfl (fun ls hl => ?_)
    refine W_loopH (σ := Nat × Nat) (fun z_ => nM (S 0) - z_.2) (fun z_ H locs g => ∃ ls, g = F0 m 27 ls [] ∧ lv_has ls 5 [(0, .ref (ad 0)), (2, .int (nI j_13)), (3, .int (nI z_.1)), (4, .int (nI z_.2))] ∧ MdB D aT ad (ss S 8 (nI 0)) A s.heap H locs ∧ (z_.1 = brs (prM (S 0)) j_13 z_.2 ∧ z_.2 ≤ nM (S 0))) ?_ (0, 0) _ ⟨_, rfl, lv_sub hl [3, 2, 1, 0] rfl, hW, ⟨rfl, Nat.zero_le _⟩⟩
    clear hW hl
    rintro ⟨a, i⟩ H locs g ⟨ls, rfl, hl, hW, ha, hin⟩ ih_27
    dsimp only at hl hW ha hin ⊢
    refine lv_iload hx hb dX10_branchSize_27 (lv_at hl 3 rfl) ?_
    refine lv_aload_n hx hb dX10_branchSize_29 rfl (lv_at hl 0 rfl) ?_
    refine md_geta_m C hW dX10_branchSize_30 ?_
    refine lv_iconst (v := nI 2) hx hb dX10_branchSize_33 (by decide) ?_
    refine md_ald_m C hW (i := 2) (by omega) dX10_branchSize_34 ?_
    refine r_eq (y := (nI (nM (S 0)))) (hF.1) ?_
    refine r_geN hx hb (a := i) (b := (nM (S 0))) (by omega) (by omega) (tgt := 62) dX10_branchSize_35 (by decide) (fun c_35 => ?_) (fun c_35 => ?_)
    · refine lv_iload_n hx hb dX10_branchSize_62 rfl (lv_at hl 2 rfl) ?_
      exact md_iret C hr hlocks rfl hW (Or.inr ⟨j_13, c_13, by rw [ha, show nM (S 0) = i by omega], rfl⟩) dX10_branchSize_63
    · refine lv_iload_n hx hb dX10_branchSize_38 rfl (lv_at hl 2 rfl) ?_
      refine lv_aload_n hx hb dX10_branchSize_39 rfl (lv_at hl 0 rfl) ?_
      refine lv_iload hx hb dX10_branchSize_40 (lv_at hl 3 rfl) ?_
      refine lv_iload_n hx hb dX10_branchSize_42 rfl (lv_at hl 1 rfl) ?_
      refine md_callg C hml hl.1 (As := [.int (nI i), .int (nI j_13)]) (rest := [.int (nI a)]) (m_isIn l D aT ad (ss S 8 (nI 0)) (nM (S 0)) (idM (S 0)) (prM (S 0)) (tnM (S 0)) hF i j_13 (by omega) (hq0)) gT_isIn hd_isIn rfl ⟨Nat.le_of_ble_eq_true rfl, Nat.le_of_ble_eq_true rfl⟩ ⟨Nat.le_refl _, Nat.le_refl _⟩ hW hA rfl (Nat.le_of_ble_eq_true rfl) dX10_branchSize_43 (fun r_43 H locs hq hW => ?_)
      subst hq
      refine r_bI_eq hx hb (b := (anc (prM (S 0)) j_13 i)) (tgt := 53) dX10_branchSize_46 (by decide) (fun c_46 => ?_) (fun c_46 => ?_)
      · refine lv_iconst (v := nI 0) hx hb dX10_branchSize_53 (by decide) ?_
        refine r_iaddN hx hb (a := a) (b := 0) dX10_branchSize_54 ?_
        refine lv_istore_n (lv' := [(3, .int (nI (a + 0))), (0, .ref (ad 0)), (2, .int (nI j_13)), (4, .int (nI i))]) hx hb dX10_branchSize_55 rfl hl (by decide) rfl (fun ls hl => ?_)
        refine lv_iinc (v := (nI (i + 1))) (lv' := [(4, .int (nI (i + 1))), (3, .int (nI (a + 0))), (0, .ref (ad 0)), (2, .int (nI j_13))]) hx hb dX10_branchSize_56 hl (k := 3) rfl (nI_1 _) (by decide) rfl (fun ls hl => ?_)
        refine lv_goto (tgt := 27) hx hb dX10_branchSize_59 (by decide) ?_
        exact ih_27 (a + 0, (i + 1)) _ _ _ (by dsimp only; omega) ⟨_, rfl, lv_sub hl [2, 3, 1, 0] rfl, hW, ⟨by rw [brs, c_46, ← ha]; rfl, by (try dsimp only); omega⟩⟩
      · refine lv_iconst (v := nI 1) hx hb dX10_branchSize_49 (by decide) ?_
        refine lv_goto (tgt := 54) hx hb dX10_branchSize_50 (by decide) ?_
        refine r_iaddN hx hb (a := a) (b := 1) dX10_branchSize_54 ?_
        refine lv_istore_n (lv' := [(3, .int (nI (a + 1))), (0, .ref (ad 0)), (2, .int (nI j_13)), (4, .int (nI i))]) hx hb dX10_branchSize_55 rfl hl (by decide) rfl (fun ls hl => ?_)
        refine lv_iinc (v := (nI (i + 1))) (lv' := [(4, .int (nI (i + 1))), (3, .int (nI (a + 1))), (0, .ref (ad 0)), (2, .int (nI j_13))]) hx hb dX10_branchSize_56 hl (k := 3) rfl (nI_1 _) (by decide) rfl (fun ls hl => ?_)
        refine lv_goto (tgt := 27) hx hb dX10_branchSize_59 (by decide) ?_
        exact ih_27 (a + 1, (i + 1)) _ _ _ (by dsimp only; omega) ⟨_, rfl, lv_sub hl [2, 3, 1, 0] rfl, hW, ⟨by rw [brs, c_46, ← ha]; rfl, by (try dsimp only); omega⟩⟩
  · have hl : lv_has ls 5 [(2, .int (-1)), (0, .ref (ad 0)), (1, .int x)] := by rw [c_13] at hl; exact hl
    refine lv_aload_n hx hb dX10_branchSize_16 rfl (lv_at hl 1 rfl) ?_
    refine lv_iconst (v := nI 1) hx hb dX10_branchSize_17 (by decide) ?_
    refine md_calli C hml hl.1 (As := [.int (nI 1)]) (rest := []) (m_throwing l D aT ad (ss S 8 (nI 0)) 1) gT_throwing hd_throwing rfl ⟨Nat.le_of_ble_eq_true rfl, Nat.le_of_ble_eq_true rfl⟩ ⟨Nat.le_refl _, Nat.le_refl _⟩ hW hA rfl (Nat.le_of_ble_eq_true rfl) dX10_branchSize_18 (fun r_18 S_18 H locs hq hW => ?_)
    obtain ⟨rfl, rfl⟩ := hq
    exact md_iret C hr hlocks rfl hW (Or.inl ⟨c_13, rfl, ss_ss _ _ _ _⟩) dX10_branchSize_21
theorem dX10_season_0 : decode cX10_season 0 = .ok (.aload_n 0, 1) := by decide +kernel
theorem dX10_season_1 : decode cX10_season 1 = .ok (.iconst 0, 1) := by decide +kernel
theorem dX10_season_2 : decode cX10_season 2 = .ok (.putfield 57, 3) := by decide +kernel
theorem dX10_season_5 : decode cX10_season 5 = .ok (.aload_n 0, 1) := by decide +kernel
theorem dX10_season_6 : decode cX10_season 6 = .ok (.getfield 9, 3) := by decide +kernel
theorem dX10_season_9 : decode cX10_season 9 = .ok (.iconst 3, 1) := by decide +kernel
theorem dX10_season_10 : decode cX10_season 10 = .ok (.iaload, 1) := by decide +kernel
theorem dX10_season_11 : decode cX10_season 11 = .ok (.ireturn, 1) := by decide +kernel
set_option maxHeartbeats 1000000 in
set_option maxRecDepth 20000 in
theorem m_season (l : Launch) (D : va_G) (aT : Nat → ClassId) (ad : Nat → Nat) (S : MSt) : MdI l yX10_season cX10_season 1 .int 0 0 D aT ad [.ref (ad 0)] S (fun r S1 => r = S 0 3 ∧ S1 = ss S 8 (nI 0)) := by
  refine MdI.of (by decide +kernel) rfl (Nat.le_of_ble_eq_true rfl) ?_
  intro p e s m below meth c A ls C hml hl hA hr hlocks hW
  have hl : lv_has ls 1 [(0, .ref (ad 0))] := hl
  have hx := C.1
  have hb := C.2.1
  refine lv_aload_n hx hb dX10_season_0 rfl (lv_at hl 0 rfl) ?_
  refine lv_iconst (v := nI 0) hx hb dX10_season_1 (by decide) ?_
  refine md_put_thrown C hW dX10_season_2 (fun H locs hW => ?_)
  refine lv_aload_n hx hb dX10_season_5 rfl (lv_at hl 0 rfl) ?_
  refine md_geta_m C hW dX10_season_6 ?_
  refine lv_iconst (v := nI 3) hx hb dX10_season_9 (by decide) ?_
  refine md_ald_m C hW (i := 3) (by omega) dX10_season_10 ?_
  refine r_eq (y := (S 0 3)) (rfl) ?_
  exact md_iret C hr hlocks rfl hW (⟨rfl, rfl⟩) dX10_season_11
theorem dX10_adoptedWeight_0 : decode cX10_adoptedWeight 0 = .ok (.aload_n 0, 1) := by decide +kernel
theorem dX10_adoptedWeight_1 : decode cX10_adoptedWeight 1 = .ok (.iconst 0, 1) := by decide +kernel
theorem dX10_adoptedWeight_2 : decode cX10_adoptedWeight 2 = .ok (.putfield 57, 3) := by decide +kernel
theorem dX10_adoptedWeight_5 : decode cX10_adoptedWeight 5 = .ok (.aload_n 0, 1) := by decide +kernel
theorem dX10_adoptedWeight_6 : decode cX10_adoptedWeight 6 = .ok (.getfield 9, 3) := by decide +kernel
theorem dX10_adoptedWeight_9 : decode cX10_adoptedWeight 9 = .ok (.bipush 8, 2) := by decide +kernel
theorem dX10_adoptedWeight_11 : decode cX10_adoptedWeight 11 = .ok (.iaload, 1) := by decide +kernel
theorem dX10_adoptedWeight_12 : decode cX10_adoptedWeight 12 = .ok (.ireturn, 1) := by decide +kernel
set_option maxHeartbeats 1000000 in
set_option maxRecDepth 20000 in
theorem m_adoptedWeight (l : Launch) (D : va_G) (aT : Nat → ClassId) (ad : Nat → Nat) (S : MSt) : MdI l yX10_adoptedWeight cX10_adoptedWeight 1 .int 0 0 D aT ad [.ref (ad 0)] S (fun r S1 => r = S 0 8 ∧ S1 = ss S 8 (nI 0)) := by
  refine MdI.of (by decide +kernel) rfl (Nat.le_of_ble_eq_true rfl) ?_
  intro p e s m below meth c A ls C hml hl hA hr hlocks hW
  have hl : lv_has ls 1 [(0, .ref (ad 0))] := hl
  have hx := C.1
  have hb := C.2.1
  refine lv_aload_n hx hb dX10_adoptedWeight_0 rfl (lv_at hl 0 rfl) ?_
  refine lv_iconst (v := nI 0) hx hb dX10_adoptedWeight_1 (by decide) ?_
  refine md_put_thrown C hW dX10_adoptedWeight_2 (fun H locs hW => ?_)
  refine lv_aload_n hx hb dX10_adoptedWeight_5 rfl (lv_at hl 0 rfl) ?_
  refine md_geta_m C hW dX10_adoptedWeight_6 ?_
  refine lv_bipush (v := nI 8) hx hb dX10_adoptedWeight_9 (by decide) ?_
  refine md_ald_m C hW (i := 8) (by omega) dX10_adoptedWeight_11 ?_
  refine r_eq (y := (S 0 8)) (rfl) ?_
  exact md_iret C hr hlocks rfl hW (⟨rfl, rfl⟩) dX10_adoptedWeight_12
theorem dX10_isConsistent_0 : decode cX10_isConsistent 0 = .ok (.aload_n 0, 1) := by decide +kernel
theorem dX10_isConsistent_1 : decode cX10_isConsistent 1 = .ok (.iconst 0, 1) := by decide +kernel
theorem dX10_isConsistent_2 : decode cX10_isConsistent 2 = .ok (.putfield 57, 3) := by decide +kernel
theorem dX10_isConsistent_5 : decode cX10_isConsistent 5 = .ok (.iconst 1, 1) := by decide +kernel
theorem dX10_isConsistent_6 : decode cX10_isConsistent 6 = .ok (.ireturn, 1) := by decide +kernel
set_option maxHeartbeats 1000000 in
set_option maxRecDepth 20000 in
theorem m_isConsistent (l : Launch) (D : va_G) (aT : Nat → ClassId) (ad : Nat → Nat) (S : MSt) : MdI l yX10_isConsistent cX10_isConsistent 1 .boolean 0 0 D aT ad [.ref (ad 0)] S (fun r S1 => r = nI 1 ∧ S1 = ss S 8 (nI 0)) := by
  refine MdI.of (by decide +kernel) rfl (Nat.le_of_ble_eq_true rfl) ?_
  intro p e s m below meth c A ls C hml hl hA hr hlocks hW
  have hl : lv_has ls 1 [(0, .ref (ad 0))] := hl
  have hx := C.1
  have hb := C.2.1
  refine lv_aload_n hx hb dX10_isConsistent_0 rfl (lv_at hl 0 rfl) ?_
  refine lv_iconst (v := nI 0) hx hb dX10_isConsistent_1 (by decide) ?_
  refine md_put_thrown C hW dX10_isConsistent_2 (fun H locs hW => ?_)
  refine lv_iconst (v := nI 1) hx hb dX10_isConsistent_5 (by decide) ?_
  exact md_iret C hr hlocks (by decide) hW (⟨rfl, rfl⟩) dX10_isConsistent_6
theorem dX10_minutesIn_0 : decode cX10_minutesIn 0 = .ok (.aload_n 0, 1) := by decide +kernel
theorem dX10_minutesIn_1 : decode cX10_minutesIn 1 = .ok (.iconst 0, 1) := by decide +kernel
theorem dX10_minutesIn_2 : decode cX10_minutesIn 2 = .ok (.putfield 57, 3) := by decide +kernel
theorem dX10_minutesIn_5 : decode cX10_minutesIn 5 = .ok (.iload_n 1, 1) := by decide +kernel
theorem dX10_minutesIn_6 : decode cX10_minutesIn 6 = .ok (.i2l, 1) := by decide +kernel
theorem dX10_minutesIn_7 : decode cX10_minutesIn 7 = .ok (.lconst 0, 1) := by decide +kernel
theorem dX10_minutesIn_8 : decode cX10_minutesIn 8 = .ok (.ldc2_w 202, 3) := by decide +kernel
theorem dX10_minutesIn_11 : decode cX10_minutesIn 11 = .ok (.invokestatic 63, 3) := by decide +kernel
theorem dX10_minutesIn_14 : decode cX10_minutesIn 14 = .ok (.ifCond .eq 14, 3) := by decide +kernel
theorem dX10_minutesIn_17 : decode cX10_minutesIn 17 = .ok (.aload_n 0, 1) := by decide +kernel
theorem dX10_minutesIn_18 : decode cX10_minutesIn 18 = .ok (.getfield 9, 3) := by decide +kernel
theorem dX10_minutesIn_21 : decode cX10_minutesIn 21 = .ok (.iconst 4, 1) := by decide +kernel
theorem dX10_minutesIn_22 : decode cX10_minutesIn 22 = .ok (.iload_n 1, 1) := by decide +kernel
theorem dX10_minutesIn_23 : decode cX10_minutesIn 23 = .ok (.iadd, 1) := by decide +kernel
theorem dX10_minutesIn_24 : decode cX10_minutesIn 24 = .ok (.iaload, 1) := by decide +kernel
theorem dX10_minutesIn_25 : decode cX10_minutesIn 25 = .ok (.goto 8, 3) := by decide +kernel
theorem dX10_minutesIn_28 : decode cX10_minutesIn 28 = .ok (.aload_n 0, 1) := by decide +kernel
theorem dX10_minutesIn_29 : decode cX10_minutesIn 29 = .ok (.iconst 1, 1) := by decide +kernel
theorem dX10_minutesIn_30 : decode cX10_minutesIn 30 = .ok (.invokevirtual 101, 3) := by decide +kernel
theorem dX10_minutesIn_33 : decode cX10_minutesIn 33 = .ok (.ireturn, 1) := by decide +kernel
set_option maxHeartbeats 1000000 in
set_option maxRecDepth 20000 in
theorem m_minutesIn (l : Launch) (D : va_G) (aT : Nat → ClassId) (ad : Nat → Nat) (S : MSt) (x : Int32) : MdI l yX10_minutesIn cX10_minutesIn 2 .int 1 25 D aT ad [.ref (ad 0), .int x] S (fun r S1 => (rgB 0 3 x = false ∧ r = -1 ∧ S1 = ss S 8 (nI 1)) ∨ (∃ v, v ≤ 3 ∧ x = nI v ∧ r = S 0 (4 + v) ∧ S1 = ss S 8 (nI 0))) := by
  refine MdI.of (by decide +kernel) rfl (Nat.le_of_ble_eq_true rfl) ?_
  intro p e s m below meth c A ls C hml hl hA hr hlocks hW
  have hl : lv_has ls 2 [(0, .ref (ad 0)), (1, .int x)] := hl
  have hx := C.1
  have hb := C.2.1
  refine lv_aload_n hx hb dX10_minutesIn_0 rfl (lv_at hl 0 rfl) ?_
  refine lv_iconst (v := nI 0) hx hb dX10_minutesIn_1 (by decide) ?_
  refine md_put_thrown C hW dX10_minutesIn_2 (fun H locs hW => ?_)
  refine lv_iload_n hx hb dX10_minutesIn_5 rfl (lv_at hl 1 rfl) ?_
  refine lv_i2l (v := (x).toInt64) hx hb dX10_minutesIn_6 rfl ?_
  refine lv_lconst (v := 0) hx hb dX10_minutesIn_7 (by decide) ?_
  refine lv_ldc2 hx hb C.2.2.2.1 (C.2.2.1 _ gw_1975) dX10_minutesIn_8 ?_
  refine md_calls C hml hl.1 (As := [.long ((x).toInt64), .long 0, .long 3]) (rest := []) (m_in l ((x).toInt64) 0 3) gT_in hd_in rfl ⟨Nat.le_of_ble_eq_true rfl, Nat.le_of_ble_eq_true rfl⟩ ⟨Nat.le_refl _, Nat.le_refl _⟩ rfl (Nat.le_of_ble_eq_true rfl) dX10_minutesIn_11 (fun r_11 hq => ?_)
  subst hq
  refine r_bI_eq hx hb (b := (rgB 0 3 x)) (tgt := 28) dX10_minutesIn_14 (by decide) (fun c_14 => ?_) (fun c_14 => ?_)
  · refine lv_aload_n hx hb dX10_minutesIn_28 rfl (lv_at hl 0 rfl) ?_
    refine lv_iconst (v := nI 1) hx hb dX10_minutesIn_29 (by decide) ?_
    refine md_calli C hml hl.1 (As := [.int (nI 1)]) (rest := []) (m_throwing l D aT ad (ss S 8 (nI 0)) 1) gT_throwing hd_throwing rfl ⟨Nat.le_of_ble_eq_true rfl, Nat.le_of_ble_eq_true rfl⟩ ⟨Nat.le_refl _, Nat.le_refl _⟩ hW hA rfl (Nat.le_of_ble_eq_true rfl) dX10_minutesIn_30 (fun r_30 S_30 H locs hq hW => ?_)
    obtain ⟨rfl, rfl⟩ := hq
    exact md_iret C hr hlocks rfl hW (Or.inl ⟨c_14, rfl, ss_ss _ _ _ _⟩) dX10_minutesIn_33
  · obtain ⟨v, rfl, hv3, -⟩ := rg_nat c_14 (Or.inl (by decide)) (by decide)
    have hv3 : v ≤ 3 := by have : (3 : Int64).toInt = 3 := by decide
                           omega
    refine lv_aload_n hx hb dX10_minutesIn_17 rfl (lv_at hl 0 rfl) ?_
    refine md_geta_m C hW dX10_minutesIn_18 ?_
    refine lv_iconst (v := nI 4) hx hb dX10_minutesIn_21 (by decide) ?_
    refine lv_iload_n hx hb dX10_minutesIn_22 rfl (lv_at hl 1 rfl) ?_
    refine r_iaddN hx hb (a := 4) (b := v) dX10_minutesIn_23 ?_
    refine md_ald_m C hW (i := 4 + v) (by omega) dX10_minutesIn_24 ?_
    refine r_eq (y := (S 0 (4 + v))) (rfl) ?_
    refine lv_goto (tgt := 33) hx hb dX10_minutesIn_25 (by decide) ?_
    exact md_iret C hr hlocks rfl hW (Or.inr ⟨v, hv3, rfl, rfl, rfl⟩) dX10_minutesIn_33
theorem gT_weightTotal : GoodIn gw (wsV RX10 204 RX10 yX10_weightTotal (Cond.code yX10_weightTotal cX10_weightTotal 3 (some .int) :: gw)) := gdV gw_1988 gw_1981 gw_1982 gw_81 gw_1983
theorem hd_weightTotal : yX10_weightTotal.cls = RX10 ∧ yX10_weightTotal.cls ≠ "java/lang/invoke/MethodHandle" ∧ yX10_weightTotal.cls ≠ "java/lang/invoke/VarHandle" ∧ (parseMethodDescriptor yX10_weightTotal.desc).map (fun d => d.parameters.length) = some 0 := ⟨rfl, by decide +kernel, by decide +kernel, by decide +kernel⟩
theorem dX10_weightTotal_0 : decode cX10_weightTotal 0 = .ok (.aload_n 0, 1) := by decide +kernel
theorem dX10_weightTotal_1 : decode cX10_weightTotal 1 = .ok (.iconst 0, 1) := by decide +kernel
theorem dX10_weightTotal_2 : decode cX10_weightTotal 2 = .ok (.putfield 57, 3) := by decide +kernel
theorem dX10_weightTotal_5 : decode cX10_weightTotal 5 = .ok (.iconst 0, 1) := by decide +kernel
theorem dX10_weightTotal_6 : decode cX10_weightTotal 6 = .ok (.istore_n 1, 1) := by decide +kernel
theorem dX10_weightTotal_7 : decode cX10_weightTotal 7 = .ok (.iconst 0, 1) := by decide +kernel
theorem dX10_weightTotal_8 : decode cX10_weightTotal 8 = .ok (.istore_n 2, 1) := by decide +kernel
theorem dX10_weightTotal_9 : decode cX10_weightTotal 9 = .ok (.iload_n 2, 1) := by decide +kernel
theorem dX10_weightTotal_10 : decode cX10_weightTotal 10 = .ok (.aload_n 0, 1) := by decide +kernel
theorem dX10_weightTotal_11 : decode cX10_weightTotal 11 = .ok (.getfield 9, 3) := by decide +kernel
theorem dX10_weightTotal_14 : decode cX10_weightTotal 14 = .ok (.iconst 2, 1) := by decide +kernel
theorem dX10_weightTotal_15 : decode cX10_weightTotal 15 = .ok (.iaload, 1) := by decide +kernel
theorem dX10_weightTotal_16 : decode cX10_weightTotal 16 = .ok (.if_icmp .ge 18, 3) := by decide +kernel
theorem dX10_weightTotal_19 : decode cX10_weightTotal 19 = .ok (.iload_n 1, 1) := by decide +kernel
theorem dX10_weightTotal_20 : decode cX10_weightTotal 20 = .ok (.aload_n 0, 1) := by decide +kernel
theorem dX10_weightTotal_21 : decode cX10_weightTotal 21 = .ok (.iload_n 2, 1) := by decide +kernel
theorem dX10_weightTotal_22 : decode cX10_weightTotal 22 = .ok (.iconst 3, 1) := by decide +kernel
theorem dX10_weightTotal_23 : decode cX10_weightTotal 23 = .ok (.invokevirtual 67, 3) := by decide +kernel
theorem dX10_weightTotal_26 : decode cX10_weightTotal 26 = .ok (.iadd, 1) := by decide +kernel
theorem dX10_weightTotal_27 : decode cX10_weightTotal 27 = .ok (.istore_n 1, 1) := by decide +kernel
theorem dX10_weightTotal_28 : decode cX10_weightTotal 28 = .ok (.iinc 2 1, 3) := by decide +kernel
theorem dX10_weightTotal_31 : decode cX10_weightTotal 31 = .ok (.goto (-22), 3) := by decide +kernel
theorem dX10_weightTotal_34 : decode cX10_weightTotal 34 = .ok (.iload_n 1, 1) := by decide +kernel
theorem dX10_weightTotal_35 : decode cX10_weightTotal 35 = .ok (.ireturn, 1) := by decide +kernel
set_option maxHeartbeats 1000000 in
set_option maxRecDepth 20000 in
theorem m_weightTotal (l : Launch) (D : va_G) (aT : Nat → ClassId) (ad : Nat → Nat) (S : MSt) (hF : FoW (S 0)) : MdI l yX10_weightTotal cX10_weightTotal 3 .int 1 22 D aT ad [.ref (ad 0)] S (fun r S1 => r = smw (S 0) (nM (S 0)) ∧ S1 = ss S 8 (nI 0)) := by
  refine MdI.of (by decide +kernel) rfl (Nat.le_of_ble_eq_true rfl) ?_
  intro p e s m below meth c A ls C hml hl hA hr hlocks hW
  have hl : lv_has ls 3 [(0, .ref (ad 0))] := hl
  have hx := C.1
  have hb := C.2.1
  refine lv_aload_n hx hb dX10_weightTotal_0 rfl (lv_at hl 0 rfl) ?_
  refine lv_iconst (v := nI 0) hx hb dX10_weightTotal_1 (by decide) ?_
  refine md_put_thrown C hW dX10_weightTotal_2 (fun H locs hW => ?_)
  refine lv_iconst (v := nI 0) hx hb dX10_weightTotal_5 (by decide) ?_
  refine lv_istore_n (lv' := [(1, .int (nI 0)), (0, .ref (ad 0))]) hx hb dX10_weightTotal_6 rfl hl (by decide) rfl (fun ls hl => ?_)
  refine lv_iconst (v := nI 0) hx hb dX10_weightTotal_7 (by decide) ?_
  refine lv_istore_n (lv' := [(2, .int (nI 0)), (1, .int (nI 0)), (0, .ref (ad 0))]) hx hb dX10_weightTotal_8 rfl hl (by decide) rfl (fun ls hl => ?_)
  refine W_loopH (σ := Int32 × Nat) (fun z_ => nM (S 0) - z_.2) (fun z_ H locs g => ∃ ls, g = F0 m 9 ls [] ∧ lv_has ls 3 [(0, .ref (ad 0)), (1, .int z_.1), (2, .int (nI z_.2))] ∧ MdB D aT ad (ss S 8 (nI 0)) A s.heap H locs ∧ (z_.1 = smw (S 0) z_.2 ∧ z_.2 ≤ nM (S 0))) ?_ ((nI 0), 0) _ ⟨_, rfl, lv_sub hl [2, 1, 0] rfl, hW, ⟨rfl, Nat.zero_le _⟩⟩
  clear hW hl
  rintro ⟨a, i⟩ H locs g ⟨ls, rfl, hl, hW, ha, hin⟩ ih_9
  dsimp only at hl hW ha hin ⊢
  have h12 := hF.n12
  refine lv_iload_n hx hb dX10_weightTotal_9 rfl (lv_at hl 2 rfl) ?_
  refine lv_aload_n hx hb dX10_weightTotal_10 rfl (lv_at hl 0 rfl) ?_
  refine md_geta_m C hW dX10_weightTotal_11 ?_
  refine lv_iconst (v := nI 2) hx hb dX10_weightTotal_14 (by decide) ?_
  refine md_ald_m C hW (i := 2) (by omega) dX10_weightTotal_15 ?_
  refine r_eq (y := (nI (nM (S 0)))) (hF.1) ?_
  refine r_geN hx hb (a := i) (b := (nM (S 0))) (by omega) (by omega) (tgt := 34) dX10_weightTotal_16 (by decide) (fun c_16 => ?_) (fun c_16 => ?_)
  · refine lv_iload_n hx hb dX10_weightTotal_34 rfl (lv_at hl 1 rfl) ?_
    exact md_iret C hr hlocks rfl hW (⟨by rw [ha, show nM (S 0) = i by omega], rfl⟩) dX10_weightTotal_35
  · refine lv_iload_n hx hb dX10_weightTotal_19 rfl (lv_at hl 1 rfl) ?_
    refine lv_aload_n hx hb dX10_weightTotal_20 rfl (lv_at hl 0 rfl) ?_
    refine lv_iload_n hx hb dX10_weightTotal_21 rfl (lv_at hl 2 rfl) ?_
    refine lv_iconst (v := nI 3) hx hb dX10_weightTotal_22 (by decide) ?_
    refine md_callg C hml hl.1 (As := [.int (nI i), .int (nI 3)]) (rest := [.int a]) (m_of l D aT ad (ss S 8 (nI 0)) i 3 (by omega)) gT_of hd_of rfl ⟨Nat.le_of_ble_eq_true rfl, Nat.le_of_ble_eq_true rfl⟩ ⟨Nat.le_refl _, Nat.le_refl _⟩ hW hA rfl (Nat.le_of_ble_eq_true rfl) dX10_weightTotal_23 (fun r_23 H locs hq hW => ?_)
    subst hq
    refine r_eq (y := (S 0 (29 + 4 * i + 3))) (rfl) ?_
    refine lv_iadd hx hb dX10_weightTotal_26 ?_
    refine lv_istore_n (lv' := [(1, .int (a + (S 0 (29 + 4 * i + 3)))), (0, .ref (ad 0)), (2, .int (nI i))]) hx hb dX10_weightTotal_27 rfl hl (by decide) rfl (fun ls hl => ?_)
    refine lv_iinc (v := (nI (i + 1))) (lv' := [(2, .int (nI (i + 1))), (1, .int (a + (S 0 (29 + 4 * i + 3)))), (0, .ref (ad 0))]) hx hb dX10_weightTotal_28 hl (k := 2) rfl (nI_1 _) (by decide) rfl (fun ls hl => ?_)
    refine lv_goto (tgt := 9) hx hb dX10_weightTotal_31 (by decide) ?_
    exact ih_9 ((a + (S 0 (29 + 4 * i + 3))), (i + 1)) _ _ _ (by dsimp only; omega) ⟨_, rfl, lv_sub hl [2, 1, 0] rfl, hW, ⟨by rw [smw, ← ha], by (try dsimp only); omega⟩⟩
