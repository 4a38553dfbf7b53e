section
section CXS
variable {p : Program} {l : Launch} {e : Env} {R : Room} {s : State} {m : MethodId} {args : Array Value} {below : List Frame} {meth : Method} {c : Code} {H : Heap} {locs : List Loc} {cells slots : Nat} {Q : State → Prop} {cc : ByteArray} {pc : Nat} {ls : Array Slot} {rest : List Value} {D : va_G} {aT : Nat → ClassId} {Wd : va_W} {A : Nat → Prop} {H0 : Heap} {own : String} {a nL : Nat}
/-- a private method of a class above: what is named is what runs -/
theorem sb_selP {C : String} {z y : MethodName} (hz : z.cls = y.cls) (h0 : (Cond.selects C z z).before args s = true) (hy : y.cls ≠ "java/lang/invoke/MethodHandle" ∧ y.cls ≠ "java/lang/invoke/VarHandle") (hp : (Cond.privateMethod y).before args s = true) (hi : (Cond.instanceMethod y).before args s = true) : (Cond.selects C y y).before args s = true := by
  obtain ⟨c2, r2, m2, q1, q2, q3, q4, kP, hkP, hkPi⟩ := Cond.selects_spec h0
  obtain ⟨mk, methM, hnamed, hmethM, -, -⟩ := Cond.instanceMethod_spec hi
  have hfound : s.methodFound? y.cls y.name y.desc = some mk := State.methodFound?_of_named hnamed hy
  have e3 : mk.cls = m2.cls := by
    have e1 := findClass_of_methodNamed hnamed
    have e2 := findClass_of_methodNamed q3
    rw [hz] at e2
    exact Option.some.inj (e1.symm.trans e2)
  have hsel : selectMethod {} s.vm c2 mk = .method mk := selectMethod_private hmethM (Cond.privateMethod_at hp mk methM hnamed hmethM)
  simp only [Cond.before, Cond.holds, Cond.value, q1, hfound, hnamed, hsel, e3, hkP]
  simp
  exact hkPi
variable {y : MethodName} {b : ByteArray} {L : Nat} {ret : Option FieldType} {fr mc1 ms1 lo idx n : Nat} {As st : List Value} {Wc : va_W} {Qk : CxQ} {PX1 : String → va_W → Prop} {Cn : String}
/-- a method that the object's class has from one above -/
theorem cx_runUP (C : CxX p c cc s args m D aT own) (hml : c.maxLocals = nL) (hls : ls.size = nL) (hZ : cZ D A s s.heap) (hW : CxB D Wd A s.heap H locs) (hA : ∀ q, s.heap.size ≤ q → A q) (hM : CxG l y b L ret fr mc1 ms1 lo D aT (.ref a :: As) Wc Qk PX1)
    (h1 : Cond.methodLink own idx y ∈ gw) (h2 : Cond.sameMethod y.cls y.cls y.name y.desc ∈ gw) (h3 : Cond.instanceMethod y ∈ gw) (h4 : Cond.initialized y.cls ∈ gw) (h5 : Cond.code y b L ret ∈ gw) (hsel : (Cond.selects Cn y y).before args s = true) (hd : y.cls ≠ "java/lang/invoke/MethodHandle" ∧ y.cls ≠ "java/lang/invoke/VarHandle" ∧ (parseMethodDescriptor y.desc).map (fun d => d.parameters.length) = some n) (hn : As.length = n)
    (hR : fr + 1 ≤ R.frames ∧ 8 + (L + 11) + lo ≤ R.locals) (hcs : cells + mc1 ≤ R.cells ∧ slots + ms1 ≤ R.slots) (is : List Nat) (his : is.map (fun i => Wd[i]?) = Wc.map some) (hnd : va_nd is = true) (r0 ci : Nat) {q : vw_C} {fs : List Value} (hci : vwCl[ci]? = some q) (hq : q.1 = Cn) (hrec : Wd[r0]? = some (a, .inr (ci, fs)))
    (hst : st = As.reverse ++ .ref a :: rest) (hw : (rest.map fun v => v.category).sum ≤ 8) (hdg : decode cc pc = .ok (.invokevirtual idx, 3)) : vx_Run p l e R s m args below meth c H locs cells slots mc1 ms1 (F0 m pc ls st) rest (Qk (va_A Wc H.size) (Value.ref a :: As).toArray) (cxX D aT PX1 (va_A Wc H.size)) (va_A Wc H.size) := by
  have C' := C
  obtain ⟨hx, hb, hg, hown, hK⟩ := C
  subst hst
  subst hq
  have hG : GoodIn gw (Cond.code y b L ret :: gw) := gdI h5
  have hlen : ∀ sig, parseMethodDescriptor y.desc = some sig → n = sig.parameters.length := fun sig h => by
    have h9 := hd.2.2
    rw [h] at h9
    exact (Option.some.inj h9).symm
  exact vx_runU (As := As) (rest := rest) (owner := y.cls) (x := y) ⟨hx, hb, hml, hown, hg⟩ (hM H.size) ⟨⟨rfl, rfl, hR.1, hR.2, pay_in hg hG, List.mem_cons_self⟩, hg _ h5, hg _ h4, ⟨hd.1, hd.2.1⟩, hlen, hg _ h1, hg _ h2, va_Decl.of (hg _ h3) (hg _ h5), hsel, hg _ h3⟩ ⟨cx_blind _ _, va_recv hK hW.1 hci hrec, fun U hU hw => ⟨rfl, cx_sub C' hZ hW hA is his hnd hU hw⟩⟩ rfl hn hls rfl (lv_room hw) hdg hcs
theorem cx_runSU (C : CxX p c cc s args m D aT own) (hml : c.maxLocals = nL) (hls : ls.size = nL) (hZ : cZ D A s s.heap) (hW : CxB D Wd A s.heap H locs) (hA : ∀ q, s.heap.size ≤ q → A q) (hM : CxG l y b L ret fr mc1 ms1 lo D aT (.ref a :: As) Wc Qk PX1)
    (hT : GoodIn gw (va_wsSU own idx y (Cond.code y b L ret :: gw))) (hd : y.name ≠ "<init>" ∧ (parseMethodDescriptor y.desc).map (fun d => d.parameters.length) = some n) (hn : As.length = n)
    (hR : fr + 1 ≤ R.frames ∧ 8 + (L + 11) + lo ≤ R.locals) (hcs : cells + mc1 ≤ R.cells ∧ slots + ms1 ≤ R.slots) (is : List Nat) (his : is.map (fun i => Wd[i]?) = Wc.map some) (hnd : va_nd is = true) (r0 ci : Nat) {q : vw_C} {fs : List Value} (hci : vwCl[ci]? = some q) (hrec : Wd[r0]? = some (a, .inr (ci, fs)))
    (hst : st = As.reverse ++ .ref a :: rest) (hw : (rest.map fun v => v.category).sum ≤ 8) (hdg : decode cc pc = .ok (.invokespecial idx, 3)) : vx_Run p l e R s m args below meth c H locs cells slots mc1 ms1 (F0 m pc ls st) rest (Qk (va_A Wc H.size) (Value.ref a :: As).toArray) (cxX D aT PX1 (va_A Wc H.size)) (va_A Wc H.size) := by
  have C' := C
  obtain ⟨hx, hb, hg, hown, hK⟩ := C
  subst hst
  exact vx_runSU (As := As) (rest := rest) (hK.1 ci q hci).2 ⟨hx, hb, hml, hown, hg⟩ (hM H.size) (va_cwSU n hg hT rfl rfl rfl hd hR) ⟨cx_blind _ _, va_recv hK hW.1 hci hrec, fun U hU hw => ⟨rfl, cx_sub C' hZ hW hA is his hnd hU hw⟩⟩ rfl hn hls rfl (lv_room hw) hdg hcs
end CXS
theorem gdSU {own : String} {idx : Nat} {y : MethodName} {b : ByteArray} {L : Nat} {ret : Option FieldType} (h1 : Cond.methodLink own idx y ∈ gw) (h2 : Cond.sameMethod y.cls y.cls y.name y.desc ∈ gw) (h3 : Cond.superclass own y.cls ∈ gw) (h4 : Cond.instanceMethod y ∈ gw) (h5 : Cond.initialized y.cls ∈ gw) (h6 : Cond.code y b L ret ∈ gw) : GoodIn gw (va_wsSU own idx y (Cond.code y b L ret :: gw)) := by
  intro w hw
  have h : w ∈ gw := by
    unfold va_wsSU at hw
    simp only [List.cons_append, List.nil_append, List.mem_cons] at hw
    rcases hw with rfl | rfl | rfl | rfl | rfl | rfl | hw
    · exact h1
    · exact h2
    · exact h3
    · exact h4
    · exact h5
    · exact h6
    · exact hw
  exact ⟨h, gw_good w h⟩
/-- the buffer's room behind a text of q letters, and what making it costs -/
def gcp (cp q : Nat) : Nat := if q ≤ cp then cp else cp + max (q - cp) (cp + 2)
def gsl (cp q : Nat) : Nat := if q ≤ cp then 0 else cp + max (q - cp) (cp + 2)
theorem gcp_y {cp q : Nat} (h : q ≤ cp) : gcp cp q = cp := if_pos h
theorem gcp_n {cp q : Nat} (h : ¬ q ≤ cp) : gcp cp q = cp + max (q - cp) (cp + 2) := if_neg h
theorem gsl_n {cp q : Nat} (h : ¬ q ≤ cp) : gsl cp q = cp + max (q - cp) (cp + 2) := if_neg h
theorem gcp_f (cp q : Nat) : q ≤ gcp cp q ∧ cp ≤ gcp cp q ∧ gsl cp q + 2 * cp ≤ 2 * gcp cp q ∧ gcp cp q ≤ max cp (2 * q + 2) := by
  unfold gcp gsl
  split <;> omega
section CXSB
variable {p : Program} {l : Launch} {e : Env} {R : Room} {s : State} {m : MethodId} {args : Array Value} {below : List Frame} {meth : Method} {c : Code} {H : Heap} {locs : List Loc} {cells slots : Nat} {Q : State → Prop} {cc : ByteArray} {pc : Nat} {ls : Array Slot} {rest : List Value} {D : va_G} {aT : Nat → ClassId} {Wd : va_W} {A : Nat → Prop} {H0 : Heap} {own : String} {a nL : Nat}
theorem cx_copyB (C : CxX p c cc s args m D aT own) (hml : c.maxLocals = nL) (hls : ls.size = nL) (hW : CxB D Wd A H0 H locs) (i i1 t0 : Nat) {index a0 n n0 n1 : Nat} {f g : Nat → Int32} {ty : FieldType} {W1 : va_W} (he : Wd[i]? = some (a0, .inl (aT t0, n0, .inl f))) (he1 : Wd[i1]? = some (a, .inl (aT t0, n1, .inl g))) (ht : (tyG aT)[t0]? = some (aT t0, ty)) (hc : ty = .byte) (hf : sb_Fit f) (h0 : n ≤ n0) (h1 : n ≤ n1) (hn : n < 2 ^ 31) (hlk : Cond.methodLink own index arraycopyName ∈ gw) (hnat : Cond.native arraycopyName ∈ gw) (hstat : Cond.static arraycopyName ∈ gw) (hini : Cond.initialized "java/lang/System" ∈ gw) (hR : 1 ≤ R.frames) (hlo : (rest.map fun v => v.category).sum + (nativeFrameWords "java/lang/System" "arraycopy" 5 + 11) ≤ R.locals) (hW1 : Wd.set i1 (a, .inl (aT t0, n1, .inl (va_cpy f g 0 0 n))) = W1) (hdg : decode cc pc = .ok (.invokestatic index, 3)) (kk : ∀ (H1 : Heap) (locs1 : List Loc), CxB D W1 A H0 H1 locs1 → W p l e R s m args below meth c H1 locs1 cells slots Q (F0 m (pc + 3) ls rest)) : W p l e R s m args below meth c H locs cells slots Q (F0 m pc ls (.int (nI n) :: .int (nI 0) :: .ref a :: .int (nI 0) :: .ref a0 :: rest)) := by
  obtain ⟨hx, hb, hg, hown, hK⟩ := C
  subst hc
  have z0 : (nI 0).toNatClampNeg = 0 := nI_clamp (by omega)
  have zn : (nI n).toNatClampNeg = n := nI_clamp hn
  have neg : ∀ k : Nat, k < 2 ^ 31 → ¬ (nI k) < 0 := fun k hk q => Nat.not_lt_zero _ ((nI_ltI hk (by decide)).mp (show nI k < nI 0 from q))
  refine va_copyi (D := D) hx hb (hml.trans hls.symm) hown (hg _ hlk) (hg _ hnat) (hg _ hstat) (hg _ hini) hK hW.1 hW.2.1 hW.2.2 i i1 t0 t0 he he1 ht ht rfl (neg 0 (by omega)) (neg 0 (by omega)) (neg n hn) (by rw [z0, zn]; omega) (by rw [z0, zn]; omega) (fun _ _ => hf _) hR hlo hdg (fun H1 locs1 h1 h2 h3 => ?_)
  rw [z0, zn, hW1] at h1 h2
  exact kk H1 locs1 ⟨h1, h2, h3⟩
end CXSB
theorem sb_nar (x : Int32) : fits .byte (.int (vp_nar .byte x)) = true := by
  have h1 : x.toInt8.toInt32.toInt = x.toInt8.toInt := Int8.toInt_toInt32 _
  have h2 := Int8.le_toInt x.toInt8
  have h3 := Int8.toInt_lt x.toInt8
  have e1 : (-128 : Int32).toInt = -128 := by decide
  have e2 : (127 : Int32).toInt = 127 := by decide
  unfold vp_nar narrow fits
  simp
  exact ⟨by rw [Int32.le_iff_toInt_le, h1, e1]; omega, by rw [Int32.le_iff_toInt_le, h1, e2]; omega⟩
theorem sb_sub {q cp : Nat} (hq : q < 2 ^ 30) (hc : cp < 2 ^ 30) (h : nI q - nI cp ≤ 0) : q ≤ cp := by
  have e : (nI q - nI cp).toInt = (q : Int) - cp := pk_sub_toInt (by omega) (by omega)
  rw [Int32.le_iff_toInt_le, e, Int32.toInt_zero] at h
  omega
theorem sb_subN {q cp : Nat} (hq : q < 2 ^ 30) (hc : cp < 2 ^ 30) (h : ¬ nI q - nI cp ≤ 0) : ¬ q ≤ cp := by
  have e : (nI q - nI cp).toInt = (q : Int) - cp := pk_sub_toInt (by omega) (by omega)
  rw [Int32.le_iff_toInt_le, e, Int32.toInt_zero] at h
  omega
theorem sb_shl (x : Int32) : x <<< (nI 0 &&& 31) = x := sb_shl0 x
theorem sb_shr (x : Int32) : x >>> (nI 0 &&& 31) = x := sb_shr0 x
theorem sb_max {a b : Nat} (ha : a < 2 ^ 30) (hb : b < 2 ^ 30) : (if nI a < nI b then nI b else nI a) = nI (max a b) := by
  by_cases h : a < b
  · rw [if_pos (nI_lt h (by omega)), Nat.max_eq_right (by omega)]
  · rw [if_neg (nI_nlt (by omega) (by omega)), Nat.max_eq_left (by omega)]
theorem sb_min {a b : Nat} (ha : a < 2 ^ 30) (hb : b < 2 ^ 30) : (if nI b < nI a then nI b else nI a) = nI (min a b) := by
  by_cases h : b < a
  · rw [if_pos (nI_lt h (by omega)), Nat.min_eq_right (by omega)]
  · rw [if_neg (nI_nlt (by omega) (by omega)), Nat.min_eq_left (by omega)]
theorem sb_nc (x : Int32) : narrow .char (.int (x.toUInt32 % 65536).toInt32) = .int (x.toUInt32 % 65536).toInt32 := by
  unfold narrow
  simp
  exact congrArg UInt32.toInt32 (UInt32.toNat_inj.mp (by simp))
theorem sb_ng {w : Nat} (h : 0 < w) (hw : w < 2 ^ 30) : -nI w < 0 := by
  rw [Int32.lt_iff_toInt_lt, sb_negT (by omega), Int32.toInt_zero]
  omega
theorem nz_T {w : Nat} (h : w ≤ 2147483648) : (-nI w).toInt = -(w : Int) := by
  by_cases e : w < 2147483648
  · exact sb_negT e
  · obtain rfl : w = 2147483648 := by omega
    decide +kernel
theorem nz_le {a b : Nat} (ha : a ≤ 2147483648) (hb : b ≤ 2147483648) : -nI a ≤ -nI b ↔ b ≤ a := by
  rw [Int32.le_iff_toInt_le, nz_T ha, nz_T hb]; omega
theorem nz_lt {a b : Nat} (ha : a ≤ 2147483648) (hb : b ≤ 2147483648) : -nI a < -nI b ↔ b < a := by
  rw [Int32.lt_iff_toInt_lt, nz_T ha, nz_T hb]; omega
theorem nz_g {w : Nat} (h : 0 < w) (hw : w ≤ 2147483648) : -nI w < 0 := by
  rw [Int32.lt_iff_toInt_lt, nz_T hw, Int32.toInt_zero]
  omega
theorem nz_div {w : Nat} (h : w ≤ 2147483648) : (-nI w) / 100 = -nI (w / 100) := by
  by_cases e : w < 2147483648
  · exact sb_ndiv e
  · obtain rfl : w = 2147483648 := by omega
    decide +kernel
theorem nz_rem {w : Nat} (h : w ≤ 2147483648) : (-nI (w / 100)) * 100 - (-nI w) = nI (w % 100) := by
  by_cases e : w < 2147483648
  · exact sb_nrem e
  · obtain rfl : w = 2147483648 := by omega
    decide +kernel
theorem nz_dg {w : Nat} (h : 100 ≤ w) (hw : w ≤ 2147483648) : sb_dg w = sb_dg (w / 100) + 2 := by
  by_cases e : w < 2147483648
  · exact sb_dg100 h e
  · obtain rfl : w = 2147483648 := by omega
    decide +kernel
theorem dJ5_isLatin1_aae02_0 : decode cJ5_isLatin1_aae02 0 = .ok (.getstatic 18, 3) := by decide +kernel
theorem dJ5_isLatin1_aae02_3 : decode cJ5_isLatin1_aae02 3 = .ok (.ifCond .eq 14, 3) := by decide +kernel
theorem dJ5_isLatin1_aae02_6 : decode cJ5_isLatin1_aae02 6 = .ok (.aload_n 0, 1) := by decide +kernel
theorem dJ5_isLatin1_aae02_7 : decode cJ5_isLatin1_aae02 7 = .ok (.getfield 22, 3) := by decide +kernel
theorem dJ5_isLatin1_aae02_10 : decode cJ5_isLatin1_aae02 10 = .ok (.ifCond .ne 7, 3) := by decide +kernel
theorem dJ5_isLatin1_aae02_13 : decode cJ5_isLatin1_aae02 13 = .ok (.iconst 1, 1) := by decide +kernel
theorem dJ5_isLatin1_aae02_14 : decode cJ5_isLatin1_aae02 14 = .ok (.goto 4, 3) := by decide +kernel
theorem dJ5_isLatin1_aae02_17 : decode cJ5_isLatin1_aae02 17 = .ok (.iconst 0, 1) := by decide +kernel
theorem dJ5_isLatin1_aae02_18 : decode cJ5_isLatin1_aae02 18 = .ok (.ireturn, 1) := by decide +kernel
set_option maxHeartbeats 2000000 in
set_option maxRecDepth 20000 in
theorem k_J5_isLatin1_aae02 (l : Launch) (hfl : l.stackTraces = false) (D : va_G) (aT : Nat → ClassId) (o0 : Nat) (ov : Nat) (cn : Nat) (cp : Nat) (fO : Nat → Int32) (mb : Int32) (hfit : sb_Fit fO) (hcn : cn ≤ cp) (hcp : cp ≤ 4000) : CxG l yJ5_isLatin1_aae02 cJ5_isLatin1_aae02 1 (some (.boolean)) 0 0 0 0 D aT [.ref o0] [(o0, .inr (1, [.ref ov, .int (nI 0), .int mb, .int (nI cn)])), (ov, .inl (aT 4, cp, .inl fO))] (qI D aT (fun r W1 => r = (nI 1) ∧ W1 = ([(o0, .inr (1, [.ref ov, .int (nI 0), .int mb, .int (nI cn)])), (ov, .inl (aT 4, cp, .inl fO))] : va_W))) (fun _ _ => False) := by
  refine CxG.of RJ5 (by decide +kernel) rfl (Nat.le_of_ble_eq_true rfl) ?_
  intro p e s m below meth c A ls C hml hl hA hr hlocks hex hnm hZ hW
  have hl : lv_has ls 1 [(0, .ref o0)] := hl
  have hx := C.1
  have hb := C.2.1
  refine va_gets hx hb hZ.2.2.2.2.2.2.1 hW.2.2 C.2.2.2.1 (C.2.2.1 _ gw_322) (fun _ h9 => h9) dJ5_isLatin1_aae02_0 ?_
  refine lv_if_eq hx hb (x := 1) (tgt := 17) dJ5_isLatin1_aae02_3 (by decide) (fun c_3 => ?_) (fun c_3 => ?_)
  · exact absurd c_3 (by decide)
  · refine lv_aload_n hx hb dJ5_isLatin1_aae02_6 rfl (lv_at hl 0 rfl) ?_
    refine cx_get C hW 0 1 rfl rfl (by decide) inJ4 gw_332 rfl rfl dJ5_isLatin1_aae02_7 ?_
    refine lv_if_ne hx hb (x := (nI 0)) (tgt := 17) dJ5_isLatin1_aae02_10 (by decide) (fun c_10 => ?_) (fun c_10 => ?_)
    · exact absurd rfl c_10
    · refine lv_iconst (v := nI 1) hx hb dJ5_isLatin1_aae02_13 (by decide) ?_
      refine lv_goto (tgt := 18) hx hb dJ5_isLatin1_aae02_14 (by decide) ?_
      exact cx_iret C hr hlocks (by decide) hW ⟨Nat.le_of_ble_eq_true rfl, Nat.le_of_ble_eq_true rfl⟩ (⟨rfl, rfl⟩) dJ5_isLatin1_aae02_18
theorem dJ5_length_8abf5_0 : decode cJ5_length_8abf5 0 = .ok (.aload_n 0, 1) := by decide +kernel
theorem dJ5_length_8abf5_1 : decode cJ5_length_8abf5 1 = .ok (.getfield 79, 3) := by decide +kernel
theorem dJ5_length_8abf5_4 : decode cJ5_length_8abf5 4 = .ok (.ireturn, 1) := by decide +kernel
set_option maxHeartbeats 2000000 in
set_option maxRecDepth 20000 in
theorem k_J5_length_8abf5 (l : Launch) (hfl : l.stackTraces = false) (D : va_G) (aT : Nat → ClassId) (o0 : Nat) (ov : Nat) (cn : Nat) (cp : Nat) (fO : Nat → Int32) (mb : Int32) (hfit : sb_Fit fO) (hcn : cn ≤ cp) (hcp : cp ≤ 4000) : CxG l yJ5_length_8abf5 cJ5_length_8abf5 1 (some (.int)) 0 0 0 0 D aT [.ref o0] [(o0, .inr (1, [.ref ov, .int (nI 0), .int mb, .int (nI cn)])), (ov, .inl (aT 4, cp, .inl fO))] (qI D aT (fun r W1 => r = (nI cn) ∧ W1 = ([(o0, .inr (1, [.ref ov, .int (nI 0), .int mb, .int (nI cn)])), (ov, .inl (aT 4, cp, .inl fO))] : va_W))) (fun _ _ => False) := by
  refine CxG.of RJ5 (by decide +kernel) rfl (Nat.le_of_ble_eq_true rfl) ?_
  intro p e s m below meth c A ls C hml hl hA hr hlocks hex hnm hZ hW
  have hl : lv_has ls 1 [(0, .ref o0)] := hl
  have hx := C.1
  have hb := C.2.1
  refine lv_aload_n hx hb dJ5_length_8abf5_0 rfl (lv_at hl 0 rfl) ?_
  refine cx_get C hW 0 3 rfl rfl (by decide) inJ4 gw_335 rfl rfl dJ5_length_8abf5_1 ?_
  exact cx_iret C hr hlocks rfl hW ⟨Nat.le_of_ble_eq_true rfl, Nat.le_of_ble_eq_true rfl⟩ (⟨rfl, rfl⟩) dJ5_length_8abf5_4
theorem dJ4_length_8abf5_0 : decode cJ4_length_8abf5 0 = .ok (.aload_n 0, 1) := by decide +kernel
theorem dJ4_length_8abf5_1 : decode cJ4_length_8abf5 1 = .ok (.invokespecial 343, 3) := by decide +kernel
theorem dJ4_length_8abf5_4 : decode cJ4_length_8abf5 4 = .ok (.ireturn, 1) := by decide +kernel
theorem gSU_J5_length_8abf5 : GoodIn gw (va_wsSU RJ4 343 yJ5_length_8abf5 (Cond.code yJ5_length_8abf5 cJ5_length_8abf5 1 (some .int) :: gw)) := gdSU gw_1490 gw_1486 gw_344 gw_1485 gw_77 gw_1491
theorem hSU_J5_length_8abf5 : yJ5_length_8abf5.name ≠ "<init>" ∧ (parseMethodDescriptor yJ5_length_8abf5.desc).map (fun d => d.parameters.length) = some 0 := ⟨by decide +kernel, by decide +kernel⟩
set_option maxHeartbeats 2000000 in
set_option maxRecDepth 20000 in
theorem k_J4_length_8abf5 (l : Launch) (hfl : l.stackTraces = false) (D : va_G) (aT : Nat → ClassId) (o0 : Nat) (ov : Nat) (cn : Nat) (cp : Nat) (fO : Nat → Int32) (mb : Int32) (hfit : sb_Fit fO) (hcn : cn ≤ cp) (hcp : cp ≤ 4000) : CxG l yJ4_length_8abf5 cJ4_length_8abf5 1 (some (.int)) 1 0 0 20 D aT [.ref o0] [(o0, .inr (1, [.ref ov, .int (nI 0), .int mb, .int (nI cn)])), (ov, .inl (aT 4, cp, .inl fO))] (qI D aT (fun r W1 => r = (nI cn) ∧ W1 = ([(o0, .inr (1, [.ref ov, .int (nI 0), .int mb, .int (nI cn)])), (ov, .inl (aT 4, cp, .inl fO))] : va_W))) (fun _ _ => False) := by
  refine CxG.of RJ4 (by decide +kernel) rfl (Nat.le_of_ble_eq_true rfl) ?_
  intro p e s m below meth c A ls C hml hl hA hr hlocks hex hnm hZ hW
  have hl : lv_has ls 1 [(0, .ref o0)] := hl
  have hx := C.1
  have hb := C.2.1
  refine lv_aload_n hx hb dJ4_length_8abf5_0 rfl (lv_at hl 0 rfl) ?_
  refine cx_calli (Wr := []) (cx_runSU C hml hl.1 hZ hW hA (As := []) (rest := []) (k_J5_length_8abf5 l hfl D aT o0 ov cn cp fO mb hfit hcn hcp) gSU_J5_length_8abf5 hSU_J5_length_8abf5 rfl ⟨Nat.le_of_ble_eq_true rfl, Nat.le_of_ble_eq_true rfl⟩ ⟨Nat.le_of_ble_eq_true rfl, Nat.le_of_ble_eq_true rfl⟩ [0, 1] rfl (by decide) 0 1 rfl rfl rfl (Nat.le_of_ble_eq_true rfl) dJ4_length_8abf5_1) hW hA [0, 1] [] rfl rfl (by decide) (by decide) (fun _ _ _ _ _ _ h9 => h9.elim) (fun r_1 W_1 H locs hq hW => ?_)
  obtain ⟨rfl, rfl⟩ := hq
  exact cx_iret C hr hlocks rfl hW ⟨Nat.le_of_ble_eq_true rfl, Nat.le_of_ble_eq_true rfl⟩ (⟨rfl, rfl⟩) dJ4_length_8abf5_4
theorem dJ8_newLength_cabcc_0 : decode cJ8_newLength_cabcc 0 = .ok (.iload_n 0, 1) := by decide +kernel
theorem dJ8_newLength_cabcc_1 : decode cJ8_newLength_cabcc 1 = .ok (.iload_n 1, 1) := by decide +kernel
theorem dJ8_newLength_cabcc_2 : decode cJ8_newLength_cabcc 2 = .ok (.iload_n 2, 1) := by decide +kernel
theorem dJ8_newLength_cabcc_3 : decode cJ8_newLength_cabcc 3 = .ok (.invokestatic 194, 3) := by decide +kernel
theorem dJ8_newLength_cabcc_6 : decode cJ8_newLength_cabcc 6 = .ok (.iadd, 1) := by decide +kernel
theorem dJ8_newLength_cabcc_7 : decode cJ8_newLength_cabcc 7 = .ok (.istore_n 3, 1) := by decide +kernel
theorem dJ8_newLength_cabcc_8 : decode cJ8_newLength_cabcc 8 = .ok (.iconst 0, 1) := by decide +kernel
theorem dJ8_newLength_cabcc_9 : decode cJ8_newLength_cabcc 9 = .ok (.iload_n 3, 1) := by decide +kernel
theorem dJ8_newLength_cabcc_10 : decode cJ8_newLength_cabcc 10 = .ok (.if_icmp .ge 11, 3) := by decide +kernel
theorem dJ8_newLength_cabcc_13 : decode cJ8_newLength_cabcc 13 = .ok (.iload_n 3, 1) := by decide +kernel
theorem dJ8_newLength_cabcc_14 : decode cJ8_newLength_cabcc 14 = .ok (.ldc 200, 2) := by decide +kernel
theorem dJ8_newLength_cabcc_16 : decode cJ8_newLength_cabcc 16 = .ok (.if_icmp .gt 5, 3) := by decide +kernel
theorem dJ8_newLength_cabcc_19 : decode cJ8_newLength_cabcc 19 = .ok (.iload_n 3, 1) := by decide +kernel
theorem dJ8_newLength_cabcc_20 : decode cJ8_newLength_cabcc 20 = .ok (.ireturn, 1) := by decide +kernel
theorem dJ8_newLength_cabcc_21 : decode cJ8_newLength_cabcc 21 = .ok (.iload_n 0, 1) := by decide +kernel
theorem dJ8_newLength_cabcc_22 : decode cJ8_newLength_cabcc 22 = .ok (.iload_n 1, 1) := by decide +kernel
theorem dJ8_newLength_cabcc_23 : decode cJ8_newLength_cabcc 23 = .ok (.invokestatic 201, 3) := by decide +kernel
theorem dJ8_newLength_cabcc_26 : decode cJ8_newLength_cabcc 26 = .ok (.ireturn, 1) := by decide +kernel
set_option maxHeartbeats 2000000 in
set_option maxRecDepth 20000 in
theorem k_newLen (l : Launch) (hfl : l.stackTraces = false) (D : va_G) (aT : Nat → ClassId) (x : Nat) (y : Nat) (z : Nat) (hx3 : x ≤ 4000 ∧ y ≤ 4000 ∧ z ≤ 4002 ∧ 0 < z) : CxG l yJ8_newLength_cabcc cJ8_newLength_cabcc 4 (some (.int)) 1 0 0 40 D aT [.int (nI x), .int (nI y), .int (nI z)] [] (qI D aT (fun r W1 => r = nI (x + max y z) ∧ W1 = [])) (fun _ _ => False) := by
  refine CxG.of RJ8 (by decide +kernel) rfl (Nat.le_of_ble_eq_true rfl) ?_
  intro p e s m below meth c A ls C hml hl hA hr hlocks hex hnm hZ hW
  have hl : lv_has ls 4 [(0, .int (nI x)), (1, .int (nI y)), (2, .int (nI z))] := hl
  have hx := C.1
  have hb := C.2.1
  refine lv_iload_n hx hb dJ8_newLength_cabcc_0 rfl (lv_at hl 0 rfl) ?_
  refine lv_iload_n hx hb dJ8_newLength_cabcc_1 rfl (lv_at hl 1 rfl) ?_
  refine lv_iload_n hx hb dJ8_newLength_cabcc_2 rfl (lv_at hl 2 rfl) ?_
  refine cx_max C hml hl.1 gw_1232 ⟨Nat.le_of_ble_eq_true rfl, Nat.le_of_ble_eq_true rfl, Nat.le_of_ble_eq_true rfl⟩ ⟨Nat.le_of_ble_eq_true rfl, Nat.le_of_ble_eq_true rfl⟩ dJ8_newLength_cabcc_3 ?_
  refine r_eq (y := (nI (max y z))) (sb_max (by omega) (by omega)) ?_
  refine r_iaddN hx hb (a := x) (b := max y z) dJ8_newLength_cabcc_6 ?_
  refine lv_istore_n (lv' := [(3, .int (nI (x + (max y z)))), (0, .int (nI x)), (1, .int (nI y)), (2, .int (nI z))]) hx hb dJ8_newLength_cabcc_7 rfl hl (by decide) rfl (fun ls hl => ?_)
  refine lv_iconst (v := nI 0) hx hb dJ8_newLength_cabcc_8 (by decide) ?_
  refine lv_iload_n hx hb dJ8_newLength_cabcc_9 rfl (lv_at hl 0 rfl) ?_
  refine r_geN hx hb (a := 0) (b := x + (max y z)) (by omega) (by omega) (tgt := 21) dJ8_newLength_cabcc_10 (by decide) (fun c_10 => ?_) (fun c_10 => ?_)
  · exact absurd c_10 (by omega)
  · refine lv_iload_n hx hb dJ8_newLength_cabcc_13 rfl (lv_at hl 0 rfl) ?_
    refine lv_ldc (v := nI 2147483639) hx hb C.2.2.2.1 (C.2.2.1 _ gw_1233) dJ8_newLength_cabcc_14 ?_
    refine r_gtN hx hb (a := x + (max y z)) (b := 2147483639) (by omega) (by omega) (tgt := 21) dJ8_newLength_cabcc_16 (by decide) (fun c_16 => ?_) (fun c_16 => ?_)
    · exact absurd c_16 (by omega)
    · refine lv_iload_n hx hb dJ8_newLength_cabcc_19 rfl (lv_at hl 0 rfl) ?_
      exact cx_iret C hr hlocks rfl hW ⟨Nat.le_of_ble_eq_true rfl, Nat.le_of_ble_eq_true rfl⟩ (⟨rfl, rfl⟩) dJ8_newLength_cabcc_20
theorem dJ5_newCapacity_0f7a4_0 : decode cJ5_newCapacity_0f7a4 0 = .ok (.aload_n 0, 1) := by decide +kernel
theorem dJ5_newCapacity_0f7a4_1 : decode cJ5_newCapacity_0f7a4 1 = .ok (.getfield 15, 3) := by decide +kernel
theorem dJ5_newCapacity_0f7a4_4 : decode cJ5_newCapacity_0f7a4 4 = .ok (.arraylength, 1) := by decide +kernel
theorem dJ5_newCapacity_0f7a4_5 : decode cJ5_newCapacity_0f7a4 5 = .ok (.istore_n 2, 1) := by decide +kernel
theorem dJ5_newCapacity_0f7a4_6 : decode cJ5_newCapacity_0f7a4 6 = .ok (.iload_n 1, 1) := by decide +kernel
theorem dJ5_newCapacity_0f7a4_7 : decode cJ5_newCapacity_0f7a4 7 = .ok (.aload_n 0, 1) := by decide +kernel
theorem dJ5_newCapacity_0f7a4_8 : decode cJ5_newCapacity_0f7a4 8 = .ok (.getfield 22, 3) := by decide +kernel
theorem dJ5_newCapacity_0f7a4_11 : decode cJ5_newCapacity_0f7a4 11 = .ok (.ishl, 1) := by decide +kernel
theorem dJ5_newCapacity_0f7a4_12 : decode cJ5_newCapacity_0f7a4 12 = .ok (.istore_n 3, 1) := by decide +kernel
theorem dJ5_newCapacity_0f7a4_13 : decode cJ5_newCapacity_0f7a4 13 = .ok (.iload_n 3, 1) := by decide +kernel
theorem dJ5_newCapacity_0f7a4_14 : decode cJ5_newCapacity_0f7a4 14 = .ok (.iload_n 2, 1) := by decide +kernel
theorem dJ5_newCapacity_0f7a4_15 : decode cJ5_newCapacity_0f7a4 15 = .ok (.isub, 1) := by decide +kernel
theorem dJ5_newCapacity_0f7a4_16 : decode cJ5_newCapacity_0f7a4 16 = .ok (.istore 4, 2) := by decide +kernel
theorem dJ5_newCapacity_0f7a4_18 : decode cJ5_newCapacity_0f7a4 18 = .ok (.iload_n 2, 1) := by decide +kernel
theorem dJ5_newCapacity_0f7a4_19 : decode cJ5_newCapacity_0f7a4 19 = .ok (.iload 4, 2) := by decide +kernel
theorem dJ5_newCapacity_0f7a4_21 : decode cJ5_newCapacity_0f7a4 21 = .ok (.iload_n 2, 1) := by decide +kernel
theorem dJ5_newCapacity_0f7a4_22 : decode cJ5_newCapacity_0f7a4 22 = .ok (.iconst 2, 1) := by decide +kernel
theorem dJ5_newCapacity_0f7a4_23 : decode cJ5_newCapacity_0f7a4 23 = .ok (.aload_n 0, 1) := by decide +kernel
theorem dJ5_newCapacity_0f7a4_24 : decode cJ5_newCapacity_0f7a4 24 = .ok (.getfield 22, 3) := by decide +kernel
theorem dJ5_newCapacity_0f7a4_27 : decode cJ5_newCapacity_0f7a4 27 = .ok (.ishl, 1) := by decide +kernel
theorem dJ5_newCapacity_0f7a4_28 : decode cJ5_newCapacity_0f7a4 28 = .ok (.iadd, 1) := by decide +kernel
theorem dJ5_newCapacity_0f7a4_29 : decode cJ5_newCapacity_0f7a4 29 = .ok (.invokestatic 114, 3) := by decide +kernel
theorem dJ5_newCapacity_0f7a4_32 : decode cJ5_newCapacity_0f7a4 32 = .ok (.istore 5, 2) := by decide +kernel
theorem dJ5_newCapacity_0f7a4_34 : decode cJ5_newCapacity_0f7a4 34 = .ok (.iload 5, 2) := by decide +kernel
theorem dJ5_newCapacity_0f7a4_36 : decode cJ5_newCapacity_0f7a4 36 = .ok (.ldc 39, 2) := by decide +kernel
theorem dJ5_newCapacity_0f7a4_38 : decode cJ5_newCapacity_0f7a4 38 = .ok (.if_icmp .ne 13, 3) := by decide +kernel
theorem dJ5_newCapacity_0f7a4_41 : decode cJ5_newCapacity_0f7a4 41 = .ok (.new 120, 3) := by decide +kernel
theorem dJ5_newCapacity_0f7a4_44 : decode cJ5_newCapacity_0f7a4 44 = .ok (.dup, 1) := by decide +kernel
theorem dJ5_newCapacity_0f7a4_45 : decode cJ5_newCapacity_0f7a4 45 = .ok (.ldc 122, 2) := by decide +kernel
theorem dJ5_newCapacity_0f7a4_47 : decode cJ5_newCapacity_0f7a4 47 = .ok (.invokespecial 124, 3) := by decide +kernel
theorem dJ5_newCapacity_0f7a4_50 : decode cJ5_newCapacity_0f7a4 50 = .ok (.athrow, 1) := by decide +kernel
theorem dJ5_newCapacity_0f7a4_51 : decode cJ5_newCapacity_0f7a4 51 = .ok (.iload 5, 2) := by decide +kernel
theorem dJ5_newCapacity_0f7a4_53 : decode cJ5_newCapacity_0f7a4 53 = .ok (.aload_n 0, 1) := by decide +kernel
theorem dJ5_newCapacity_0f7a4_54 : decode cJ5_newCapacity_0f7a4 54 = .ok (.getfield 22, 3) := by decide +kernel
theorem dJ5_newCapacity_0f7a4_57 : decode cJ5_newCapacity_0f7a4 57 = .ok (.ishr, 1) := by decide +kernel
theorem dJ5_newCapacity_0f7a4_58 : decode cJ5_newCapacity_0f7a4 58 = .ok (.ireturn, 1) := by decide +kernel
theorem gS_J5_J8_newLength_cabcc_114 : GoodIn gw (va_wsS RJ5 114 yJ8_newLength_cabcc (Cond.code yJ8_newLength_cabcc cJ8_newLength_cabcc 4 (some .int) :: gw)) := gdS2 gw_1375 gw_1230 gw_98 gw_1231
theorem hS_J8_newLength_cabcc : yJ8_newLength_cabcc.cls ≠ "java/lang/invoke/MethodHandle" ∧ yJ8_newLength_cabcc.cls ≠ "java/lang/invoke/VarHandle" ∧ (parseMethodDescriptor yJ8_newLength_cabcc.desc).map (fun d => d.parameters.length) = some 3 := ⟨by decide +kernel, by decide +kernel, by decide +kernel⟩
set_option maxHeartbeats 2000000 in
set_option maxRecDepth 20000 in
theorem k_J5_newCapacity_0f7a4 (l : Launch) (hfl : l.stackTraces = false) (D : va_G) (aT : Nat → ClassId) (o0 : Nat) (ov : Nat) (cn : Nat) (cp : Nat) (fO : Nat → Int32) (mb : Int32) (hfit : sb_Fit fO) (hcn : cn ≤ cp) (hcp : cp ≤ 4000) (q : Nat) (hq : q ≤ 2000 ∧ cp < q) : CxG l yJ5_newCapacity_0f7a4 cJ5_newCapacity_0f7a4 6 (some (.int)) 2 0 0 63 D aT [.ref o0, .int (nI q)] [(o0, .inr (1, [.ref ov, .int (nI 0), .int mb, .int (nI cn)])), (ov, .inl (aT 4, cp, .inl fO))] (qI D aT (fun r W1 => r = nI (cp + max (q - cp) (cp + 2)) ∧ W1 = ([(o0, .inr (1, [.ref ov, .int (nI 0), .int mb, .int (nI cn)])), (ov, .inl (aT 4, cp, .inl fO))] : va_W))) (fun _ _ => False) := by
  refine CxG.of RJ5 (by decide +kernel) rfl (Nat.le_of_ble_eq_true rfl) ?_
  intro p e s m below meth c A ls C hml hl hA hr hlocks hex hnm hZ hW
  have hl : lv_has ls 6 [(0, .ref o0), (1, .int (nI q))] := hl
  have hx := C.1
  have hb := C.2.1
  refine lv_aload_n hx hb dJ5_newCapacity_0f7a4_0 rfl (lv_at hl 0 rfl) ?_
  refine cx_get C hW 0 0 rfl rfl (by decide) inJ4 gw_331 rfl rfl dJ5_newCapacity_0f7a4_1 ?_
  refine va_alen (v := nI cp) hx hb C.2.2.2.2 hW.1 1 4 rfl rfl rfl dJ5_newCapacity_0f7a4_4 ?_
  refine lv_istore_n (lv' := [(2, .int (nI cp)), (0, .ref o0), (1, .int (nI q))]) hx hb dJ5_newCapacity_0f7a4_5 rfl hl (by decide) rfl (fun ls hl => ?_)
  refine lv_iload_n hx hb dJ5_newCapacity_0f7a4_6 rfl (lv_at hl 2 rfl) ?_
  refine lv_aload_n hx hb dJ5_newCapacity_0f7a4_7 rfl (lv_at hl 1 rfl) ?_
  refine cx_get C hW 0 1 rfl rfl (by decide) inJ4 gw_332 rfl rfl dJ5_newCapacity_0f7a4_8 ?_
  refine lv_ishl hx hb dJ5_newCapacity_0f7a4_11 ?_
  refine r_eq (y := (nI q)) (sb_shl _) ?_
  refine lv_istore_n (lv' := [(3, .int (nI q)), (2, .int (nI cp)), (0, .ref o0), (1, .int (nI q))]) hx hb dJ5_newCapacity_0f7a4_12 rfl hl (by decide) rfl (fun ls hl => ?_)
  refine lv_iload_n hx hb dJ5_newCapacity_0f7a4_13 rfl (lv_at hl 0 rfl) ?_
  refine lv_iload_n hx hb dJ5_newCapacity_0f7a4_14 rfl (lv_at hl 1 rfl) ?_
  refine lv_isub hx hb dJ5_newCapacity_0f7a4_15 ?_
  refine r_eq (y := (nI (q - cp))) (pk_sub (by omega)) ?_
  refine lv_istore (lv' := [(4, .int (nI (q - cp))), (3, .int (nI q)), (2, .int (nI cp)), (0, .ref o0), (1, .int (nI q))]) hx hb dJ5_newCapacity_0f7a4_16 hl (by decide) rfl (fun ls hl => ?_)
  refine lv_iload_n hx hb dJ5_newCapacity_0f7a4_18 rfl (lv_at hl 2 rfl) ?_
  refine lv_iload hx hb dJ5_newCapacity_0f7a4_19 (lv_at hl 0 rfl) ?_
  refine lv_iload_n hx hb dJ5_newCapacity_0f7a4_21 rfl (lv_at hl 2 rfl) ?_
  refine lv_iconst (v := nI 2) hx hb dJ5_newCapacity_0f7a4_22 (by decide) ?_
  refine lv_aload_n hx hb dJ5_newCapacity_0f7a4_23 rfl (lv_at hl 3 rfl) ?_
  refine cx_get C hW 0 1 rfl rfl (by decide) inJ4 gw_332 rfl rfl dJ5_newCapacity_0f7a4_24 ?_
  refine lv_ishl hx hb dJ5_newCapacity_0f7a4_27 ?_
  refine r_eq (y := nI 2) (by decide) ?_
  refine r_iaddN hx hb (a := cp) (b := 2) dJ5_newCapacity_0f7a4_28 ?_
  refine cx_calli (Wr := [(o0, .inr (1, [.ref ov, .int (nI 0), .int mb, .int (nI cn)])), (ov, .inl (aT 4, cp, .inl fO))]) (cx_runS C hml hl.1 hZ hW hA (As := [.int (nI cp), .int (nI (q - cp)), .int (nI (cp + 2))]) (rest := []) (k_newLen l hfl D aT cp (q - cp) (cp + 2) (by omega)) gS_J5_J8_newLength_cabcc_114 hS_J8_newLength_cabcc rfl ⟨Nat.le_of_ble_eq_true rfl, Nat.le_of_ble_eq_true rfl⟩ ⟨Nat.le_of_ble_eq_true rfl, Nat.le_of_ble_eq_true rfl⟩ [] rfl (by decide) rfl (Nat.le_of_ble_eq_true rfl) dJ5_newCapacity_0f7a4_29) hW hA [] [0, 1] rfl rfl (by decide) (by decide) (fun _ _ _ _ _ _ h9 => h9.elim) (fun r_29 W_29 H locs hq hW => ?_)
  obtain ⟨rfl, rfl⟩ := hq
  refine lv_istore (lv' := [(5, .int (nI (cp + max (q - cp) (cp + 2)))), (4, .int (nI (q - cp))), (3, .int (nI q)), (2, .int (nI cp)), (0, .ref o0), (1, .int (nI q))]) hx hb dJ5_newCapacity_0f7a4_32 hl (by decide) rfl (fun ls hl => ?_)
  refine lv_iload hx hb dJ5_newCapacity_0f7a4_34 (lv_at hl 0 rfl) ?_
  refine lv_ldc (v := nI 2147483647) hx hb C.2.2.2.1 (C.2.2.1 _ gw_1376) dJ5_newCapacity_0f7a4_36 ?_
  refine r_neN hx hb (a := cp + max (q - cp) (cp + 2)) (b := 2147483647) (by omega) (by omega) (tgt := 51) dJ5_newCapacity_0f7a4_38 (by decide) (fun c_38 => ?_) (fun c_38 => ?_)
  · refine lv_iload hx hb dJ5_newCapacity_0f7a4_51 (lv_at hl 0 rfl) ?_
    refine lv_aload_n hx hb dJ5_newCapacity_0f7a4_53 rfl (lv_at hl 4 rfl) ?_
    refine cx_get C hW 0 1 rfl rfl (by decide) inJ4 gw_332 rfl rfl dJ5_newCapacity_0f7a4_54 ?_
    refine lv_ishr hx hb dJ5_newCapacity_0f7a4_57 ?_
    refine r_eq (y := (nI (cp + max (q - cp) (cp + 2)))) (sb_shr _) ?_
    exact cx_iret C hr hlocks rfl hW ⟨Nat.le_of_ble_eq_true rfl, Nat.le_of_ble_eq_true rfl⟩ (⟨rfl, rfl⟩) dJ5_newCapacity_0f7a4_58
  · exact absurd c_38 (by omega)
theorem dJ7_copyOf_9075b_0 : decode cJ7_copyOf_9075b 0 = .ok (.iload_n 1, 1) := by decide +kernel
theorem dJ7_copyOf_9075b_1 : decode cJ7_copyOf_9075b 1 = .ok (.aload_n 0, 1) := by decide +kernel
theorem dJ7_copyOf_9075b_2 : decode cJ7_copyOf_9075b 2 = .ok (.arraylength, 1) := by decide +kernel
theorem dJ7_copyOf_9075b_3 : decode cJ7_copyOf_9075b 3 = .ok (.if_icmp .ne 11, 3) := by decide +kernel
theorem dJ7_copyOf_9075b_6 : decode cJ7_copyOf_9075b 6 = .ok (.aload_n 0, 1) := by decide +kernel
theorem dJ7_copyOf_9075b_7 : decode cJ7_copyOf_9075b 7 = .ok (.invokevirtual 310, 3) := by decide +kernel
theorem dJ7_copyOf_9075b_10 : decode cJ7_copyOf_9075b 10 = .ok (.checkcast 311, 3) := by decide +kernel
theorem dJ7_copyOf_9075b_13 : decode cJ7_copyOf_9075b 13 = .ok (.areturn, 1) := by decide +kernel
theorem dJ7_copyOf_9075b_14 : decode cJ7_copyOf_9075b 14 = .ok (.iload_n 1, 1) := by decide +kernel
theorem dJ7_copyOf_9075b_15 : decode cJ7_copyOf_9075b 15 = .ok (.newarray .byte, 2) := by decide +kernel
theorem dJ7_copyOf_9075b_17 : decode cJ7_copyOf_9075b 17 = .ok (.astore_n 2, 1) := by decide +kernel
theorem dJ7_copyOf_9075b_18 : decode cJ7_copyOf_9075b 18 = .ok (.aload_n 0, 1) := by decide +kernel
theorem dJ7_copyOf_9075b_19 : decode cJ7_copyOf_9075b 19 = .ok (.iconst 0, 1) := by decide +kernel
theorem dJ7_copyOf_9075b_20 : decode cJ7_copyOf_9075b 20 = .ok (.aload_n 2, 1) := by decide +kernel
theorem dJ7_copyOf_9075b_21 : decode cJ7_copyOf_9075b 21 = .ok (.iconst 0, 1) := by decide +kernel
theorem dJ7_copyOf_9075b_22 : decode cJ7_copyOf_9075b 22 = .ok (.aload_n 0, 1) := by decide +kernel
theorem dJ7_copyOf_9075b_23 : decode cJ7_copyOf_9075b 23 = .ok (.arraylength, 1) := by decide +kernel
theorem dJ7_copyOf_9075b_24 : decode cJ7_copyOf_9075b 24 = .ok (.iload_n 1, 1) := by decide +kernel
theorem dJ7_copyOf_9075b_25 : decode cJ7_copyOf_9075b 25 = .ok (.invokestatic 304, 3) := by decide +kernel
theorem dJ7_copyOf_9075b_28 : decode cJ7_copyOf_9075b 28 = .ok (.invokestatic 150, 3) := by decide +kernel
theorem dJ7_copyOf_9075b_31 : decode cJ7_copyOf_9075b 31 = .ok (.aload_n 2, 1) := by decide +kernel
theorem dJ7_copyOf_9075b_32 : decode cJ7_copyOf_9075b 32 = .ok (.areturn, 1) := by decide +kernel
set_option maxHeartbeats 2000000 in
set_option maxRecDepth 20000 in
theorem k_copyOfB (l : Launch) (hfl : l.stackTraces = false) (D : va_G) (aT : Nat → ClassId) (ov : Nat) (cp : Nat) (fO : Nat → Int32) (n : Nat) (hfit : sb_Fit fO) (hn : cp < n ∧ n ≤ 9000) : CxG l yJ7_copyOf_9075b cJ7_copyOf_9075b 3 (some ((.array .byte))) 1 1 n 60 D aT [.ref ov, .int (nI n)] [(ov, .inl (aT 4, cp, .inl fO))] (qR D aT (fun r W1 => ∃ (q9 : Nat) (f9 : Nat → Int32), r = some q9 ∧ sb_Fit f9 ∧ W1 = ([(ov, .inl (aT 4, cp, .inl fO)), (q9, .inl (aT 4, n, .inl f9))] : va_W))) (fun _ _ => False) := by
  refine CxG.of RJ7 (by decide +kernel) rfl (Nat.le_of_ble_eq_true rfl) ?_
  intro p e s m below meth c A ls C hml hl hA hr hlocks hex hnm hZ hW
  have hl : lv_has ls 3 [(0, .ref ov), (1, .int (nI n))] := hl
  have hx := C.1
  have hb := C.2.1
  refine lv_iload_n hx hb dJ7_copyOf_9075b_0 rfl (lv_at hl 1 rfl) ?_
  refine lv_aload_n hx hb dJ7_copyOf_9075b_1 rfl (lv_at hl 0 rfl) ?_
  refine va_alen (v := nI cp) hx hb C.2.2.2.2 hW.1 0 4 rfl rfl rfl dJ7_copyOf_9075b_2 ?_
  refine r_neN hx hb (a := n) (b := cp) (by omega) (by omega) (tgt := 14) dJ7_copyOf_9075b_3 (by decide) (fun c_3 => ?_) (fun c_3 => ?_)
  · refine lv_iload_n hx hb dJ7_copyOf_9075b_14 rfl (lv_at hl 1 rfl) ?_
    refine cx_newa C hA hW 4 (atype := .byte) (a0 := (n, .inl (fun _ => nI 0))) gw_345 rfl rfl (fun _ _ h9 => h9) (fun _ => rfl) (by omega) (by show n * 1 ≤ 536870912; omega) (by first | omega | (dsimp only [cxR]; omega)) (by first | omega | (dsimp only [cxR]; omega)) dJ7_copyOf_9075b_15 (fun q_15 H hW => ?_)
    refine lv_astore_n (lv' := [(2, .ref q_15), (0, .ref ov), (1, .int (nI n))]) hx hb dJ7_copyOf_9075b_17 rfl hl (by decide) rfl (fun ls hl => ?_)
    refine lv_aload_n hx hb dJ7_copyOf_9075b_18 rfl (lv_at hl 1 rfl) ?_
    refine lv_iconst (v := nI 0) hx hb dJ7_copyOf_9075b_19 (by decide) ?_
    refine lv_aload_n hx hb dJ7_copyOf_9075b_20 rfl (lv_at hl 0 rfl) ?_
    refine lv_iconst (v := nI 0) hx hb dJ7_copyOf_9075b_21 (by decide) ?_
    refine lv_aload_n hx hb dJ7_copyOf_9075b_22 rfl (lv_at hl 1 rfl) ?_
    refine va_alen (v := nI cp) hx hb C.2.2.2.2 hW.1 0 4 rfl rfl rfl dJ7_copyOf_9075b_23 ?_
    refine lv_iload_n hx hb dJ7_copyOf_9075b_24 rfl (lv_at hl 2 rfl) ?_
    refine cx_min C hml hl.1 gw_1271 ⟨Nat.le_of_ble_eq_true rfl, Nat.le_of_ble_eq_true rfl, Nat.le_of_ble_eq_true rfl⟩ ⟨by first | omega | (dsimp only [cxR]; omega), by first | omega | (dsimp only [cxR]; omega)⟩ dJ7_copyOf_9075b_25 ?_
    refine r_eq (y := (nI cp)) ((sb_min (by omega) (by omega)).trans (by rw [Nat.min_eq_left (by omega)])) ?_
    refine cx_copyB C hml hl.1 hW 0 1 4 (W1 := [(ov, .inl (aT 4, cp, .inl fO)), (q_15, .inl (aT 4, n, .inl (va_cpy fO (fun _ => nI 0) 0 0 cp)))]) rfl rfl rfl rfl (hfit) (by omega) (by omega) (by omega) gw_1272 gw_392 gw_391 gw_82 (Nat.le_of_ble_eq_true rfl) (Nat.le_of_ble_eq_true rfl) rfl dJ7_copyOf_9075b_28 (fun H locs hW => ?_)
    refine lv_aload_n hx hb dJ7_copyOf_9075b_31 rfl (lv_at hl 0 rfl) ?_
    exact cx_aret C hr (Or.inr ⟨_, rfl⟩) hlocks (some q_15) hW ⟨by first | omega | (dsimp only [cxR]; omega), by first | omega | (dsimp only [cxR]; omega)⟩ (⟨_, _, rfl, sb_fitC hfit sb_fit0, rfl⟩) dJ7_copyOf_9075b_32
  · exact absurd c_3 (by omega)
theorem dJ5_ensureCapacityInternal_d00df_0 : decode cJ5_ensureCapacityInternal_d00df 0 = .ok (.aload_n 0, 1) := by decide +kernel
theorem dJ5_ensureCapacityInternal_d00df_1 : decode cJ5_ensureCapacityInternal_d00df 1 = .ok (.getfield 15, 3) := by decide +kernel
theorem dJ5_ensureCapacityInternal_d00df_4 : decode cJ5_ensureCapacityInternal_d00df 4 = .ok (.arraylength, 1) := by decide +kernel
theorem dJ5_ensureCapacityInternal_d00df_5 : decode cJ5_ensureCapacityInternal_d00df 5 = .ok (.aload_n 0, 1) := by decide +kernel
theorem dJ5_ensureCapacityInternal_d00df_6 : decode cJ5_ensureCapacityInternal_d00df 6 = .ok (.getfield 22, 3) := by decide +kernel
theorem dJ5_ensureCapacityInternal_d00df_9 : decode cJ5_ensureCapacityInternal_d00df 9 = .ok (.ishr, 1) := by decide +kernel
theorem dJ5_ensureCapacityInternal_d00df_10 : decode cJ5_ensureCapacityInternal_d00df 10 = .ok (.istore_n 2, 1) := by decide +kernel
theorem dJ5_ensureCapacityInternal_d00df_11 : decode cJ5_ensureCapacityInternal_d00df 11 = .ok (.iload_n 1, 1) := by decide +kernel
theorem dJ5_ensureCapacityInternal_d00df_12 : decode cJ5_ensureCapacityInternal_d00df 12 = .ok (.iload_n 2, 1) := by decide +kernel
theorem dJ5_ensureCapacityInternal_d00df_13 : decode cJ5_ensureCapacityInternal_d00df 13 = .ok (.isub, 1) := by decide +kernel
theorem dJ5_ensureCapacityInternal_d00df_14 : decode cJ5_ensureCapacityInternal_d00df 14 = .ok (.ifCond .le 24, 3) := by decide +kernel
theorem dJ5_ensureCapacityInternal_d00df_17 : decode cJ5_ensureCapacityInternal_d00df 17 = .ok (.aload_n 0, 1) := by decide +kernel
theorem dJ5_ensureCapacityInternal_d00df_18 : decode cJ5_ensureCapacityInternal_d00df 18 = .ok (.aload_n 0, 1) := by decide +kernel
theorem dJ5_ensureCapacityInternal_d00df_19 : decode cJ5_ensureCapacityInternal_d00df 19 = .ok (.getfield 15, 3) := by decide +kernel
theorem dJ5_ensureCapacityInternal_d00df_22 : decode cJ5_ensureCapacityInternal_d00df 22 = .ok (.aload_n 0, 1) := by decide +kernel
theorem dJ5_ensureCapacityInternal_d00df_23 : decode cJ5_ensureCapacityInternal_d00df 23 = .ok (.iload_n 1, 1) := by decide +kernel
theorem dJ5_ensureCapacityInternal_d00df_24 : decode cJ5_ensureCapacityInternal_d00df 24 = .ok (.invokevirtual 104, 3) := by decide +kernel
theorem dJ5_ensureCapacityInternal_d00df_27 : decode cJ5_ensureCapacityInternal_d00df 27 = .ok (.aload_n 0, 1) := by decide +kernel
theorem dJ5_ensureCapacityInternal_d00df_28 : decode cJ5_ensureCapacityInternal_d00df 28 = .ok (.getfield 22, 3) := by decide +kernel
theorem dJ5_ensureCapacityInternal_d00df_31 : decode cJ5_ensureCapacityInternal_d00df 31 = .ok (.ishl, 1) := by decide +kernel
theorem dJ5_ensureCapacityInternal_d00df_32 : decode cJ5_ensureCapacityInternal_d00df 32 = .ok (.invokestatic 108, 3) := by decide +kernel
theorem dJ5_ensureCapacityInternal_d00df_35 : decode cJ5_ensureCapacityInternal_d00df 35 = .ok (.putfield 15, 3) := by decide +kernel
theorem dJ5_ensureCapacityInternal_d00df_38 : decode cJ5_ensureCapacityInternal_d00df 38 = .ok (.return_, 1) := by decide +kernel
theorem hU_J5_newCapacity_0f7a4 : yJ5_newCapacity_0f7a4.cls ≠ "java/lang/invoke/MethodHandle" ∧ yJ5_newCapacity_0f7a4.cls ≠ "java/lang/invoke/VarHandle" ∧ (parseMethodDescriptor yJ5_newCapacity_0f7a4.desc).map (fun d => d.parameters.length) = some 1 := ⟨by decide +kernel, by decide +kernel, by decide +kernel⟩
theorem gS_J5_J7_copyOf_9075b_108 : GoodIn gw (va_wsS RJ5 108 yJ7_copyOf_9075b (Cond.code yJ7_copyOf_9075b cJ7_copyOf_9075b 3 (some (.array .byte)) :: gw)) := gdS2 gw_1377 gw_1378 gw_93 gw_1379
theorem hS_J7_copyOf_9075b : yJ7_copyOf_9075b.cls ≠ "java/lang/invoke/MethodHandle" ∧ yJ7_copyOf_9075b.cls ≠ "java/lang/invoke/VarHandle" ∧ (parseMethodDescriptor yJ7_copyOf_9075b.desc).map (fun d => d.parameters.length) = some 2 := ⟨by decide +kernel, by decide +kernel, by decide +kernel⟩
set_option maxHeartbeats 2000000 in
set_option maxRecDepth 20000 in
theorem k_J5_ensureCapacityInternal_d00df (l : Launch) (hfl : l.stackTraces = false) (D : va_G) (aT : Nat → ClassId) (o0 : Nat) (ov : Nat) (cn : Nat) (cp : Nat) (fO : Nat → Int32) (mb : Int32) (hfit : sb_Fit fO) (hcn : cn ≤ cp) (hcp : cp ≤ 4000) (q : Nat) (hq : q ≤ 2000) : CxG l yJ5_ensureCapacityInternal_d00df cJ5_ensureCapacityInternal_d00df 3 none 3 1 (gsl cp q) 88 D aT [.ref o0, .int (nI q)] [(o0, .inr (1, [.ref ov, .int (nI 0), .int mb, .int (nI cn)])), (ov, .inl (aT 4, cp, .inl fO))] (qV D aT (fun W1 => ∃ (ov2 : Nat) (f2 : Nat → Int32), sb_Fit f2 ∧ W1 = ([(o0, .inr (1, [.ref ov2, .int (nI 0), .int mb, .int (nI cn)])), (ov2, .inl (aT 4, (gcp cp q), .inl f2))] : va_W))) (fun _ _ => False) := by
  refine CxG.of RJ5 (by decide +kernel) rfl (Nat.le_of_ble_eq_true rfl) ?_
  intro p e s m below meth c A ls C hml hl hA hr hlocks hex hnm hZ hW
  have hl : lv_has ls 3 [(0, .ref o0), (1, .int (nI q))] := hl
  have hx := C.1
  have hb := C.2.1
  refine lv_aload_n hx hb dJ5_ensureCapacityInternal_d00df_0 rfl (lv_at hl 0 rfl) ?_
  refine cx_get C hW 0 0 rfl rfl (by decide) inJ4 gw_331 rfl rfl dJ5_ensureCapacityInternal_d00df_1 ?_
  refine va_alen (v := nI cp) hx hb C.2.2.2.2 hW.1 1 4 rfl rfl rfl dJ5_ensureCapacityInternal_d00df_4 ?_
  refine lv_aload_n hx hb dJ5_ensureCapacityInternal_d00df_5 rfl (lv_at hl 0 rfl) ?_
  refine cx_get C hW 0 1 rfl rfl (by decide) inJ4 gw_332 rfl rfl dJ5_ensureCapacityInternal_d00df_6 ?_
  refine lv_ishr hx hb dJ5_ensureCapacityInternal_d00df_9 ?_
  refine r_eq (y := (nI cp)) (sb_shr _) ?_
  refine lv_istore_n (lv' := [(2, .int (nI cp)), (0, .ref o0), (1, .int (nI q))]) hx hb dJ5_ensureCapacityInternal_d00df_10 rfl hl (by decide) rfl (fun ls hl => ?_)
  refine lv_iload_n hx hb dJ5_ensureCapacityInternal_d00df_11 rfl (lv_at hl 2 rfl) ?_
  refine lv_iload_n hx hb dJ5_ensureCapacityInternal_d00df_12 rfl (lv_at hl 0 rfl) ?_
  refine lv_isub hx hb dJ5_ensureCapacityInternal_d00df_13 ?_
  refine lv_if_le hx hb (x := ((nI q) - (nI cp))) (tgt := 38) dJ5_ensureCapacityInternal_d00df_14 (by decide) (fun c_14 => ?_) (fun c_14 => ?_)
  · have h14 : q ≤ cp := sb_sub (by omega) (by omega) c_14
    exact cx_vret C hr hlocks hW ⟨Nat.le_of_ble_eq_true rfl, Nat.le_of_ble_eq_true rfl⟩ (⟨ov, fO, hfit, by rw [gcp_y h14]⟩) dJ5_ensureCapacityInternal_d00df_38
  · have h14 : ¬ q ≤ cp := sb_subN (by omega) (by omega) c_14
    have hg14 : gsl cp q = gcp cp q := by rw [gcp_n h14, gsl_n h14]
    have hg15 : gcp cp q ≤ 9000 := by have := gcp_f cp q; omega
    have hg16 : cp < gcp cp q := by have := gcp_f cp q; omega
    refine lv_aload_n hx hb dJ5_ensureCapacityInternal_d00df_17 rfl (lv_at hl 1 rfl) ?_
    refine lv_aload_n hx hb dJ5_ensureCapacityInternal_d00df_18 rfl (lv_at hl 1 rfl) ?_
    refine cx_get C hW 0 0 rfl rfl (by decide) inJ4 gw_331 rfl rfl dJ5_ensureCapacityInternal_d00df_19 ?_
    refine lv_aload_n hx hb dJ5_ensureCapacityInternal_d00df_22 rfl (lv_at hl 1 rfl) ?_
    refine lv_iload_n hx hb dJ5_ensureCapacityInternal_d00df_23 rfl (lv_at hl 2 rfl) ?_
    refine cx_calli (Wr := []) (cx_runUP C hml hl.1 hZ hW hA (As := [.int (nI q)]) (rest := [.ref ov, .ref o0]) (k_J5_newCapacity_0f7a4 l hfl D aT o0 ov cn cp fO mb hfit hcn hcp q (by omega)) gw_1371 gw_2105 gw_1373 gw_77 gw_1374 (C.2.2.1 _ gw_sb2) hU_J5_newCapacity_0f7a4 rfl ⟨Nat.le_of_ble_eq_true rfl, Nat.le_of_ble_eq_true rfl⟩ ⟨Nat.le_of_ble_eq_true rfl, Nat.le_of_ble_eq_true rfl⟩ [0, 1] rfl (by decide) 0 1 rfl rfl rfl rfl (Nat.le_of_ble_eq_true rfl) dJ5_ensureCapacityInternal_d00df_24) hW hA [0, 1] [] rfl rfl (by decide) (by decide) (fun _ _ _ _ _ _ h9 => h9.elim) (fun r_24 W_24 H locs hq hW => ?_)
    obtain ⟨rfl, rfl⟩ := hq
    refine lv_aload_n hx hb dJ5_ensureCapacityInternal_d00df_27 rfl (lv_at hl 1 rfl) ?_
    refine cx_get C hW 0 1 rfl rfl (by decide) inJ4 gw_332 rfl rfl dJ5_ensureCapacityInternal_d00df_28 ?_
    refine lv_ishl hx hb dJ5_ensureCapacityInternal_d00df_31 ?_
    refine r_eq (y := (nI (gcp cp q))) ((sb_shl _).trans (by rw [gcp_n h14])) ?_
    refine cx_callr (Wr := [(o0, .inr (1, [.ref ov, .int (nI 0), .int mb, .int (nI cn)]))]) (cx_runS C hml hl.1 hZ hW hA (As := [.ref ov, .int (nI (gcp cp q))]) (rest := [.ref o0]) (k_copyOfB l hfl D aT ov cp fO (gcp cp q) hfit (by omega)) gS_J5_J7_copyOf_9075b_108 hS_J7_copyOf_9075b rfl ⟨Nat.le_of_ble_eq_true rfl, Nat.le_of_ble_eq_true rfl⟩ ⟨by first | omega | (dsimp only [cxR]; omega), by first | omega | (dsimp only [cxR]; omega)⟩ [1] rfl (by decide) rfl (Nat.le_of_ble_eq_true rfl) dJ5_ensureCapacityInternal_d00df_32) hW hA [1] [0] rfl rfl (by decide) (by decide) (fun _ _ _ _ _ _ h9 => h9.elim) (fun r_32 W_32 H locs hq hW => ?_)
    obtain ⟨q9_32, f9_32, rfl, hf9_32, rfl⟩ := hq
    refine cx_put C hW 0 0 (W1 := [(o0, .inr (1, [.ref q9_32, .int (nI 0), .int mb, .int (nI cn)])), (ov, .inl (aT 4, cp, .inl fO)), (q9_32, .inl (aT 4, gcp cp q, .inl f9_32))]) rfl rfl (by decide) inJ4 tyJ4 tyJ4_ok nmJ4 gw_331 rfl rfl rfl rfl rfl (Nat.le_of_ble_eq_true rfl) rfl dJ5_ensureCapacityInternal_d00df_35 (fun H locs hW => ?_)
    have hW : CxB D [(o0, .inr (1, [.ref q9_32, .int (nI 0), .int mb, .int (nI cn)])), (q9_32, .inl (aT 4, gcp cp q, .inl f9_32))] A s.heap H _ := cx_drop hW [0, 2] rfl (by decide)
    exact cx_vret C hr hlocks hW ⟨by first | omega | (dsimp only [cxR]; omega), by first | omega | (dsimp only [cxR]; omega)⟩ (⟨_, _, hf9_32, rfl⟩) dJ5_ensureCapacityInternal_d00df_38
theorem dJ1_canEncode_fc78d_0 : decode cJ1_canEncode_fc78d 0 = .ok (.iload_n 0, 1) := by decide +kernel
theorem dJ1_canEncode_fc78d_1 : decode cJ1_canEncode_fc78d 1 = .ok (.sipush 255, 3) := by decide +kernel
theorem dJ1_canEncode_fc78d_4 : decode cJ1_canEncode_fc78d 4 = .ok (.if_icmp .gt 7, 3) := by decide +kernel
theorem dJ1_canEncode_fc78d_7 : decode cJ1_canEncode_fc78d 7 = .ok (.iconst 1, 1) := by decide +kernel
theorem dJ1_canEncode_fc78d_8 : decode cJ1_canEncode_fc78d 8 = .ok (.goto 4, 3) := by decide +kernel
theorem dJ1_canEncode_fc78d_11 : decode cJ1_canEncode_fc78d 11 = .ok (.iconst 0, 1) := by decide +kernel
theorem dJ1_canEncode_fc78d_12 : decode cJ1_canEncode_fc78d 12 = .ok (.ireturn, 1) := by decide +kernel
set_option maxHeartbeats 2000000 in
set_option maxRecDepth 20000 in
theorem k_canEncode (l : Launch) (hfl : l.stackTraces = false) (D : va_G) (aT : Nat → ClassId) (ch : Nat) (hch : ch ≤ 255) : CxG l yJ1_canEncode_fc78d cJ1_canEncode_fc78d 1 (some (.boolean)) 0 0 0 0 D aT [.int (nI ch)] [] (qI D aT (fun r W1 => r = nI 1 ∧ W1 = [])) (fun _ _ => False) := by
  refine CxG.of RJ1 (by decide +kernel) rfl (Nat.le_of_ble_eq_true rfl) ?_
  intro p e s m below meth c A ls C hml hl hA hr hlocks hex hnm hZ hW
  have hl : lv_has ls 1 [(0, .int (nI ch))] := hl
  have hx := C.1
  have hb := C.2.1
  refine lv_iload_n hx hb dJ1_canEncode_fc78d_0 rfl (lv_at hl 0 rfl) ?_
  refine lv_sipush (v := nI 255) hx hb dJ1_canEncode_fc78d_1 (by decide) ?_
  refine r_gtN hx hb (a := ch) (b := 255) (by omega) (by omega) (tgt := 11) dJ1_canEncode_fc78d_4 (by decide) (fun c_4 => ?_) (fun c_4 => ?_)
  · exact absurd c_4 (by omega)
  · refine lv_iconst (v := nI 1) hx hb dJ1_canEncode_fc78d_7 (by decide) ?_
    refine lv_goto (tgt := 12) hx hb dJ1_canEncode_fc78d_8 (by decide) ?_
    exact cx_iret C hr hlocks (by decide) hW ⟨Nat.le_of_ble_eq_true rfl, Nat.le_of_ble_eq_true rfl⟩ (⟨rfl, rfl⟩) dJ1_canEncode_fc78d_12
theorem dJ5_append_3fe6f_0 : decode cJ5_append_3fe6f 0 = .ok (.aload_n 0, 1) := by decide +kernel
theorem dJ5_append_3fe6f_1 : decode cJ5_append_3fe6f 1 = .ok (.aload_n 0, 1) := by decide +kernel
theorem dJ5_append_3fe6f_2 : decode cJ5_append_3fe6f 2 = .ok (.getfield 79, 3) := by decide +kernel
theorem dJ5_append_3fe6f_5 : decode cJ5_append_3fe6f 5 = .ok (.iconst 1, 1) := by decide +kernel
theorem dJ5_append_3fe6f_6 : decode cJ5_append_3fe6f 6 = .ok (.iadd, 1) := by decide +kernel
theorem dJ5_append_3fe6f_7 : decode cJ5_append_3fe6f 7 = .ok (.invokevirtual 100, 3) := by decide +kernel
theorem dJ5_append_3fe6f_10 : decode cJ5_append_3fe6f 10 = .ok (.aload_n 0, 1) := by decide +kernel
theorem dJ5_append_3fe6f_11 : decode cJ5_append_3fe6f 11 = .ok (.invokevirtual 83, 3) := by decide +kernel
theorem dJ5_append_3fe6f_14 : decode cJ5_append_3fe6f 14 = .ok (.ifCond .eq 31, 3) := by decide +kernel
theorem dJ5_append_3fe6f_17 : decode cJ5_append_3fe6f 17 = .ok (.iload_n 1, 1) := by decide +kernel
theorem dJ5_append_3fe6f_18 : decode cJ5_append_3fe6f 18 = .ok (.invokestatic 191, 3) := by decide +kernel
theorem dJ5_append_3fe6f_21 : decode cJ5_append_3fe6f 21 = .ok (.ifCond .eq 24, 3) := by decide +kernel
theorem dJ5_append_3fe6f_24 : decode cJ5_append_3fe6f 24 = .ok (.aload_n 0, 1) := by decide +kernel
theorem dJ5_append_3fe6f_25 : decode cJ5_append_3fe6f 25 = .ok (.getfield 15, 3) := by decide +kernel
theorem dJ5_append_3fe6f_28 : decode cJ5_append_3fe6f 28 = .ok (.aload_n 0, 1) := by decide +kernel
theorem dJ5_append_3fe6f_29 : decode cJ5_append_3fe6f 29 = .ok (.dup, 1) := by decide +kernel
theorem dJ5_append_3fe6f_30 : decode cJ5_append_3fe6f 30 = .ok (.getfield 79, 3) := by decide +kernel
theorem dJ5_append_3fe6f_33 : decode cJ5_append_3fe6f 33 = .ok (.dup_x1, 1) := by decide +kernel
theorem dJ5_append_3fe6f_34 : decode cJ5_append_3fe6f 34 = .ok (.iconst 1, 1) := by decide +kernel
theorem dJ5_append_3fe6f_35 : decode cJ5_append_3fe6f 35 = .ok (.iadd, 1) := by decide +kernel
theorem dJ5_append_3fe6f_36 : decode cJ5_append_3fe6f 36 = .ok (.putfield 79, 3) := by decide +kernel
theorem dJ5_append_3fe6f_39 : decode cJ5_append_3fe6f 39 = .ok (.iload_n 1, 1) := by decide +kernel
theorem dJ5_append_3fe6f_40 : decode cJ5_append_3fe6f 40 = .ok (.i2b, 1) := by decide +kernel
theorem dJ5_append_3fe6f_41 : decode cJ5_append_3fe6f 41 = .ok (.bastore, 1) := by decide +kernel
theorem dJ5_append_3fe6f_42 : decode cJ5_append_3fe6f 42 = .ok (.goto 33, 3) := by decide +kernel
theorem dJ5_append_3fe6f_45 : decode cJ5_append_3fe6f 45 = .ok (.aload_n 0, 1) := by decide +kernel
theorem dJ5_append_3fe6f_46 : decode cJ5_append_3fe6f 46 = .ok (.invokevirtual 83, 3) := by decide +kernel
theorem dJ5_append_3fe6f_49 : decode cJ5_append_3fe6f 49 = .ok (.ifCond .eq 7, 3) := by decide +kernel
theorem dJ5_append_3fe6f_52 : decode cJ5_append_3fe6f 52 = .ok (.aload_n 0, 1) := by decide +kernel
theorem dJ5_append_3fe6f_53 : decode cJ5_append_3fe6f 53 = .ok (.invokevirtual 195, 3) := by decide +kernel
theorem dJ5_append_3fe6f_56 : decode cJ5_append_3fe6f 56 = .ok (.aload_n 0, 1) := by decide +kernel
theorem dJ5_append_3fe6f_57 : decode cJ5_append_3fe6f 57 = .ok (.getfield 15, 3) := by decide +kernel
theorem dJ5_append_3fe6f_60 : decode cJ5_append_3fe6f 60 = .ok (.aload_n 0, 1) := by decide +kernel
theorem dJ5_append_3fe6f_61 : decode cJ5_append_3fe6f 61 = .ok (.dup, 1) := by decide +kernel
theorem dJ5_append_3fe6f_62 : decode cJ5_append_3fe6f 62 = .ok (.getfield 79, 3) := by decide +kernel
theorem dJ5_append_3fe6f_65 : decode cJ5_append_3fe6f 65 = .ok (.dup_x1, 1) := by decide +kernel
theorem dJ5_append_3fe6f_66 : decode cJ5_append_3fe6f 66 = .ok (.iconst 1, 1) := by decide +kernel
theorem dJ5_append_3fe6f_67 : decode cJ5_append_3fe6f 67 = .ok (.iadd, 1) := by decide +kernel
theorem dJ5_append_3fe6f_68 : decode cJ5_append_3fe6f 68 = .ok (.putfield 79, 3) := by decide +kernel
theorem dJ5_append_3fe6f_71 : decode cJ5_append_3fe6f 71 = .ok (.iload_n 1, 1) := by decide +kernel
theorem dJ5_append_3fe6f_72 : decode cJ5_append_3fe6f 72 = .ok (.invokestatic 197, 3) := by decide +kernel
theorem dJ5_append_3fe6f_75 : decode cJ5_append_3fe6f 75 = .ok (.aload_n 0, 1) := by decide +kernel
theorem dJ5_append_3fe6f_76 : decode cJ5_append_3fe6f 76 = .ok (.areturn, 1) := by decide +kernel
theorem hU_J5_ensureCapacityInternal_d00df : yJ5_ensureCapacityInternal_d00df.cls ≠ "java/lang/invoke/MethodHandle" ∧ yJ5_ensureCapacityInternal_d00df.cls ≠ "java/lang/invoke/VarHandle" ∧ (parseMethodDescriptor yJ5_ensureCapacityInternal_d00df.desc).map (fun d => d.parameters.length) = some 1 := ⟨by decide +kernel, by decide +kernel, by decide +kernel⟩
theorem hU_J5_isLatin1_aae02 : yJ5_isLatin1_aae02.cls ≠ "java/lang/invoke/MethodHandle" ∧ yJ5_isLatin1_aae02.cls ≠ "java/lang/invoke/VarHandle" ∧ (parseMethodDescriptor yJ5_isLatin1_aae02.desc).map (fun d => d.parameters.length) = some 0 := ⟨by decide +kernel, by decide +kernel, by decide +kernel⟩
theorem gS_J5_J1_canEncode_fc78d_191 : GoodIn gw (va_wsS RJ5 191 yJ1_canEncode_fc78d (Cond.code yJ1_canEncode_fc78d cJ1_canEncode_fc78d 1 (some .boolean) :: gw)) := gdS2 gw_1572 gw_1573 gw_95 gw_1574
theorem hS_J1_canEncode_fc78d : yJ1_canEncode_fc78d.cls ≠ "java/lang/invoke/MethodHandle" ∧ yJ1_canEncode_fc78d.cls ≠ "java/lang/invoke/VarHandle" ∧ (parseMethodDescriptor yJ1_canEncode_fc78d.desc).map (fun d => d.parameters.length) = some 1 := ⟨by decide +kernel, by decide +kernel, by decide +kernel⟩
set_option maxHeartbeats 2000000 in
set_option maxRecDepth 20000 in
theorem k_appendC5 (l : Launch) (hfl : l.stackTraces = false) (D : va_G) (aT : Nat → ClassId) (o0 : Nat) (ov : Nat) (cn : Nat) (cp : Nat) (fO : Nat → Int32) (mb : Int32) (hfit : sb_Fit fO) (hcn : cn ≤ cp) (hcp : cp ≤ 4000) (ch : Nat) (hch : ch ≤ 255) (hq1 : cn + 1 ≤ 1900) : CxG l yJ5_append_3fe6f cJ5_append_3fe6f 2 (some ((.object "java/lang/AbstractStringBuilder"))) 4 1 (gsl cp (cn + 1)) 110 D aT [.ref o0, .int (nI ch)] [(o0, .inr (1, [.ref ov, .int (nI 0), .int mb, .int (nI cn)])), (ov, .inl (aT 4, cp, .inl fO))] (qR D aT (fun r W1 => ∃ (ov2 : Nat) (f2 : Nat → Int32), r = some o0 ∧ sb_Fit f2 ∧ W1 = ([(o0, .inr (1, [.ref ov2, .int (nI 0), .int mb, .int (nI (cn + 1))])), (ov2, .inl (aT 4, (gcp cp (cn + 1)), .inl f2))] : va_W))) (fun _ _ => False) := by
  have hg := gcp_f cp (cn + 1)
  refine CxG.of RJ5 (by decide +kernel) rfl (Nat.le_of_ble_eq_true rfl) ?_
  intro p e s m below meth c A ls C hml hl hA hr hlocks hex hnm hZ hW
  have hl : lv_has ls 2 [(0, .ref o0), (1, .int (nI ch))] := hl
  have hx := C.1
  have hb := C.2.1
  refine lv_aload_n hx hb dJ5_append_3fe6f_0 rfl (lv_at hl 0 rfl) ?_
  refine lv_aload_n hx hb dJ5_append_3fe6f_1 rfl (lv_at hl 0 rfl) ?_
  refine cx_get C hW 0 3 rfl rfl (by decide) inJ4 gw_335 rfl rfl dJ5_append_3fe6f_2 ?_
  refine lv_iconst (v := nI 1) hx hb dJ5_append_3fe6f_5 (by decide) ?_
  refine r_iaddN hx hb (a := cn) (b := 1) dJ5_append_3fe6f_6 ?_
  refine cx_callv (Wr := []) (cx_runUP C hml hl.1 hZ hW hA (As := [.int (nI (cn + 1))]) (rest := []) (k_J5_ensureCapacityInternal_d00df l hfl D aT o0 ov cn cp fO mb hfit hcn hcp (cn + 1) (by omega)) gw_1367 gw_2104 gw_1369 gw_77 gw_1370 (C.2.2.1 _ gw_sb1) hU_J5_ensureCapacityInternal_d00df rfl ⟨Nat.le_of_ble_eq_true rfl, Nat.le_of_ble_eq_true rfl⟩ ⟨by first | omega | (dsimp only [cxR]; omega), by first | omega | (dsimp only [cxR]; omega)⟩ [0, 1] rfl (by decide) 0 1 rfl rfl rfl rfl (Nat.le_of_ble_eq_true rfl) dJ5_append_3fe6f_7) hW hA [0, 1] [] rfl rfl (by decide) (by decide) (fun _ _ _ _ _ _ h9 => h9.elim) (fun W_7 H locs hq hW => ?_)
  obtain ⟨ov_7, f_7, hf_7, rfl⟩ := hq
  refine lv_aload_n hx hb dJ5_append_3fe6f_10 rfl (lv_at hl 0 rfl) ?_
  refine cx_calli (Wr := []) (cx_runUP C hml hl.1 hZ hW hA (As := []) (rest := []) (k_J5_isLatin1_aae02 l hfl D aT o0 ov_7 cn (gcp cp (cn + 1)) f_7 mb hf_7 (by omega) (by omega)) gw_1387 gw_1389 gw_1388 gw_77 gw_1391 (C.2.2.1 _ gw_1390) hU_J5_isLatin1_aae02 rfl ⟨Nat.le_of_ble_eq_true rfl, Nat.le_of_ble_eq_true rfl⟩ ⟨by first | omega | (dsimp only [cxR]; omega), by first | omega | (dsimp only [cxR]; omega)⟩ [0, 1] rfl (by decide) 0 1 rfl rfl rfl rfl (Nat.le_of_ble_eq_true rfl) dJ5_append_3fe6f_11) hW hA [0, 1] [] rfl rfl (by decide) (by decide) (fun _ _ _ _ _ _ h9 => h9.elim) (fun r_11 W_11 H locs hq hW => ?_)
  obtain ⟨rfl, rfl⟩ := hq
  refine lv_if_eq hx hb (x := (nI 1)) (tgt := 45) dJ5_append_3fe6f_14 (by decide) (fun c_14 => ?_) (fun c_14 => ?_)
  · exact absurd c_14 (by decide)
  · refine lv_iload_n hx hb dJ5_append_3fe6f_17 rfl (lv_at hl 1 rfl) ?_
    refine cx_calli (Wr := [(o0, .inr (1, [.ref ov_7, .int (nI 0), .int mb, .int (nI cn)])), (ov_7, .inl (aT 4, (gcp cp (cn + 1)), .inl f_7))]) (cx_runS C hml hl.1 hZ hW hA (As := [.int (nI ch)]) (rest := []) (k_canEncode l hfl D aT ch hch) gS_J5_J1_canEncode_fc78d_191 hS_J1_canEncode_fc78d rfl ⟨Nat.le_of_ble_eq_true rfl, Nat.le_of_ble_eq_true rfl⟩ ⟨by first | omega | (dsimp only [cxR]; omega), by first | omega | (dsimp only [cxR]; omega)⟩ [] rfl (by decide) rfl (Nat.le_of_ble_eq_true rfl) dJ5_append_3fe6f_18) hW hA [] [0, 1] rfl rfl (by decide) (by decide) (fun _ _ _ _ _ _ h9 => h9.elim) (fun r_18 W_18 H locs hq hW => ?_)
    obtain ⟨rfl, rfl⟩ := hq
    refine lv_if_eq hx hb (x := (nI 1)) (tgt := 45) dJ5_append_3fe6f_21 (by decide) (fun c_21 => ?_) (fun c_21 => ?_)
    · exact absurd c_21 (by decide)
    · refine lv_aload_n hx hb dJ5_append_3fe6f_24 rfl (lv_at hl 0 rfl) ?_
      refine cx_get C hW 0 0 rfl rfl (by decide) inJ4 gw_331 rfl rfl dJ5_append_3fe6f_25 ?_
      refine lv_aload_n hx hb dJ5_append_3fe6f_28 rfl (lv_at hl 0 rfl) ?_
      refine lv_dup hx hb dJ5_append_3fe6f_29 rfl ?_
      refine cx_get C hW 0 3 rfl rfl (by decide) inJ4 gw_335 rfl rfl dJ5_append_3fe6f_30 ?_
      refine lv_dup_x1 hx hb dJ5_append_3fe6f_33 rfl rfl ?_
      refine lv_iconst (v := nI 1) hx hb dJ5_append_3fe6f_34 (by decide) ?_
      refine r_iaddN hx hb (a := cn) (b := 1) dJ5_append_3fe6f_35 ?_
      refine cx_put C hW 0 3 (W1 := [(o0, .inr (1, [.ref ov_7, .int (nI 0), .int mb, .int (nI (cn + 1))])), (ov_7, .inl (aT 4, (gcp cp (cn + 1)), .inl f_7))]) rfl rfl (by decide) inJ4 tyJ4 tyJ4_ok nmJ4 gw_335 rfl rfl rfl rfl rfl (Nat.le_of_ble_eq_true rfl) rfl dJ5_append_3fe6f_36 (fun H locs hW => ?_)
      refine lv_iload_n hx hb dJ5_append_3fe6f_39 rfl (lv_at hl 1 rfl) ?_
      refine lv_i2b (v := ((nI ch).toInt8.toInt32)) hx hb dJ5_append_3fe6f_40 (rfl) ?_
      refine cx_bast C hW 1 4 (j := cn) (W1 := [(o0, .inr (1, [.ref ov_7, .int (nI 0), .int mb, .int (nI (cn + 1))])), (ov_7, .inl (aT 4, (gcp cp (cn + 1)), .inl (upd f_7 cn (vp_nar .byte (((nI ch).toInt8.toInt32))))))]) rfl rfl rfl (by omega) (by first | decide | omega) rfl dJ5_append_3fe6f_41 (fun H locs hW => ?_)
      refine lv_goto (tgt := 75) hx hb dJ5_append_3fe6f_42 (by decide) ?_
      refine lv_aload_n hx hb dJ5_append_3fe6f_75 rfl (lv_at hl 0 rfl) ?_
      exact cx_aret C hr (Or.inl ⟨_, rfl⟩) hlocks (some o0) hW ⟨by first | omega | (dsimp only [cxR]; omega), by first | omega | (dsimp only [cxR]; omega)⟩ (⟨_, _, rfl, sb_fitU hf_7 (sb_nar _), rfl⟩) dJ5_append_3fe6f_76
theorem dJ4_append_cf468_0 : decode cJ4_append_cf468 0 = .ok (.aload_n 0, 1) := by decide +kernel
theorem dJ4_append_cf468_1 : decode cJ4_append_cf468 1 = .ok (.iload_n 1, 1) := by decide +kernel
theorem dJ4_append_cf468_2 : decode cJ4_append_cf468 2 = .ok (.invokespecial 50, 3) := by decide +kernel
theorem dJ4_append_cf468_5 : decode cJ4_append_cf468 5 = .ok (.pop, 1) := by decide +kernel
theorem dJ4_append_cf468_6 : decode cJ4_append_cf468 6 = .ok (.aload_n 0, 1) := by decide +kernel
theorem dJ4_append_cf468_7 : decode cJ4_append_cf468 7 = .ok (.areturn, 1) := by decide +kernel
theorem gSU_J5_append_3fe6f : GoodIn gw (va_wsSU RJ4 50 yJ5_append_3fe6f (Cond.code yJ5_append_3fe6f cJ5_append_3fe6f 2 (some (.object "java/lang/AbstractStringBuilder")) :: gw)) := gdSU gw_1569 gw_2110 gw_344 gw_1570 gw_77 gw_1571
theorem hSU_J5_append_3fe6f : yJ5_append_3fe6f.name ≠ "<init>" ∧ (parseMethodDescriptor yJ5_append_3fe6f.desc).map (fun d => d.parameters.length) = some 1 := ⟨by decide +kernel, by decide +kernel⟩
set_option maxHeartbeats 2000000 in
set_option maxRecDepth 20000 in
theorem k_appendC4 (l : Launch) (hfl : l.stackTraces = false) (D : va_G) (aT : Nat → ClassId) (o0 : Nat) (ov : Nat) (cn : Nat) (cp : Nat) (fO : Nat → Int32) (mb : Int32) (hfit : sb_Fit fO) (hcn : cn ≤ cp) (hcp : cp ≤ 4000) (ch : Nat) (hch : ch ≤ 255) (hq1 : cn + 1 ≤ 1900) : CxG l yJ4_append_cf468 cJ4_append_cf468 2 (some ((.object "java/lang/StringBuilder"))) 5 1 (gsl cp (cn + 1)) 131 D aT [.ref o0, .int (nI ch)] [(o0, .inr (1, [.ref ov, .int (nI 0), .int mb, .int (nI cn)])), (ov, .inl (aT 4, cp, .inl fO))] (qR D aT (fun r W1 => ∃ (ov2 : Nat) (f2 : Nat → Int32), r = some o0 ∧ sb_Fit f2 ∧ W1 = ([(o0, .inr (1, [.ref ov2, .int (nI 0), .int mb, .int (nI (cn + 1))])), (ov2, .inl (aT 4, (gcp cp (cn + 1)), .inl f2))] : va_W))) (fun _ _ => False) := by
  refine CxG.of RJ4 (by decide +kernel) rfl (Nat.le_of_ble_eq_true rfl) ?_
  intro p e s m below meth c A ls C hml hl hA hr hlocks hex hnm hZ hW
  have hl : lv_has ls 2 [(0, .ref o0), (1, .int (nI ch))] := hl
  have hx := C.1
  have hb := C.2.1
  refine lv_aload_n hx hb dJ4_append_cf468_0 rfl (lv_at hl 0 rfl) ?_
  refine lv_iload_n hx hb dJ4_append_cf468_1 rfl (lv_at hl 1 rfl) ?_
  refine cx_callr (Wr := []) (cx_runSU C hml hl.1 hZ hW hA (As := [.int (nI ch)]) (rest := []) (k_appendC5 l hfl D aT o0 ov cn cp fO mb hfit hcn hcp ch hch hq1) gSU_J5_append_3fe6f hSU_J5_append_3fe6f rfl ⟨Nat.le_of_ble_eq_true rfl, Nat.le_of_ble_eq_true rfl⟩ ⟨by first | omega | (dsimp only [cxR]; omega), by first | omega | (dsimp only [cxR]; omega)⟩ [0, 1] rfl (by decide) 0 1 rfl rfl rfl (Nat.le_of_ble_eq_true rfl) dJ4_append_cf468_2) hW hA [0, 1] [] rfl rfl (by decide) (by decide) (fun _ _ _ _ _ _ h9 => h9.elim) (fun r_2 W_2 H locs hq hW => ?_)
  obtain ⟨ov_2, f_2, rfl, hf_2, rfl⟩ := hq
  refine lv_pop hx hb dJ4_append_cf468_5 rfl ?_
  refine lv_aload_n hx hb dJ4_append_cf468_6 rfl (lv_at hl 0 rfl) ?_
  exact cx_aret C hr (Or.inl ⟨_, rfl⟩) hlocks (some o0) hW ⟨by first | omega | (dsimp only [cxR]; omega), by first | omega | (dsimp only [cxR]; omega)⟩ (⟨_, _, rfl, hf_2, rfl⟩) dJ4_append_cf468_7
theorem dJ5_setLength_d00df_0 : decode cJ5_setLength_d00df 0 = .ok (.iload_n 1, 1) := by decide +kernel
theorem dJ5_setLength_d00df_1 : decode cJ5_setLength_d00df 1 = .ok (.ifCond .ge 12, 3) := by decide +kernel
theorem dJ5_setLength_d00df_4 : decode cJ5_setLength_d00df 4 = .ok (.new 129, 3) := by decide +kernel
theorem dJ5_setLength_d00df_7 : decode cJ5_setLength_d00df 7 = .ok (.dup, 1) := by decide +kernel
theorem dJ5_setLength_d00df_8 : decode cJ5_setLength_d00df 8 = .ok (.iload_n 1, 1) := by decide +kernel
theorem dJ5_setLength_d00df_9 : decode cJ5_setLength_d00df 9 = .ok (.invokespecial 131, 3) := by decide +kernel
theorem dJ5_setLength_d00df_12 : decode cJ5_setLength_d00df 12 = .ok (.athrow, 1) := by decide +kernel
theorem dJ5_setLength_d00df_13 : decode cJ5_setLength_d00df 13 = .ok (.aload_n 0, 1) := by decide +kernel
theorem dJ5_setLength_d00df_14 : decode cJ5_setLength_d00df 14 = .ok (.iload_n 1, 1) := by decide +kernel
theorem dJ5_setLength_d00df_15 : decode cJ5_setLength_d00df 15 = .ok (.invokevirtual 100, 3) := by decide +kernel
theorem dJ5_setLength_d00df_18 : decode cJ5_setLength_d00df 18 = .ok (.aload_n 0, 1) := by decide +kernel
theorem dJ5_setLength_d00df_19 : decode cJ5_setLength_d00df 19 = .ok (.getfield 79, 3) := by decide +kernel
theorem dJ5_setLength_d00df_22 : decode cJ5_setLength_d00df 22 = .ok (.iload_n 1, 1) := by decide +kernel
theorem dJ5_setLength_d00df_23 : decode cJ5_setLength_d00df 23 = .ok (.if_icmp .ge 40, 3) := by decide +kernel
theorem dJ5_setLength_d00df_26 : decode cJ5_setLength_d00df 26 = .ok (.aload_n 0, 1) := by decide +kernel
theorem dJ5_setLength_d00df_27 : decode cJ5_setLength_d00df 27 = .ok (.invokevirtual 83, 3) := by decide +kernel
theorem dJ5_setLength_d00df_30 : decode cJ5_setLength_d00df 30 = .ok (.ifCond .eq 18, 3) := by decide +kernel
theorem dJ5_setLength_d00df_33 : decode cJ5_setLength_d00df 33 = .ok (.aload_n 0, 1) := by decide +kernel
theorem dJ5_setLength_d00df_34 : decode cJ5_setLength_d00df 34 = .ok (.getfield 15, 3) := by decide +kernel
theorem dJ5_setLength_d00df_37 : decode cJ5_setLength_d00df 37 = .ok (.aload_n 0, 1) := by decide +kernel
theorem dJ5_setLength_d00df_38 : decode cJ5_setLength_d00df 38 = .ok (.getfield 79, 3) := by decide +kernel
theorem dJ5_setLength_d00df_41 : decode cJ5_setLength_d00df 41 = .ok (.iload_n 1, 1) := by decide +kernel
theorem dJ5_setLength_d00df_42 : decode cJ5_setLength_d00df 42 = .ok (.invokestatic 133, 3) := by decide +kernel
theorem dJ5_setLength_d00df_45 : decode cJ5_setLength_d00df 45 = .ok (.goto 31, 3) := by decide +kernel
theorem dJ5_setLength_d00df_48 : decode cJ5_setLength_d00df 48 = .ok (.aload_n 0, 1) := by decide +kernel
theorem dJ5_setLength_d00df_49 : decode cJ5_setLength_d00df 49 = .ok (.getfield 15, 3) := by decide +kernel
theorem dJ5_setLength_d00df_52 : decode cJ5_setLength_d00df 52 = .ok (.aload_n 0, 1) := by decide +kernel
theorem dJ5_setLength_d00df_53 : decode cJ5_setLength_d00df 53 = .ok (.getfield 79, 3) := by decide +kernel
theorem dJ5_setLength_d00df_56 : decode cJ5_setLength_d00df 56 = .ok (.iload_n 1, 1) := by decide +kernel
theorem dJ5_setLength_d00df_57 : decode cJ5_setLength_d00df 57 = .ok (.invokestatic 137, 3) := by decide +kernel
theorem dJ5_setLength_d00df_60 : decode cJ5_setLength_d00df 60 = .ok (.goto 16, 3) := by decide +kernel
theorem dJ5_setLength_d00df_63 : decode cJ5_setLength_d00df 63 = .ok (.aload_n 0, 1) := by decide +kernel
theorem dJ5_setLength_d00df_64 : decode cJ5_setLength_d00df 64 = .ok (.getfield 79, 3) := by decide +kernel
theorem dJ5_setLength_d00df_67 : decode cJ5_setLength_d00df 67 = .ok (.iload_n 1, 1) := by decide +kernel
theorem dJ5_setLength_d00df_68 : decode cJ5_setLength_d00df 68 = .ok (.if_icmp .le 8, 3) := by decide +kernel
theorem dJ5_setLength_d00df_71 : decode cJ5_setLength_d00df 71 = .ok (.aload_n 0, 1) := by decide +kernel
theorem dJ5_setLength_d00df_72 : decode cJ5_setLength_d00df 72 = .ok (.iconst 1, 1) := by decide +kernel
theorem dJ5_setLength_d00df_73 : decode cJ5_setLength_d00df 73 = .ok (.putfield 73, 3) := by decide +kernel
theorem dJ5_setLength_d00df_76 : decode cJ5_setLength_d00df 76 = .ok (.aload_n 0, 1) := by decide +kernel
theorem dJ5_setLength_d00df_77 : decode cJ5_setLength_d00df 77 = .ok (.iload_n 1, 1) := by decide +kernel
theorem dJ5_setLength_d00df_78 : decode cJ5_setLength_d00df 78 = .ok (.putfield 79, 3) := by decide +kernel
theorem dJ5_setLength_d00df_81 : decode cJ5_setLength_d00df 81 = .ok (.return_, 1) := by decide +kernel
set_option maxHeartbeats 2000000 in
set_option maxRecDepth 20000 in
theorem k_setLength5 (l : Launch) (hfl : l.stackTraces = false) (D : va_G) (aT : Nat → ClassId) (o0 : Nat) (ov : Nat) (cn : Nat) (cp : Nat) (fO : Nat → Int32) (mb : Int32) (hfit : sb_Fit fO) (hcn : cn ≤ cp) (hcp : cp ≤ 4000) : CxG l yJ5_setLength_d00df cJ5_setLength_d00df 2 none 4 1 0 110 D aT [.ref o0, .int (nI 0)] [(o0, .inr (1, [.ref ov, .int (nI 0), .int mb, .int (nI cn)])), (ov, .inl (aT 4, cp, .inl fO))] (qV D aT (fun W1 => ∃ (ov2 : Nat) (f2 : Nat → Int32) (m2 : Int32), sb_Fit f2 ∧ W1 = ([(o0, .inr (1, [.ref ov2, .int (nI 0), .int m2, .int (nI 0)])), (ov2, .inl (aT 4, cp, .inl f2))] : va_W))) (fun _ _ => False) := by
  have hs0 : gsl cp 0 = 0 := if_pos (Nat.zero_le _)
  refine CxG.of RJ5 (by decide +kernel) rfl (Nat.le_of_ble_eq_true rfl) ?_
  intro p e s m below meth c A ls C hml hl hA hr hlocks hex hnm hZ hW
  have hl : lv_has ls 2 [(0, .ref o0), (1, .int (nI 0))] := hl
  have hx := C.1
  have hb := C.2.1
  refine lv_iload_n hx hb dJ5_setLength_d00df_0 rfl (lv_at hl 1 rfl) ?_
  refine lv_if_ge hx hb (x := (nI 0)) (tgt := 13) dJ5_setLength_d00df_1 (by decide) (fun c_1 => ?_) (fun c_1 => ?_)
  · refine lv_aload_n hx hb dJ5_setLength_d00df_13 rfl (lv_at hl 0 rfl) ?_
    refine lv_iload_n hx hb dJ5_setLength_d00df_14 rfl (lv_at hl 1 rfl) ?_
    refine cx_callv (Wr := []) (cx_runUP C hml hl.1 hZ hW hA (As := [.int (nI 0)]) (rest := []) (k_J5_ensureCapacityInternal_d00df l hfl D aT o0 ov cn cp fO mb hfit hcn hcp 0 (by omega)) gw_1367 gw_2104 gw_1369 gw_77 gw_1370 (C.2.2.1 _ gw_sb1) hU_J5_ensureCapacityInternal_d00df rfl ⟨Nat.le_of_ble_eq_true rfl, Nat.le_of_ble_eq_true rfl⟩ ⟨by first | omega | (dsimp only [cxR]; omega), by first | omega | (dsimp only [cxR]; omega)⟩ [0, 1] rfl (by decide) 0 1 rfl rfl rfl rfl (Nat.le_of_ble_eq_true rfl) dJ5_setLength_d00df_15) hW hA [0, 1] [] rfl rfl (by decide) (by decide) (fun _ _ _ _ _ _ h9 => h9.elim) (fun W_15 H locs hq hW => ?_)
    obtain ⟨ov_15, f_15, hf_15, rfl⟩ := hq
    rw [show gcp cp 0 = cp from gcp_y (Nat.zero_le _)] at hW
    refine lv_aload_n hx hb dJ5_setLength_d00df_18 rfl (lv_at hl 0 rfl) ?_
    refine cx_get C hW 0 3 rfl rfl (by decide) inJ4 gw_335 rfl rfl dJ5_setLength_d00df_19 ?_
    refine lv_iload_n hx hb dJ5_setLength_d00df_22 rfl (lv_at hl 1 rfl) ?_
    refine r_geN hx hb (a := cn) (b := 0) (by omega) (by omega) (tgt := 63) dJ5_setLength_d00df_23 (by decide) (fun c_23 => ?_) (fun c_23 => ?_)
    · refine lv_aload_n hx hb dJ5_setLength_d00df_63 rfl (lv_at hl 0 rfl) ?_
      refine cx_get C hW 0 3 rfl rfl (by decide) inJ4 gw_335 rfl rfl dJ5_setLength_d00df_64 ?_
      refine lv_iload_n hx hb dJ5_setLength_d00df_67 rfl (lv_at hl 1 rfl) ?_
      refine r_leN hx hb (a := cn) (b := 0) (by omega) (by omega) (tgt := 76) dJ5_setLength_d00df_68 (by decide) (fun c_68 => ?_) (fun c_68 => ?_)
      · refine lv_aload_n hx hb dJ5_setLength_d00df_76 rfl (lv_at hl 0 rfl) ?_
        refine lv_iload_n hx hb dJ5_setLength_d00df_77 rfl (lv_at hl 1 rfl) ?_
        refine cx_put C hW 0 3 (W1 := [(o0, .inr (1, [.ref ov_15, .int (nI 0), .int mb, .int (nI 0)])), (ov_15, .inl (aT 4, cp, .inl f_15))]) rfl rfl (by decide) inJ4 tyJ4 tyJ4_ok nmJ4 gw_335 rfl rfl rfl rfl rfl (Nat.le_of_ble_eq_true rfl) rfl dJ5_setLength_d00df_78 (fun H locs hW => ?_)
        exact cx_vret C hr hlocks hW ⟨by first | omega | (dsimp only [cxR]; omega), by first | omega | (dsimp only [cxR]; omega)⟩ (⟨_, _, _, hf_15, rfl⟩) dJ5_setLength_d00df_81
      · refine lv_aload_n hx hb dJ5_setLength_d00df_71 rfl (lv_at hl 0 rfl) ?_
        refine lv_iconst (v := nI 1) hx hb dJ5_setLength_d00df_72 (by decide) ?_
        refine cx_put C hW 0 2 (W1 := [(o0, .inr (1, [.ref ov_15, .int (nI 0), .int (nI 1), .int (nI cn)])), (ov_15, .inl (aT 4, cp, .inl f_15))]) rfl rfl (by decide) inJ4 tyJ4 tyJ4_ok nmJ4 gw_333 rfl rfl rfl (by decide) (by decide) (Nat.le_of_ble_eq_true rfl) rfl dJ5_setLength_d00df_73 (fun H locs hW => ?_)
        refine lv_aload_n hx hb dJ5_setLength_d00df_76 rfl (lv_at hl 0 rfl) ?_
        refine lv_iload_n hx hb dJ5_setLength_d00df_77 rfl (lv_at hl 1 rfl) ?_
        refine cx_put C hW 0 3 (W1 := [(o0, .inr (1, [.ref ov_15, .int (nI 0), .int (nI 1), .int (nI 0)])), (ov_15, .inl (aT 4, cp, .inl f_15))]) rfl rfl (by decide) inJ4 tyJ4 tyJ4_ok nmJ4 gw_335 rfl rfl rfl rfl rfl (Nat.le_of_ble_eq_true rfl) rfl dJ5_setLength_d00df_78 (fun H locs hW => ?_)
        exact cx_vret C hr hlocks hW ⟨by first | omega | (dsimp only [cxR]; omega), by first | omega | (dsimp only [cxR]; omega)⟩ (⟨_, _, _, hf_15, rfl⟩) dJ5_setLength_d00df_81
    · exact absurd c_23 (by omega)
  · exact absurd (by decide) c_1
theorem dJ4_setLength_d00df_0 : decode cJ4_setLength_d00df 0 = .ok (.aload_n 0, 1) := by decide +kernel
theorem dJ4_setLength_d00df_1 : decode cJ4_setLength_d00df 1 = .ok (.iload_n 1, 1) := by decide +kernel
theorem dJ4_setLength_d00df_2 : decode cJ4_setLength_d00df 2 = .ok (.invokespecial 333, 3) := by decide +kernel
theorem dJ4_setLength_d00df_5 : decode cJ4_setLength_d00df 5 = .ok (.return_, 1) := by decide +kernel
theorem gSU_J5_setLength_d00df : GoodIn gw (va_wsSU RJ4 333 yJ5_setLength_d00df (Cond.code yJ5_setLength_d00df cJ5_setLength_d00df 2 (none) :: gw)) := gdSU gw_1345 gw_2101 gw_344 gw_1346 gw_77 gw_1347
theorem hSU_J5_setLength_d00df : yJ5_setLength_d00df.name ≠ "<init>" ∧ (parseMethodDescriptor yJ5_setLength_d00df.desc).map (fun d => d.parameters.length) = some 1 := ⟨by decide +kernel, by decide +kernel⟩
set_option maxHeartbeats 2000000 in
set_option maxRecDepth 20000 in
theorem k_setLength4 (l : Launch) (hfl : l.stackTraces = false) (D : va_G) (aT : Nat → ClassId) (o0 : Nat) (ov : Nat) (cn : Nat) (cp : Nat) (fO : Nat → Int32) (mb : Int32) (hfit : sb_Fit fO) (hcn : cn ≤ cp) (hcp : cp ≤ 4000) : CxG l yJ4_setLength_d00df cJ4_setLength_d00df 2 none 5 1 0 131 D aT [.ref o0, .int (nI 0)] [(o0, .inr (1, [.ref ov, .int (nI 0), .int mb, .int (nI cn)])), (ov, .inl (aT 4, cp, .inl fO))] (qV D aT (fun W1 => ∃ (ov2 : Nat) (f2 : Nat → Int32) (m2 : Int32), sb_Fit f2 ∧ W1 = ([(o0, .inr (1, [.ref ov2, .int (nI 0), .int m2, .int (nI 0)])), (ov2, .inl (aT 4, cp, .inl f2))] : va_W))) (fun _ _ => False) := by
  refine CxG.of RJ4 (by decide +kernel) rfl (Nat.le_of_ble_eq_true rfl) ?_
  intro p e s m below meth c A ls C hml hl hA hr hlocks hex hnm hZ hW
  have hl : lv_has ls 2 [(0, .ref o0), (1, .int (nI 0))] := hl
  have hx := C.1
  have hb := C.2.1
  refine lv_aload_n hx hb dJ4_setLength_d00df_0 rfl (lv_at hl 0 rfl) ?_
  refine lv_iload_n hx hb dJ4_setLength_d00df_1 rfl (lv_at hl 1 rfl) ?_
  refine cx_callv (Wr := []) (cx_runSU C hml hl.1 hZ hW hA (As := [.int (nI 0)]) (rest := []) (k_setLength5 l hfl D aT o0 ov cn cp fO mb hfit hcn hcp) gSU_J5_setLength_d00df hSU_J5_setLength_d00df rfl ⟨Nat.le_of_ble_eq_true rfl, Nat.le_of_ble_eq_true rfl⟩ ⟨Nat.le_of_ble_eq_true rfl, Nat.le_of_ble_eq_true rfl⟩ [0, 1] rfl (by decide) 0 1 rfl rfl rfl (Nat.le_of_ble_eq_true rfl) dJ4_setLength_d00df_2) hW hA [0, 1] [] rfl rfl (by decide) (by decide) (fun _ _ _ _ _ _ h9 => h9.elim) (fun W_2 H locs hq hW => ?_)
  obtain ⟨ov_2, f_2, m_2, hf_2, rfl⟩ := hq
  exact cx_vret C hr hlocks hW ⟨Nat.le_of_ble_eq_true rfl, Nat.le_of_ble_eq_true rfl⟩ (⟨_, _, _, hf_2, rfl⟩) dJ4_setLength_d00df_5
theorem dJ5_charAt_5068e_0 : decode cJ5_charAt_5068e 0 = .ok (.aload_n 0, 1) := by decide +kernel
theorem dJ5_charAt_5068e_1 : decode cJ5_charAt_5068e 1 = .ok (.getfield 22, 3) := by decide +kernel
theorem dJ5_charAt_5068e_4 : decode cJ5_charAt_5068e 4 = .ok (.istore_n 2, 1) := by decide +kernel
theorem dJ5_charAt_5068e_5 : decode cJ5_charAt_5068e 5 = .ok (.aload_n 0, 1) := by decide +kernel
theorem dJ5_charAt_5068e_6 : decode cJ5_charAt_5068e 6 = .ok (.getfield 15, 3) := by decide +kernel
theorem dJ5_charAt_5068e_9 : decode cJ5_charAt_5068e 9 = .ok (.astore_n 3, 1) := by decide +kernel
theorem dJ5_charAt_5068e_10 : decode cJ5_charAt_5068e 10 = .ok (.aload_n 0, 1) := by decide +kernel
theorem dJ5_charAt_5068e_11 : decode cJ5_charAt_5068e 11 = .ok (.getfield 79, 3) := by decide +kernel
theorem dJ5_charAt_5068e_14 : decode cJ5_charAt_5068e 14 = .ok (.aload_n 3, 1) := by decide +kernel
theorem dJ5_charAt_5068e_15 : decode cJ5_charAt_5068e 15 = .ok (.arraylength, 1) := by decide +kernel
theorem dJ5_charAt_5068e_16 : decode cJ5_charAt_5068e 16 = .ok (.iload_n 2, 1) := by decide +kernel
theorem dJ5_charAt_5068e_17 : decode cJ5_charAt_5068e 17 = .ok (.ishr, 1) := by decide +kernel
theorem dJ5_charAt_5068e_18 : decode cJ5_charAt_5068e 18 = .ok (.invokestatic 138, 3) := by decide +kernel
theorem dJ5_charAt_5068e_21 : decode cJ5_charAt_5068e 21 = .ok (.istore 4, 2) := by decide +kernel
theorem dJ5_charAt_5068e_23 : decode cJ5_charAt_5068e 23 = .ok (.iload_n 1, 1) := by decide +kernel
theorem dJ5_charAt_5068e_24 : decode cJ5_charAt_5068e 24 = .ok (.iload 4, 2) := by decide +kernel
theorem dJ5_charAt_5068e_26 : decode cJ5_charAt_5068e 26 = .ok (.invokestatic 144, 3) := by decide +kernel
theorem dJ5_charAt_5068e_29 : decode cJ5_charAt_5068e 29 = .ok (.iload_n 2, 1) := by decide +kernel
theorem dJ5_charAt_5068e_30 : decode cJ5_charAt_5068e 30 = .ok (.ifCond .ne 12, 3) := by decide +kernel
theorem dJ5_charAt_5068e_33 : decode cJ5_charAt_5068e 33 = .ok (.aload_n 3, 1) := by decide +kernel
theorem dJ5_charAt_5068e_34 : decode cJ5_charAt_5068e 34 = .ok (.iload_n 1, 1) := by decide +kernel
theorem dJ5_charAt_5068e_35 : decode cJ5_charAt_5068e 35 = .ok (.baload, 1) := by decide +kernel
theorem dJ5_charAt_5068e_36 : decode cJ5_charAt_5068e 36 = .ok (.sipush 255, 3) := by decide +kernel
theorem dJ5_charAt_5068e_39 : decode cJ5_charAt_5068e 39 = .ok (.iand, 1) := by decide +kernel
theorem dJ5_charAt_5068e_40 : decode cJ5_charAt_5068e 40 = .ok (.i2c, 1) := by decide +kernel
theorem dJ5_charAt_5068e_41 : decode cJ5_charAt_5068e 41 = .ok (.ireturn, 1) := by decide +kernel
theorem dJ5_charAt_5068e_42 : decode cJ5_charAt_5068e 42 = .ok (.aload_n 3, 1) := by decide +kernel
theorem dJ5_charAt_5068e_43 : decode cJ5_charAt_5068e 43 = .ok (.iload_n 1, 1) := by decide +kernel
theorem dJ5_charAt_5068e_44 : decode cJ5_charAt_5068e 44 = .ok (.invokestatic 148, 3) := by decide +kernel
theorem dJ5_charAt_5068e_47 : decode cJ5_charAt_5068e 47 = .ok (.ireturn, 1) := by decide +kernel
theorem gS_J5_J0_checkIndex_df160_144 : GoodIn gw (va_wsS RJ5 144 yJ0_checkIndex_df160 (Cond.code yJ0_checkIndex_df160 cJ0_checkIndex_df160 2 (none) :: gw)) := gdS2 gw_1595 gw_1143 gw_79 gw_1144
set_option maxHeartbeats 2000000 in
set_option maxRecDepth 20000 in
theorem k_charAt5 (l : Launch) (hfl : l.stackTraces = false) (D : va_G) (aT : Nat → ClassId) (o0 : Nat) (ov : Nat) (cn : Nat) (cp : Nat) (fO : Nat → Int32) (mb : Int32) (hfit : sb_Fit fO) (hcn : cn ≤ cp) (hcp : cp ≤ 4000) (i : Nat) (hi : i < cn) : CxG l yJ5_charAt_5068e cJ5_charAt_5068e 5 (some (.char)) 2 0 0 43 D aT [.ref o0, .int (nI i)] [(o0, .inr (1, [.ref ov, .int (nI 0), .int mb, .int (nI cn)])), (ov, .inl (aT 4, cp, .inl fO))] (qI D aT (fun r W1 => ∃ x : Int32, r = (x.toUInt32 % 65536).toInt32 ∧ W1 = ([(o0, .inr (1, [.ref ov, .int (nI 0), .int mb, .int (nI cn)])), (ov, .inl (aT 4, cp, .inl fO))] : va_W))) (fun _ _ => False) := by
  refine CxG.of RJ5 (by decide +kernel) rfl (Nat.le_of_ble_eq_true rfl) ?_
  intro p e s m below meth c A ls C hml hl hA hr hlocks hex hnm hZ hW
  have hl : lv_has ls 5 [(0, .ref o0), (1, .int (nI i))] := hl
  have hx := C.1
  have hb := C.2.1
  refine lv_aload_n hx hb dJ5_charAt_5068e_0 rfl (lv_at hl 0 rfl) ?_
  refine cx_get C hW 0 1 rfl rfl (by decide) inJ4 gw_332 rfl rfl dJ5_charAt_5068e_1 ?_
  refine lv_istore_n (lv' := [(2, .int (nI 0)), (0, .ref o0), (1, .int (nI i))]) hx hb dJ5_charAt_5068e_4 rfl hl (by decide) rfl (fun ls hl => ?_)
  refine lv_aload_n hx hb dJ5_charAt_5068e_5 rfl (lv_at hl 1 rfl) ?_
  refine cx_get C hW 0 0 rfl rfl (by decide) inJ4 gw_331 rfl rfl dJ5_charAt_5068e_6 ?_
  refine lv_astore_n (lv' := [(3, .ref ov), (2, .int (nI 0)), (0, .ref o0), (1, .int (nI i))]) hx hb dJ5_charAt_5068e_9 rfl hl (by decide) rfl (fun ls hl => ?_)
  refine lv_aload_n hx hb dJ5_charAt_5068e_10 rfl (lv_at hl 2 rfl) ?_
  refine cx_get C hW 0 3 rfl rfl (by decide) inJ4 gw_335 rfl rfl dJ5_charAt_5068e_11 ?_
  refine lv_aload_n hx hb dJ5_charAt_5068e_14 rfl (lv_at hl 0 rfl) ?_
  refine va_alen (v := nI cp) hx hb C.2.2.2.2 hW.1 1 4 rfl rfl rfl dJ5_charAt_5068e_15 ?_
  refine lv_iload_n hx hb dJ5_charAt_5068e_16 rfl (lv_at hl 1 rfl) ?_
  refine lv_ishr hx hb dJ5_charAt_5068e_17 ?_
  refine r_eq (y := (nI cp)) (sb_shr _) ?_
  refine cx_min C hml hl.1 gw_1594 ⟨Nat.le_of_ble_eq_true rfl, Nat.le_of_ble_eq_true rfl, Nat.le_of_ble_eq_true rfl⟩ ⟨Nat.le_of_ble_eq_true rfl, Nat.le_of_ble_eq_true rfl⟩ dJ5_charAt_5068e_18 ?_
  refine r_eq (y := (nI cn)) ((sb_min (by omega) (by omega)).trans (by rw [Nat.min_eq_left hcn])) ?_
  refine lv_istore (lv' := [(4, .int (nI cn)), (3, .ref ov), (2, .int (nI 0)), (0, .ref o0), (1, .int (nI i))]) hx hb dJ5_charAt_5068e_21 hl (by decide) rfl (fun ls hl => ?_)
  refine lv_iload_n hx hb dJ5_charAt_5068e_23 rfl (lv_at hl 4 rfl) ?_
  refine lv_iload hx hb dJ5_charAt_5068e_24 (lv_at hl 0 rfl) ?_
  refine cx_callv (Wr := [(o0, .inr (1, [.ref ov, .int (nI 0), .int mb, .int (nI cn)])), (ov, .inl (aT 4, cp, .inl fO))]) (cx_runS C hml hl.1 hZ hW hA (As := [.int (nI i), .int (nI cn)]) (rest := []) (k_J0_checkIndex_df160 l hfl D aT i cn hi (by omega)) gS_J5_J0_checkIndex_df160_144 hS_J0_checkIndex_df160 rfl ⟨Nat.le_of_ble_eq_true rfl, Nat.le_of_ble_eq_true rfl⟩ ⟨Nat.le_of_ble_eq_true rfl, Nat.le_of_ble_eq_true rfl⟩ [] rfl (by decide) rfl (Nat.le_of_ble_eq_true rfl) dJ5_charAt_5068e_26) hW hA [] [0, 1] rfl rfl (by decide) (by decide) (fun _ _ _ _ _ _ h9 => h9.elim) (fun W_26 H locs hq hW => ?_)
  obtain rfl := hq
  refine lv_iload_n hx hb dJ5_charAt_5068e_29 rfl (lv_at hl 2 rfl) ?_
  refine lv_if_ne hx hb (x := (nI 0)) (tgt := 42) dJ5_charAt_5068e_30 (by decide) (fun c_30 => ?_) (fun c_30 => ?_)
  · exact absurd rfl c_30
  · refine lv_aload_n hx hb dJ5_charAt_5068e_33 rfl (lv_at hl 1 rfl) ?_
    refine lv_iload_n hx hb dJ5_charAt_5068e_34 rfl (lv_at hl 4 rfl) ?_
    refine cx_bald C hW 1 4 (j := i) rfl rfl rfl (by omega) (by first | decide | omega) dJ5_charAt_5068e_35 ?_
    refine lv_sipush (v := nI 255) hx hb dJ5_charAt_5068e_36 (by decide) ?_
    refine lv_iand hx hb dJ5_charAt_5068e_39 ?_
    refine lv_i2c (v := ((((fO i) &&& (nI 255)).toUInt32 % 65536).toInt32)) hx hb dJ5_charAt_5068e_40 (rfl) ?_
    exact cx_iret C hr hlocks (sb_nc _) hW ⟨Nat.le_of_ble_eq_true rfl, Nat.le_of_ble_eq_true rfl⟩ (⟨_, rfl, rfl⟩) dJ5_charAt_5068e_41
theorem dJ4_charAt_5068e_0 : decode cJ4_charAt_5068e 0 = .ok (.aload_n 0, 1) := by decide +kernel
theorem dJ4_charAt_5068e_1 : decode cJ4_charAt_5068e 1 = .ok (.iload_n 1, 1) := by decide +kernel
theorem dJ4_charAt_5068e_2 : decode cJ4_charAt_5068e 2 = .ok (.invokespecial 329, 3) := by decide +kernel
theorem dJ4_charAt_5068e_5 : decode cJ4_charAt_5068e 5 = .ok (.ireturn, 1) := by decide +kernel
theorem gSU_J5_charAt_5068e : GoodIn gw (va_wsSU RJ4 329 yJ5_charAt_5068e (Cond.code yJ5_charAt_5068e cJ5_charAt_5068e 5 (some .char) :: gw)) := gdSU gw_1591 gw_2112 gw_344 gw_1592 gw_77 gw_1593
theorem hSU_J5_charAt_5068e : yJ5_charAt_5068e.name ≠ "<init>" ∧ (parseMethodDescriptor yJ5_charAt_5068e.desc).map (fun d => d.parameters.length) = some 1 := ⟨by decide +kernel, by decide +kernel⟩
set_option maxHeartbeats 2000000 in
set_option maxRecDepth 20000 in
theorem k_charAt4 (l : Launch) (hfl : l.stackTraces = false) (D : va_G) (aT : Nat → ClassId) (o0 : Nat) (ov : Nat) (cn : Nat) (cp : Nat) (fO : Nat → Int32) (mb : Int32) (hfit : sb_Fit fO) (hcn : cn ≤ cp) (hcp : cp ≤ 4000) (i : Nat) (hi : i < cn) : CxG l yJ4_charAt_5068e cJ4_charAt_5068e 2 (some (.char)) 3 0 0 67 D aT [.ref o0, .int (nI i)] [(o0, .inr (1, [.ref ov, .int (nI 0), .int mb, .int (nI cn)])), (ov, .inl (aT 4, cp, .inl fO))] (qI D aT (fun r W1 => ∃ x : Int32, r = (x.toUInt32 % 65536).toInt32 ∧ W1 = ([(o0, .inr (1, [.ref ov, .int (nI 0), .int mb, .int (nI cn)])), (ov, .inl (aT 4, cp, .inl fO))] : va_W))) (fun _ _ => False) := by
  refine CxG.of RJ4 (by decide +kernel) rfl (Nat.le_of_ble_eq_true rfl) ?_
  intro p e s m below meth c A ls C hml hl hA hr hlocks hex hnm hZ hW
  have hl : lv_has ls 2 [(0, .ref o0), (1, .int (nI i))] := hl
  have hx := C.1
  have hb := C.2.1
  refine lv_aload_n hx hb dJ4_charAt_5068e_0 rfl (lv_at hl 0 rfl) ?_
  refine lv_iload_n hx hb dJ4_charAt_5068e_1 rfl (lv_at hl 1 rfl) ?_
  refine cx_calli (Wr := []) (cx_runSU C hml hl.1 hZ hW hA (As := [.int (nI i)]) (rest := []) (k_charAt5 l hfl D aT o0 ov cn cp fO mb hfit hcn hcp i hi) gSU_J5_charAt_5068e hSU_J5_charAt_5068e rfl ⟨Nat.le_of_ble_eq_true rfl, Nat.le_of_ble_eq_true rfl⟩ ⟨Nat.le_of_ble_eq_true rfl, Nat.le_of_ble_eq_true rfl⟩ [0, 1] rfl (by decide) 0 1 rfl rfl rfl (Nat.le_of_ble_eq_true rfl) dJ4_charAt_5068e_2) hW hA [0, 1] [] rfl rfl (by decide) (by decide) (fun _ _ _ _ _ _ h9 => h9.elim) (fun r_2 W_2 H locs hq hW => ?_)
  obtain ⟨x_2, rfl, rfl⟩ := hq
  exact cx_iret C hr hlocks (sb_nc _) hW ⟨Nat.le_of_ble_eq_true rfl, Nat.le_of_ble_eq_true rfl⟩ (⟨_, rfl, rfl⟩) dJ4_charAt_5068e_5
theorem dJ6_stringSize_0f7a4_0 : decode cJ6_stringSize_0f7a4 0 = .ok (.iconst 1, 1) := by decide +kernel
theorem dJ6_stringSize_0f7a4_1 : decode cJ6_stringSize_0f7a4 1 = .ok (.istore_n 1, 1) := by decide +kernel
theorem dJ6_stringSize_0f7a4_2 : decode cJ6_stringSize_0f7a4 2 = .ok (.iload_n 0, 1) := by decide +kernel
theorem dJ6_stringSize_0f7a4_3 : decode cJ6_stringSize_0f7a4 3 = .ok (.ifCond .lt 8, 3) := by decide +kernel
theorem dJ6_stringSize_0f7a4_6 : decode cJ6_stringSize_0f7a4 6 = .ok (.iconst 0, 1) := by decide +kernel
theorem dJ6_stringSize_0f7a4_7 : decode cJ6_stringSize_0f7a4 7 = .ok (.istore_n 1, 1) := by decide +kernel
theorem dJ6_stringSize_0f7a4_8 : decode cJ6_stringSize_0f7a4 8 = .ok (.iload_n 0, 1) := by decide +kernel
theorem dJ6_stringSize_0f7a4_9 : decode cJ6_stringSize_0f7a4 9 = .ok (.ineg, 1) := by decide +kernel
theorem dJ6_stringSize_0f7a4_10 : decode cJ6_stringSize_0f7a4 10 = .ok (.istore_n 0, 1) := by decide +kernel
theorem dJ6_stringSize_0f7a4_11 : decode cJ6_stringSize_0f7a4 11 = .ok (.bipush (-10), 2) := by decide +kernel
theorem dJ6_stringSize_0f7a4_13 : decode cJ6_stringSize_0f7a4 13 = .ok (.istore_n 2, 1) := by decide +kernel
theorem dJ6_stringSize_0f7a4_14 : decode cJ6_stringSize_0f7a4 14 = .ok (.iconst 1, 1) := by decide +kernel
theorem dJ6_stringSize_0f7a4_15 : decode cJ6_stringSize_0f7a4 15 = .ok (.istore_n 3, 1) := by decide +kernel
theorem dJ6_stringSize_0f7a4_16 : decode cJ6_stringSize_0f7a4 16 = .ok (.iload_n 3, 1) := by decide +kernel
theorem dJ6_stringSize_0f7a4_17 : decode cJ6_stringSize_0f7a4 17 = .ok (.bipush 10, 2) := by decide +kernel
theorem dJ6_stringSize_0f7a4_19 : decode cJ6_stringSize_0f7a4 19 = .ok (.if_icmp .ge 23, 3) := by decide +kernel
theorem dJ6_stringSize_0f7a4_22 : decode cJ6_stringSize_0f7a4 22 = .ok (.iload_n 0, 1) := by decide +kernel
theorem dJ6_stringSize_0f7a4_23 : decode cJ6_stringSize_0f7a4 23 = .ok (.iload_n 2, 1) := by decide +kernel
theorem dJ6_stringSize_0f7a4_24 : decode cJ6_stringSize_0f7a4 24 = .ok (.if_icmp .le 7, 3) := by decide +kernel
theorem dJ6_stringSize_0f7a4_27 : decode cJ6_stringSize_0f7a4 27 = .ok (.iload_n 3, 1) := by decide +kernel
theorem dJ6_stringSize_0f7a4_28 : decode cJ6_stringSize_0f7a4 28 = .ok (.iload_n 1, 1) := by decide +kernel
theorem dJ6_stringSize_0f7a4_29 : decode cJ6_stringSize_0f7a4 29 = .ok (.iadd, 1) := by decide +kernel
theorem dJ6_stringSize_0f7a4_30 : decode cJ6_stringSize_0f7a4 30 = .ok (.ireturn, 1) := by decide +kernel
theorem dJ6_stringSize_0f7a4_31 : decode cJ6_stringSize_0f7a4 31 = .ok (.bipush 10, 2) := by decide +kernel
theorem dJ6_stringSize_0f7a4_33 : decode cJ6_stringSize_0f7a4 33 = .ok (.iload_n 2, 1) := by decide +kernel
theorem dJ6_stringSize_0f7a4_34 : decode cJ6_stringSize_0f7a4 34 = .ok (.imul, 1) := by decide +kernel
theorem dJ6_stringSize_0f7a4_35 : decode cJ6_stringSize_0f7a4 35 = .ok (.istore_n 2, 1) := by decide +kernel
theorem dJ6_stringSize_0f7a4_36 : decode cJ6_stringSize_0f7a4 36 = .ok (.iinc 3 1, 3) := by decide +kernel
theorem dJ6_stringSize_0f7a4_39 : decode cJ6_stringSize_0f7a4 39 = .ok (.goto (-23), 3) := by decide +kernel
theorem dJ6_stringSize_0f7a4_42 : decode cJ6_stringSize_0f7a4 42 = .ok (.bipush 10, 2) := by decide +kernel
theorem dJ6_stringSize_0f7a4_44 : decode cJ6_stringSize_0f7a4 44 = .ok (.iload_n 1, 1) := by decide +kernel
theorem dJ6_stringSize_0f7a4_45 : decode cJ6_stringSize_0f7a4 45 = .ok (.iadd, 1) := by decide +kernel
theorem dJ6_stringSize_0f7a4_46 : decode cJ6_stringSize_0f7a4 46 = .ok (.ireturn, 1) := by decide +kernel
set_option maxHeartbeats 2000000 in
set_option maxRecDepth 20000 in
theorem k_stringSize_0 (l : Launch) (hfl : l.stackTraces = false) (D : va_G) (aT : Nat → ClassId) (w : Nat) (hw : w < 2147483648) : CxG l yJ6_stringSize_0f7a4 cJ6_stringSize_0f7a4 4 (some (.int)) 0 0 0 0 D aT [.int (nI w)] [] (qI D aT (fun r W1 => r = nI (sb_dg w) ∧ W1 = [])) (fun _ _ => False) := by
  refine CxG.of RJ6 (by decide +kernel) rfl (Nat.le_of_ble_eq_true rfl) ?_
  intro p e s m below meth c A ls C hml hl hA hr hlocks hex hnm hZ hW
  have hl : lv_has ls 4 [(0, .int (nI w))] := hl
  have hx := C.1
  have hb := C.2.1
  refine lv_iconst (v := nI 1) hx hb dJ6_stringSize_0f7a4_0 (by decide) ?_
  refine lv_istore_n (lv' := [(1, .int (nI 1)), (0, .int (nI w))]) hx hb dJ6_stringSize_0f7a4_1 rfl hl (by decide) rfl (fun ls hl => ?_)
  refine lv_iload_n hx hb dJ6_stringSize_0f7a4_2 rfl (lv_at hl 1 rfl) ?_
  refine lv_if_lt hx hb (x := (nI w)) (tgt := 11) dJ6_stringSize_0f7a4_3 (by decide) (fun c_3 => ?_) (fun c_3 => ?_)
  · exact absurd c_3 (nI_pos (by omega))
  · refine lv_iconst (v := nI 0) hx hb dJ6_stringSize_0f7a4_6 (by decide) ?_
    refine lv_istore_n (lv' := [(1, .int (nI 0)), (0, .int (nI w))]) hx hb dJ6_stringSize_0f7a4_7 rfl hl (by decide) rfl (fun ls hl => ?_)
    refine lv_iload_n hx hb dJ6_stringSize_0f7a4_8 rfl (lv_at hl 1 rfl) ?_
    refine lv_ineg hx hb dJ6_stringSize_0f7a4_9 ?_
    refine r_eq (y := (-nI w)) (rfl) ?_
    refine lv_istore_n (lv' := [(0, .int (-nI w)), (1, .int (nI 0))]) hx hb dJ6_stringSize_0f7a4_10 rfl hl (by decide) rfl (fun ls hl => ?_)
    refine lv_bipush (v := (-10)) hx hb dJ6_stringSize_0f7a4_11 (by decide) ?_
    refine r_eq (y := (-nI 10)) (by decide) ?_
    refine lv_istore_n (lv' := [(2, .int (-nI 10)), (0, .int (-nI w)), (1, .int (nI 0))]) hx hb dJ6_stringSize_0f7a4_13 rfl hl (by decide) rfl (fun ls hl => ?_)
    refine lv_iconst (v := nI 1) hx hb dJ6_stringSize_0f7a4_14 (by decide) ?_
    refine lv_istore_n (lv' := [(3, .int (nI 1)), (2, .int (-nI 10)), (0, .int (-nI w)), (1, .int (nI 0))]) hx hb dJ6_stringSize_0f7a4_15 rfl hl (by decide) rfl (fun ls hl => ?_)
    refine lv_iload_n hx hb dJ6_stringSize_0f7a4_16 rfl (lv_at hl 0 rfl) ?_
    refine lv_bipush (v := nI 10) hx hb dJ6_stringSize_0f7a4_17 (by decide) ?_
    refine lv_icmp_ge hx hb (x := (nI 1)) (y := (nI 10)) (tgt := 42) dJ6_stringSize_0f7a4_19 (by decide) (fun c_19 => ?_) (fun c_19 => ?_)
    · exact absurd c_19 (by decide)
    · refine lv_iload_n hx hb dJ6_stringSize_0f7a4_22 rfl (lv_at hl 2 rfl) ?_
      refine lv_iload_n hx hb dJ6_stringSize_0f7a4_23 rfl (lv_at hl 1 rfl) ?_
      refine lv_icmp_le hx hb (x := (-nI w)) (y := (-nI 10)) (tgt := 31) dJ6_stringSize_0f7a4_24 (by decide) (fun c_24 => ?_) (fun c_24 => ?_)
      · have h1 : 10 ≤ w := (nz_le (by omega) (by omega)).mp c_24
        refine lv_bipush (v := nI 10) hx hb dJ6_stringSize_0f7a4_31 (by decide) ?_
        refine lv_iload_n hx hb dJ6_stringSize_0f7a4_33 rfl (lv_at hl 1 rfl) ?_
        refine lv_imul hx hb dJ6_stringSize_0f7a4_34 ?_
        refine r_eq (y := (-nI 100)) (by decide) ?_
        refine lv_istore_n (lv' := [(2, .int (-nI 100)), (3, .int (nI 1)), (0, .int (-nI w)), (1, .int (nI 0))]) hx hb dJ6_stringSize_0f7a4_35 rfl hl (by decide) rfl (fun ls hl => ?_)
        refine lv_iinc (v := (nI 2)) (lv' := [(3, .int (nI 2)), (2, .int (-nI 100)), (0, .int (-nI w)), (1, .int (nI 0))]) hx hb dJ6_stringSize_0f7a4_36 hl (k := 1) rfl rfl (by decide) rfl (fun ls hl => ?_)
        refine lv_goto (tgt := 16) hx hb dJ6_stringSize_0f7a4_39 (by decide) ?_
        refine lv_iload_n hx hb dJ6_stringSize_0f7a4_16 rfl (lv_at hl 0 rfl) ?_
        refine lv_bipush (v := nI 10) hx hb dJ6_stringSize_0f7a4_17 (by decide) ?_
        refine lv_icmp_ge hx hb (x := (nI 2)) (y := (nI 10)) (tgt := 42) dJ6_stringSize_0f7a4_19 (by decide) (fun c_19 => ?_) (fun c_19 => ?_)
        · exact absurd c_19 (by decide)
        · refine lv_iload_n hx hb dJ6_stringSize_0f7a4_22 rfl (lv_at hl 2 rfl) ?_
          refine lv_iload_n hx hb dJ6_stringSize_0f7a4_23 rfl (lv_at hl 1 rfl) ?_
          refine lv_icmp_le hx hb (x := (-nI w)) (y := (-nI 100)) (tgt := 31) dJ6_stringSize_0f7a4_24 (by decide) (fun c_24 => ?_) (fun c_24 => ?_)
          · have h2 : 100 ≤ w := (nz_le (by omega) (by omega)).mp c_24
            refine lv_bipush (v := nI 10) hx hb dJ6_stringSize_0f7a4_31 (by decide) ?_
            refine lv_iload_n hx hb dJ6_stringSize_0f7a4_33 rfl (lv_at hl 1 rfl) ?_
            refine lv_imul hx hb dJ6_stringSize_0f7a4_34 ?_
            refine r_eq (y := (-nI 1000)) (by decide) ?_
            refine lv_istore_n (lv' := [(2, .int (-nI 1000)), (3, .int (nI 2)), (0, .int (-nI w)), (1, .int (nI 0))]) hx hb dJ6_stringSize_0f7a4_35 rfl hl (by decide) rfl (fun ls hl => ?_)
            refine lv_iinc (v := (nI 3)) (lv' := [(3, .int (nI 3)), (2, .int (-nI 1000)), (0, .int (-nI w)), (1, .int (nI 0))]) hx hb dJ6_stringSize_0f7a4_36 hl (k := 1) rfl rfl (by decide) rfl (fun ls hl => ?_)
            refine lv_goto (tgt := 16) hx hb dJ6_stringSize_0f7a4_39 (by decide) ?_
            refine lv_iload_n hx hb dJ6_stringSize_0f7a4_16 rfl (lv_at hl 0 rfl) ?_
            refine lv_bipush (v := nI 10) hx hb dJ6_stringSize_0f7a4_17 (by decide) ?_
            refine lv_icmp_ge hx hb (x := (nI 3)) (y := (nI 10)) (tgt := 42) dJ6_stringSize_0f7a4_19 (by decide) (fun c_19 => ?_) (fun c_19 => ?_)
            · exact absurd c_19 (by decide)
            · refine lv_iload_n hx hb dJ6_stringSize_0f7a4_22 rfl (lv_at hl 2 rfl) ?_
              refine lv_iload_n hx hb dJ6_stringSize_0f7a4_23 rfl (lv_at hl 1 rfl) ?_
              refine lv_icmp_le hx hb (x := (-nI w)) (y := (-nI 1000)) (tgt := 31) dJ6_stringSize_0f7a4_24 (by decide) (fun c_24 => ?_) (fun c_24 => ?_)
              · have h3 : 1000 ≤ w := (nz_le (by omega) (by omega)).mp c_24
                refine lv_bipush (v := nI 10) hx hb dJ6_stringSize_0f7a4_31 (by decide) ?_
                refine lv_iload_n hx hb dJ6_stringSize_0f7a4_33 rfl (lv_at hl 1 rfl) ?_
                refine lv_imul hx hb dJ6_stringSize_0f7a4_34 ?_
                refine r_eq (y := (-nI 10000)) (by decide) ?_
                refine lv_istore_n (lv' := [(2, .int (-nI 10000)), (3, .int (nI 3)), (0, .int (-nI w)), (1, .int (nI 0))]) hx hb dJ6_stringSize_0f7a4_35 rfl hl (by decide) rfl (fun ls hl => ?_)
                refine lv_iinc (v := (nI 4)) (lv' := [(3, .int (nI 4)), (2, .int (-nI 10000)), (0, .int (-nI w)), (1, .int (nI 0))]) hx hb dJ6_stringSize_0f7a4_36 hl (k := 1) rfl rfl (by decide) rfl (fun ls hl => ?_)
                refine lv_goto (tgt := 16) hx hb dJ6_stringSize_0f7a4_39 (by decide) ?_
                refine lv_iload_n hx hb dJ6_stringSize_0f7a4_16 rfl (lv_at hl 0 rfl) ?_
                refine lv_bipush (v := nI 10) hx hb dJ6_stringSize_0f7a4_17 (by decide) ?_
                refine lv_icmp_ge hx hb (x := (nI 4)) (y := (nI 10)) (tgt := 42) dJ6_stringSize_0f7a4_19 (by decide) (fun c_19 => ?_) (fun c_19 => ?_)
                · exact absurd c_19 (by decide)
                · refine lv_iload_n hx hb dJ6_stringSize_0f7a4_22 rfl (lv_at hl 2 rfl) ?_
                  refine lv_iload_n hx hb dJ6_stringSize_0f7a4_23 rfl (lv_at hl 1 rfl) ?_
                  refine lv_icmp_le hx hb (x := (-nI w)) (y := (-nI 10000)) (tgt := 31) dJ6_stringSize_0f7a4_24 (by decide) (fun c_24 => ?_) (fun c_24 => ?_)
                  · have h4 : 10000 ≤ w := (nz_le (by omega) (by omega)).mp c_24
                    refine lv_bipush (v := nI 10) hx hb dJ6_stringSize_0f7a4_31 (by decide) ?_
                    refine lv_iload_n hx hb dJ6_stringSize_0f7a4_33 rfl (lv_at hl 1 rfl) ?_
                    refine lv_imul hx hb dJ6_stringSize_0f7a4_34 ?_
                    refine r_eq (y := (-nI 100000)) (by decide) ?_
                    refine lv_istore_n (lv' := [(2, .int (-nI 100000)), (3, .int (nI 4)), (0, .int (-nI w)), (1, .int (nI 0))]) hx hb dJ6_stringSize_0f7a4_35 rfl hl (by decide) rfl (fun ls hl => ?_)
                    refine lv_iinc (v := (nI 5)) (lv' := [(3, .int (nI 5)), (2, .int (-nI 100000)), (0, .int (-nI w)), (1, .int (nI 0))]) hx hb dJ6_stringSize_0f7a4_36 hl (k := 1) rfl rfl (by decide) rfl (fun ls hl => ?_)
                    refine lv_goto (tgt := 16) hx hb dJ6_stringSize_0f7a4_39 (by decide) ?_
                    refine lv_iload_n hx hb dJ6_stringSize_0f7a4_16 rfl (lv_at hl 0 rfl) ?_
                    refine lv_bipush (v := nI 10) hx hb dJ6_stringSize_0f7a4_17 (by decide) ?_
                    refine lv_icmp_ge hx hb (x := (nI 5)) (y := (nI 10)) (tgt := 42) dJ6_stringSize_0f7a4_19 (by decide) (fun c_19 => ?_) (fun c_19 => ?_)
                    · exact absurd c_19 (by decide)
                    · refine lv_iload_n hx hb dJ6_stringSize_0f7a4_22 rfl (lv_at hl 2 rfl) ?_
                      refine lv_iload_n hx hb dJ6_stringSize_0f7a4_23 rfl (lv_at hl 1 rfl) ?_
                      refine lv_icmp_le hx hb (x := (-nI w)) (y := (-nI 100000)) (tgt := 31) dJ6_stringSize_0f7a4_24 (by decide) (fun c_24 => ?_) (fun c_24 => ?_)
                      · have h5 : 100000 ≤ w := (nz_le (by omega) (by omega)).mp c_24
                        refine lv_bipush (v := nI 10) hx hb dJ6_stringSize_0f7a4_31 (by decide) ?_
                        refine lv_iload_n hx hb dJ6_stringSize_0f7a4_33 rfl (lv_at hl 1 rfl) ?_
                        refine lv_imul hx hb dJ6_stringSize_0f7a4_34 ?_
                        refine r_eq (y := (-nI 1000000)) (by decide) ?_
                        refine lv_istore_n (lv' := [(2, .int (-nI 1000000)), (3, .int (nI 5)), (0, .int (-nI w)), (1, .int (nI 0))]) hx hb dJ6_stringSize_0f7a4_35 rfl hl (by decide) rfl (fun ls hl => ?_)
                        refine lv_iinc (v := (nI 6)) (lv' := [(3, .int (nI 6)), (2, .int (-nI 1000000)), (0, .int (-nI w)), (1, .int (nI 0))]) hx hb dJ6_stringSize_0f7a4_36 hl (k := 1) rfl rfl (by decide) rfl (fun ls hl => ?_)
                        refine lv_goto (tgt := 16) hx hb dJ6_stringSize_0f7a4_39 (by decide) ?_
                        refine lv_iload_n hx hb dJ6_stringSize_0f7a4_16 rfl (lv_at hl 0 rfl) ?_
                        refine lv_bipush (v := nI 10) hx hb dJ6_stringSize_0f7a4_17 (by decide) ?_
                        refine lv_icmp_ge hx hb (x := (nI 6)) (y := (nI 10)) (tgt := 42) dJ6_stringSize_0f7a4_19 (by decide) (fun c_19 => ?_) (fun c_19 => ?_)
                        · exact absurd c_19 (by decide)
                        · refine lv_iload_n hx hb dJ6_stringSize_0f7a4_22 rfl (lv_at hl 2 rfl) ?_
                          refine lv_iload_n hx hb dJ6_stringSize_0f7a4_23 rfl (lv_at hl 1 rfl) ?_
                          refine lv_icmp_le hx hb (x := (-nI w)) (y := (-nI 1000000)) (tgt := 31) dJ6_stringSize_0f7a4_24 (by decide) (fun c_24 => ?_) (fun c_24 => ?_)
                          · have h6 : 1000000 ≤ w := (nz_le (by omega) (by omega)).mp c_24
                            refine lv_bipush (v := nI 10) hx hb dJ6_stringSize_0f7a4_31 (by decide) ?_
                            refine lv_iload_n hx hb dJ6_stringSize_0f7a4_33 rfl (lv_at hl 1 rfl) ?_
                            refine lv_imul hx hb dJ6_stringSize_0f7a4_34 ?_
                            refine r_eq (y := (-nI 10000000)) (by decide) ?_
                            refine lv_istore_n (lv' := [(2, .int (-nI 10000000)), (3, .int (nI 6)), (0, .int (-nI w)), (1, .int (nI 0))]) hx hb dJ6_stringSize_0f7a4_35 rfl hl (by decide) rfl (fun ls hl => ?_)
                            refine lv_iinc (v := (nI 7)) (lv' := [(3, .int (nI 7)), (2, .int (-nI 10000000)), (0, .int (-nI w)), (1, .int (nI 0))]) hx hb dJ6_stringSize_0f7a4_36 hl (k := 1) rfl rfl (by decide) rfl (fun ls hl => ?_)
                            refine lv_goto (tgt := 16) hx hb dJ6_stringSize_0f7a4_39 (by decide) ?_
                            refine lv_iload_n hx hb dJ6_stringSize_0f7a4_16 rfl (lv_at hl 0 rfl) ?_
                            refine lv_bipush (v := nI 10) hx hb dJ6_stringSize_0f7a4_17 (by decide) ?_
                            refine lv_icmp_ge hx hb (x := (nI 7)) (y := (nI 10)) (tgt := 42) dJ6_stringSize_0f7a4_19 (by decide) (fun c_19 => ?_) (fun c_19 => ?_)
                            · exact absurd c_19 (by decide)
                            · refine lv_iload_n hx hb dJ6_stringSize_0f7a4_22 rfl (lv_at hl 2 rfl) ?_
                              refine lv_iload_n hx hb dJ6_stringSize_0f7a4_23 rfl (lv_at hl 1 rfl) ?_
                              refine lv_icmp_le hx hb (x := (-nI w)) (y := (-nI 10000000)) (tgt := 31) dJ6_stringSize_0f7a4_24 (by decide) (fun c_24 => ?_) (fun c_24 => ?_)
                              · have h7 : 10000000 ≤ w := (nz_le (by omega) (by omega)).mp c_24
                                refine lv_bipush (v := nI 10) hx hb dJ6_stringSize_0f7a4_31 (by decide) ?_
                                refine lv_iload_n hx hb dJ6_stringSize_0f7a4_33 rfl (lv_at hl 1 rfl) ?_
                                refine lv_imul hx hb dJ6_stringSize_0f7a4_34 ?_
                                refine r_eq (y := (-nI 100000000)) (by decide) ?_
                                refine lv_istore_n (lv' := [(2, .int (-nI 100000000)), (3, .int (nI 7)), (0, .int (-nI w)), (1, .int (nI 0))]) hx hb dJ6_stringSize_0f7a4_35 rfl hl (by decide) rfl (fun ls hl => ?_)
                                refine lv_iinc (v := (nI 8)) (lv' := [(3, .int (nI 8)), (2, .int (-nI 100000000)), (0, .int (-nI w)), (1, .int (nI 0))]) hx hb dJ6_stringSize_0f7a4_36 hl (k := 1) rfl rfl (by decide) rfl (fun ls hl => ?_)
                                refine lv_goto (tgt := 16) hx hb dJ6_stringSize_0f7a4_39 (by decide) ?_
                                refine lv_iload_n hx hb dJ6_stringSize_0f7a4_16 rfl (lv_at hl 0 rfl) ?_
                                refine lv_bipush (v := nI 10) hx hb dJ6_stringSize_0f7a4_17 (by decide) ?_
                                refine lv_icmp_ge hx hb (x := (nI 8)) (y := (nI 10)) (tgt := 42) dJ6_stringSize_0f7a4_19 (by decide) (fun c_19 => ?_) (fun c_19 => ?_)
                                · exact absurd c_19 (by decide)
                                · refine lv_iload_n hx hb dJ6_stringSize_0f7a4_22 rfl (lv_at hl 2 rfl) ?_
                                  refine lv_iload_n hx hb dJ6_stringSize_0f7a4_23 rfl (lv_at hl 1 rfl) ?_
                                  refine lv_icmp_le hx hb (x := (-nI w)) (y := (-nI 100000000)) (tgt := 31) dJ6_stringSize_0f7a4_24 (by decide) (fun c_24 => ?_) (fun c_24 => ?_)
                                  · have h8 : 100000000 ≤ w := (nz_le (by omega) (by omega)).mp c_24
                                    refine lv_bipush (v := nI 10) hx hb dJ6_stringSize_0f7a4_31 (by decide) ?_
                                    refine lv_iload_n hx hb dJ6_stringSize_0f7a4_33 rfl (lv_at hl 1 rfl) ?_
                                    refine lv_imul hx hb dJ6_stringSize_0f7a4_34 ?_
                                    refine r_eq (y := (-nI 1000000000)) (by decide) ?_
                                    refine lv_istore_n (lv' := [(2, .int (-nI 1000000000)), (3, .int (nI 8)), (0, .int (-nI w)), (1, .int (nI 0))]) hx hb dJ6_stringSize_0f7a4_35 rfl hl (by decide) rfl (fun ls hl => ?_)
                                    refine lv_iinc (v := (nI 9)) (lv' := [(3, .int (nI 9)), (2, .int (-nI 1000000000)), (0, .int (-nI w)), (1, .int (nI 0))]) hx hb dJ6_stringSize_0f7a4_36 hl (k := 1) rfl rfl (by decide) rfl (fun ls hl => ?_)
                                    refine lv_goto (tgt := 16) hx hb dJ6_stringSize_0f7a4_39 (by decide) ?_
                                    refine lv_iload_n hx hb dJ6_stringSize_0f7a4_16 rfl (lv_at hl 0 rfl) ?_
                                    refine lv_bipush (v := nI 10) hx hb dJ6_stringSize_0f7a4_17 (by decide) ?_
                                    refine lv_icmp_ge hx hb (x := (nI 9)) (y := (nI 10)) (tgt := 42) dJ6_stringSize_0f7a4_19 (by decide) (fun c_19 => ?_) (fun c_19 => ?_)
                                    · exact absurd c_19 (by decide)
                                    · refine lv_iload_n hx hb dJ6_stringSize_0f7a4_22 rfl (lv_at hl 2 rfl) ?_
                                      refine lv_iload_n hx hb dJ6_stringSize_0f7a4_23 rfl (lv_at hl 1 rfl) ?_
                                      refine lv_icmp_le hx hb (x := (-nI w)) (y := (-nI 1000000000)) (tgt := 31) dJ6_stringSize_0f7a4_24 (by decide) (fun c_24 => ?_) (fun c_24 => ?_)
                                      · have h9 : 1000000000 ≤ w := (nz_le (by omega) (by omega)).mp c_24
                                        refine lv_bipush (v := nI 10) hx hb dJ6_stringSize_0f7a4_31 (by decide) ?_
                                        refine lv_iload_n hx hb dJ6_stringSize_0f7a4_33 rfl (lv_at hl 1 rfl) ?_
                                        refine lv_imul hx hb dJ6_stringSize_0f7a4_34 ?_
                                        refine lv_istore_n (lv' := [(2, .int ((nI 10) * (-nI 1000000000))), (3, .int (nI 9)), (0, .int (-nI w)), (1, .int (nI 0))]) hx hb dJ6_stringSize_0f7a4_35 rfl hl (by decide) rfl (fun ls hl => ?_)
                                        refine lv_iinc (v := (nI 10)) (lv' := [(3, .int (nI 10)), (2, .int ((nI 10) * (-nI 1000000000))), (0, .int (-nI w)), (1, .int (nI 0))]) hx hb dJ6_stringSize_0f7a4_36 hl (k := 1) rfl rfl (by decide) rfl (fun ls hl => ?_)
                                        refine lv_goto (tgt := 16) hx hb dJ6_stringSize_0f7a4_39 (by decide) ?_
                                        refine lv_iload_n hx hb dJ6_stringSize_0f7a4_16 rfl (lv_at hl 0 rfl) ?_
                                        refine lv_bipush (v := nI 10) hx hb dJ6_stringSize_0f7a4_17 (by decide) ?_
                                        refine lv_icmp_ge hx hb (x := (nI 10)) (y := (nI 10)) (tgt := 42) dJ6_stringSize_0f7a4_19 (by decide) (fun c_19 => ?_) (fun c_19 => ?_)
                                        · refine lv_bipush (v := nI 10) hx hb dJ6_stringSize_0f7a4_42 (by decide) ?_
                                          refine lv_iload_n hx hb dJ6_stringSize_0f7a4_44 rfl (lv_at hl 3 rfl) ?_
                                          refine r_iaddN hx hb (a := 10) (b := 0) dJ6_stringSize_0f7a4_45 ?_
                                          exact cx_iret C hr hlocks rfl hW ⟨Nat.le_of_ble_eq_true rfl, Nat.le_of_ble_eq_true rfl⟩ (⟨by rw [show sb_dg w = 10 from by unfold sb_dg; repeat (first | rw [if_pos (by omega)] | rw [if_neg (by omega)])], rfl⟩) dJ6_stringSize_0f7a4_46
                                        · exact absurd (by decide) c_19
                                      · have h9 : ¬ 1000000000 ≤ w := (fun h9 z9 => h9 ((nz_le (by omega) (by omega)).mpr z9)) c_24
                                        refine lv_iload_n hx hb dJ6_stringSize_0f7a4_27 rfl (lv_at hl 0 rfl) ?_
                                        refine lv_iload_n hx hb dJ6_stringSize_0f7a4_28 rfl (lv_at hl 3 rfl) ?_
                                        refine r_iaddN hx hb (a := 9) (b := 0) dJ6_stringSize_0f7a4_29 ?_
                                        exact cx_iret C hr hlocks rfl hW ⟨Nat.le_of_ble_eq_true rfl, Nat.le_of_ble_eq_true rfl⟩ (⟨by rw [show sb_dg w = 9 from by unfold sb_dg; repeat (first | rw [if_pos (by omega)] | rw [if_neg (by omega)])], rfl⟩) dJ6_stringSize_0f7a4_30
                                  · have h8 : ¬ 100000000 ≤ w := (fun h9 z9 => h9 ((nz_le (by omega) (by omega)).mpr z9)) c_24
                                    refine lv_iload_n hx hb dJ6_stringSize_0f7a4_27 rfl (lv_at hl 0 rfl) ?_
                                    refine lv_iload_n hx hb dJ6_stringSize_0f7a4_28 rfl (lv_at hl 3 rfl) ?_
                                    refine r_iaddN hx hb (a := 8) (b := 0) dJ6_stringSize_0f7a4_29 ?_
                                    exact cx_iret C hr hlocks rfl hW ⟨Nat.le_of_ble_eq_true rfl, Nat.le_of_ble_eq_true rfl⟩ (⟨by rw [show sb_dg w = 8 from by unfold sb_dg; repeat (first | rw [if_pos (by omega)] | rw [if_neg (by omega)])], rfl⟩) dJ6_stringSize_0f7a4_30
                              · have h7 : ¬ 10000000 ≤ w := (fun h9 z9 => h9 ((nz_le (by omega) (by omega)).mpr z9)) c_24
                                refine lv_iload_n hx hb dJ6_stringSize_0f7a4_27 rfl (lv_at hl 0 rfl) ?_
                                refine lv_iload_n hx hb dJ6_stringSize_0f7a4_28 rfl (lv_at hl 3 rfl) ?_
                                refine r_iaddN hx hb (a := 7) (b := 0) dJ6_stringSize_0f7a4_29 ?_
                                exact cx_iret C hr hlocks rfl hW ⟨Nat.le_of_ble_eq_true rfl, Nat.le_of_ble_eq_true rfl⟩ (⟨by rw [show sb_dg w = 7 from by unfold sb_dg; repeat (first | rw [if_pos (by omega)] | rw [if_neg (by omega)])], rfl⟩) dJ6_stringSize_0f7a4_30
                          · have h6 : ¬ 1000000 ≤ w := (fun h9 z9 => h9 ((nz_le (by omega) (by omega)).mpr z9)) c_24
                            refine lv_iload_n hx hb dJ6_stringSize_0f7a4_27 rfl (lv_at hl 0 rfl) ?_
                            refine lv_iload_n hx hb dJ6_stringSize_0f7a4_28 rfl (lv_at hl 3 rfl) ?_
                            refine r_iaddN hx hb (a := 6) (b := 0) dJ6_stringSize_0f7a4_29 ?_
                            exact cx_iret C hr hlocks rfl hW ⟨Nat.le_of_ble_eq_true rfl, Nat.le_of_ble_eq_true rfl⟩ (⟨by rw [show sb_dg w = 6 from by unfold sb_dg; repeat (first | rw [if_pos (by omega)] | rw [if_neg (by omega)])], rfl⟩) dJ6_stringSize_0f7a4_30
                      · have h5 : ¬ 100000 ≤ w := (fun h9 z9 => h9 ((nz_le (by omega) (by omega)).mpr z9)) c_24
                        refine lv_iload_n hx hb dJ6_stringSize_0f7a4_27 rfl (lv_at hl 0 rfl) ?_
                        refine lv_iload_n hx hb dJ6_stringSize_0f7a4_28 rfl (lv_at hl 3 rfl) ?_
                        refine r_iaddN hx hb (a := 5) (b := 0) dJ6_stringSize_0f7a4_29 ?_
                        exact cx_iret C hr hlocks rfl hW ⟨Nat.le_of_ble_eq_true rfl, Nat.le_of_ble_eq_true rfl⟩ (⟨by rw [show sb_dg w = 5 from by unfold sb_dg; repeat (first | rw [if_pos (by omega)] | rw [if_neg (by omega)])], rfl⟩) dJ6_stringSize_0f7a4_30
                  · have h4 : ¬ 10000 ≤ w := (fun h9 z9 => h9 ((nz_le (by omega) (by omega)).mpr z9)) c_24
                    refine lv_iload_n hx hb dJ6_stringSize_0f7a4_27 rfl (lv_at hl 0 rfl) ?_
                    refine lv_iload_n hx hb dJ6_stringSize_0f7a4_28 rfl (lv_at hl 3 rfl) ?_
                    refine r_iaddN hx hb (a := 4) (b := 0) dJ6_stringSize_0f7a4_29 ?_
                    exact cx_iret C hr hlocks rfl hW ⟨Nat.le_of_ble_eq_true rfl, Nat.le_of_ble_eq_true rfl⟩ (⟨by rw [show sb_dg w = 4 from by unfold sb_dg; repeat (first | rw [if_pos (by omega)] | rw [if_neg (by omega)])], rfl⟩) dJ6_stringSize_0f7a4_30
              · have h3 : ¬ 1000 ≤ w := (fun h9 z9 => h9 ((nz_le (by omega) (by omega)).mpr z9)) c_24
                refine lv_iload_n hx hb dJ6_stringSize_0f7a4_27 rfl (lv_at hl 0 rfl) ?_
                refine lv_iload_n hx hb dJ6_stringSize_0f7a4_28 rfl (lv_at hl 3 rfl) ?_
                refine r_iaddN hx hb (a := 3) (b := 0) dJ6_stringSize_0f7a4_29 ?_
                exact cx_iret C hr hlocks rfl hW ⟨Nat.le_of_ble_eq_true rfl, Nat.le_of_ble_eq_true rfl⟩ (⟨by rw [show sb_dg w = 3 from by unfold sb_dg; repeat (first | rw [if_pos (by omega)] | rw [if_neg (by omega)])], rfl⟩) dJ6_stringSize_0f7a4_30
          · have h2 : ¬ 100 ≤ w := (fun h9 z9 => h9 ((nz_le (by omega) (by omega)).mpr z9)) c_24
            refine lv_iload_n hx hb dJ6_stringSize_0f7a4_27 rfl (lv_at hl 0 rfl) ?_
            refine lv_iload_n hx hb dJ6_stringSize_0f7a4_28 rfl (lv_at hl 3 rfl) ?_
            refine r_iaddN hx hb (a := 2) (b := 0) dJ6_stringSize_0f7a4_29 ?_
            exact cx_iret C hr hlocks rfl hW ⟨Nat.le_of_ble_eq_true rfl, Nat.le_of_ble_eq_true rfl⟩ (⟨by rw [show sb_dg w = 2 from by unfold sb_dg; repeat (first | rw [if_pos (by omega)] | rw [if_neg (by omega)])], rfl⟩) dJ6_stringSize_0f7a4_30
      · have h1 : ¬ 10 ≤ w := (fun h9 z9 => h9 ((nz_le (by omega) (by omega)).mpr z9)) c_24
        refine lv_iload_n hx hb dJ6_stringSize_0f7a4_27 rfl (lv_at hl 0 rfl) ?_
        refine lv_iload_n hx hb dJ6_stringSize_0f7a4_28 rfl (lv_at hl 3 rfl) ?_
        refine r_iaddN hx hb (a := 1) (b := 0) dJ6_stringSize_0f7a4_29 ?_
        exact cx_iret C hr hlocks rfl hW ⟨Nat.le_of_ble_eq_true rfl, Nat.le_of_ble_eq_true rfl⟩ (⟨by rw [show sb_dg w = 1 from by unfold sb_dg; repeat (first | rw [if_pos (by omega)] | rw [if_neg (by omega)])], rfl⟩) dJ6_stringSize_0f7a4_30
set_option maxHeartbeats 2000000 in
set_option maxRecDepth 20000 in
theorem k_stringSize_1 (l : Launch) (hfl : l.stackTraces = false) (D : va_G) (aT : Nat → ClassId) (w : Nat) (hw : 0 < w ∧ w ≤ 2147483648) : CxG l yJ6_stringSize_0f7a4 cJ6_stringSize_0f7a4 4 (some (.int)) 0 0 0 0 D aT [.int (-nI w)] [] (qI D aT (fun r W1 => r = nI (sb_dg w + 1) ∧ W1 = [])) (fun _ _ => False) := by
  refine CxG.of RJ6 (by decide +kernel) rfl (Nat.le_of_ble_eq_true rfl) ?_
  intro p e s m below meth c A ls C hml hl hA hr hlocks hex hnm hZ hW
  have hl : lv_has ls 4 [(0, .int (-nI w))] := hl
  have hx := C.1
  have hb := C.2.1
  refine lv_iconst (v := nI 1) hx hb dJ6_stringSize_0f7a4_0 (by decide) ?_
  refine lv_istore_n (lv' := [(1, .int (nI 1)), (0, .int (-nI w))]) hx hb dJ6_stringSize_0f7a4_1 rfl hl (by decide) rfl (fun ls hl => ?_)
  refine lv_iload_n hx hb dJ6_stringSize_0f7a4_2 rfl (lv_at hl 1 rfl) ?_
  refine lv_if_lt hx hb (x := (-nI w)) (tgt := 11) dJ6_stringSize_0f7a4_3 (by decide) (fun c_3 => ?_) (fun c_3 => ?_)
  · refine lv_bipush (v := (-10)) hx hb dJ6_stringSize_0f7a4_11 (by decide) ?_
    refine r_eq (y := (-nI 10)) (by decide) ?_
    refine lv_istore_n (lv' := [(2, .int (-nI 10)), (1, .int (nI 1)), (0, .int (-nI w))]) hx hb dJ6_stringSize_0f7a4_13 rfl hl (by decide) rfl (fun ls hl => ?_)
    refine lv_iconst (v := nI 1) hx hb dJ6_stringSize_0f7a4_14 (by decide) ?_
    refine lv_istore_n (lv' := [(3, .int (nI 1)), (2, .int (-nI 10)), (1, .int (nI 1)), (0, .int (-nI w))]) hx hb dJ6_stringSize_0f7a4_15 rfl hl (by decide) rfl (fun ls hl => ?_)
    refine lv_iload_n hx hb dJ6_stringSize_0f7a4_16 rfl (lv_at hl 0 rfl) ?_
    refine lv_bipush (v := nI 10) hx hb dJ6_stringSize_0f7a4_17 (by decide) ?_
    refine lv_icmp_ge hx hb (x := (nI 1)) (y := (nI 10)) (tgt := 42) dJ6_stringSize_0f7a4_19 (by decide) (fun c_19 => ?_) (fun c_19 => ?_)
    · exact absurd c_19 (by decide)
    · refine lv_iload_n hx hb dJ6_stringSize_0f7a4_22 rfl (lv_at hl 3 rfl) ?_
      refine lv_iload_n hx hb dJ6_stringSize_0f7a4_23 rfl (lv_at hl 1 rfl) ?_
      refine lv_icmp_le hx hb (x := (-nI w)) (y := (-nI 10)) (tgt := 31) dJ6_stringSize_0f7a4_24 (by decide) (fun c_24 => ?_) (fun c_24 => ?_)
      · have h1 : 10 ≤ w := (nz_le (by omega) (by omega)).mp c_24
        refine lv_bipush (v := nI 10) hx hb dJ6_stringSize_0f7a4_31 (by decide) ?_
        refine lv_iload_n hx hb dJ6_stringSize_0f7a4_33 rfl (lv_at hl 1 rfl) ?_
        refine lv_imul hx hb dJ6_stringSize_0f7a4_34 ?_
        refine r_eq (y := (-nI 100)) (by decide) ?_
        refine lv_istore_n (lv' := [(2, .int (-nI 100)), (3, .int (nI 1)), (1, .int (nI 1)), (0, .int (-nI w))]) hx hb dJ6_stringSize_0f7a4_35 rfl hl (by decide) rfl (fun ls hl => ?_)
        refine lv_iinc (v := (nI 2)) (lv' := [(3, .int (nI 2)), (2, .int (-nI 100)), (1, .int (nI 1)), (0, .int (-nI w))]) hx hb dJ6_stringSize_0f7a4_36 hl (k := 1) rfl rfl (by decide) rfl (fun ls hl => ?_)
        refine lv_goto (tgt := 16) hx hb dJ6_stringSize_0f7a4_39 (by decide) ?_
        refine lv_iload_n hx hb dJ6_stringSize_0f7a4_16 rfl (lv_at hl 0 rfl) ?_
        refine lv_bipush (v := nI 10) hx hb dJ6_stringSize_0f7a4_17 (by decide) ?_
        refine lv_icmp_ge hx hb (x := (nI 2)) (y := (nI 10)) (tgt := 42) dJ6_stringSize_0f7a4_19 (by decide) (fun c_19 => ?_) (fun c_19 => ?_)
        · exact absurd c_19 (by decide)
        · refine lv_iload_n hx hb dJ6_stringSize_0f7a4_22 rfl (lv_at hl 3 rfl) ?_
          refine lv_iload_n hx hb dJ6_stringSize_0f7a4_23 rfl (lv_at hl 1 rfl) ?_
          refine lv_icmp_le hx hb (x := (-nI w)) (y := (-nI 100)) (tgt := 31) dJ6_stringSize_0f7a4_24 (by decide) (fun c_24 => ?_) (fun c_24 => ?_)
          · have h2 : 100 ≤ w := (nz_le (by omega) (by omega)).mp c_24
            refine lv_bipush (v := nI 10) hx hb dJ6_stringSize_0f7a4_31 (by decide) ?_
            refine lv_iload_n hx hb dJ6_stringSize_0f7a4_33 rfl (lv_at hl 1 rfl) ?_
            refine lv_imul hx hb dJ6_stringSize_0f7a4_34 ?_
            refine r_eq (y := (-nI 1000)) (by decide) ?_
            refine lv_istore_n (lv' := [(2, .int (-nI 1000)), (3, .int (nI 2)), (1, .int (nI 1)), (0, .int (-nI w))]) hx hb dJ6_stringSize_0f7a4_35 rfl hl (by decide) rfl (fun ls hl => ?_)
            refine lv_iinc (v := (nI 3)) (lv' := [(3, .int (nI 3)), (2, .int (-nI 1000)), (1, .int (nI 1)), (0, .int (-nI w))]) hx hb dJ6_stringSize_0f7a4_36 hl (k := 1) rfl rfl (by decide) rfl (fun ls hl => ?_)
            refine lv_goto (tgt := 16) hx hb dJ6_stringSize_0f7a4_39 (by decide) ?_
            refine lv_iload_n hx hb dJ6_stringSize_0f7a4_16 rfl (lv_at hl 0 rfl) ?_
            refine lv_bipush (v := nI 10) hx hb dJ6_stringSize_0f7a4_17 (by decide) ?_
            refine lv_icmp_ge hx hb (x := (nI 3)) (y := (nI 10)) (tgt := 42) dJ6_stringSize_0f7a4_19 (by decide) (fun c_19 => ?_) (fun c_19 => ?_)
            · exact absurd c_19 (by decide)
            · refine lv_iload_n hx hb dJ6_stringSize_0f7a4_22 rfl (lv_at hl 3 rfl) ?_
              refine lv_iload_n hx hb dJ6_stringSize_0f7a4_23 rfl (lv_at hl 1 rfl) ?_
              refine lv_icmp_le hx hb (x := (-nI w)) (y := (-nI 1000)) (tgt := 31) dJ6_stringSize_0f7a4_24 (by decide) (fun c_24 => ?_) (fun c_24 => ?_)
              · have h3 : 1000 ≤ w := (nz_le (by omega) (by omega)).mp c_24
                refine lv_bipush (v := nI 10) hx hb dJ6_stringSize_0f7a4_31 (by decide) ?_
                refine lv_iload_n hx hb dJ6_stringSize_0f7a4_33 rfl (lv_at hl 1 rfl) ?_
                refine lv_imul hx hb dJ6_stringSize_0f7a4_34 ?_
                refine r_eq (y := (-nI 10000)) (by decide) ?_
                refine lv_istore_n (lv' := [(2, .int (-nI 10000)), (3, .int (nI 3)), (1, .int (nI 1)), (0, .int (-nI w))]) hx hb dJ6_stringSize_0f7a4_35 rfl hl (by decide) rfl (fun ls hl => ?_)
                refine lv_iinc (v := (nI 4)) (lv' := [(3, .int (nI 4)), (2, .int (-nI 10000)), (1, .int (nI 1)), (0, .int (-nI w))]) hx hb dJ6_stringSize_0f7a4_36 hl (k := 1) rfl rfl (by decide) rfl (fun ls hl => ?_)
                refine lv_goto (tgt := 16) hx hb dJ6_stringSize_0f7a4_39 (by decide) ?_
                refine lv_iload_n hx hb dJ6_stringSize_0f7a4_16 rfl (lv_at hl 0 rfl) ?_
                refine lv_bipush (v := nI 10) hx hb dJ6_stringSize_0f7a4_17 (by decide) ?_
                refine lv_icmp_ge hx hb (x := (nI 4)) (y := (nI 10)) (tgt := 42) dJ6_stringSize_0f7a4_19 (by decide) (fun c_19 => ?_) (fun c_19 => ?_)
                · exact absurd c_19 (by decide)
                · refine lv_iload_n hx hb dJ6_stringSize_0f7a4_22 rfl (lv_at hl 3 rfl) ?_
                  refine lv_iload_n hx hb dJ6_stringSize_0f7a4_23 rfl (lv_at hl 1 rfl) ?_
                  refine lv_icmp_le hx hb (x := (-nI w)) (y := (-nI 10000)) (tgt := 31) dJ6_stringSize_0f7a4_24 (by decide) (fun c_24 => ?_) (fun c_24 => ?_)
                  · have h4 : 10000 ≤ w := (nz_le (by omega) (by omega)).mp c_24
                    refine lv_bipush (v := nI 10) hx hb dJ6_stringSize_0f7a4_31 (by decide) ?_
                    refine lv_iload_n hx hb dJ6_stringSize_0f7a4_33 rfl (lv_at hl 1 rfl) ?_
                    refine lv_imul hx hb dJ6_stringSize_0f7a4_34 ?_
                    refine r_eq (y := (-nI 100000)) (by decide) ?_
                    refine lv_istore_n (lv' := [(2, .int (-nI 100000)), (3, .int (nI 4)), (1, .int (nI 1)), (0, .int (-nI w))]) hx hb dJ6_stringSize_0f7a4_35 rfl hl (by decide) rfl (fun ls hl => ?_)
                    refine lv_iinc (v := (nI 5)) (lv' := [(3, .int (nI 5)), (2, .int (-nI 100000)), (1, .int (nI 1)), (0, .int (-nI w))]) hx hb dJ6_stringSize_0f7a4_36 hl (k := 1) rfl rfl (by decide) rfl (fun ls hl => ?_)
                    refine lv_goto (tgt := 16) hx hb dJ6_stringSize_0f7a4_39 (by decide) ?_
                    refine lv_iload_n hx hb dJ6_stringSize_0f7a4_16 rfl (lv_at hl 0 rfl) ?_
                    refine lv_bipush (v := nI 10) hx hb dJ6_stringSize_0f7a4_17 (by decide) ?_
                    refine lv_icmp_ge hx hb (x := (nI 5)) (y := (nI 10)) (tgt := 42) dJ6_stringSize_0f7a4_19 (by decide) (fun c_19 => ?_) (fun c_19 => ?_)
                    · exact absurd c_19 (by decide)
                    · refine lv_iload_n hx hb dJ6_stringSize_0f7a4_22 rfl (lv_at hl 3 rfl) ?_
                      refine lv_iload_n hx hb dJ6_stringSize_0f7a4_23 rfl (lv_at hl 1 rfl) ?_
                      refine lv_icmp_le hx hb (x := (-nI w)) (y := (-nI 100000)) (tgt := 31) dJ6_stringSize_0f7a4_24 (by decide) (fun c_24 => ?_) (fun c_24 => ?_)
                      · have h5 : 100000 ≤ w := (nz_le (by omega) (by omega)).mp c_24
                        refine lv_bipush (v := nI 10) hx hb dJ6_stringSize_0f7a4_31 (by decide) ?_
                        refine lv_iload_n hx hb dJ6_stringSize_0f7a4_33 rfl (lv_at hl 1 rfl) ?_
                        refine lv_imul hx hb dJ6_stringSize_0f7a4_34 ?_
                        refine r_eq (y := (-nI 1000000)) (by decide) ?_
                        refine lv_istore_n (lv' := [(2, .int (-nI 1000000)), (3, .int (nI 5)), (1, .int (nI 1)), (0, .int (-nI w))]) hx hb dJ6_stringSize_0f7a4_35 rfl hl (by decide) rfl (fun ls hl => ?_)
                        refine lv_iinc (v := (nI 6)) (lv' := [(3, .int (nI 6)), (2, .int (-nI 1000000)), (1, .int (nI 1)), (0, .int (-nI w))]) hx hb dJ6_stringSize_0f7a4_36 hl (k := 1) rfl rfl (by decide) rfl (fun ls hl => ?_)
                        refine lv_goto (tgt := 16) hx hb dJ6_stringSize_0f7a4_39 (by decide) ?_
                        refine lv_iload_n hx hb dJ6_stringSize_0f7a4_16 rfl (lv_at hl 0 rfl) ?_
                        refine lv_bipush (v := nI 10) hx hb dJ6_stringSize_0f7a4_17 (by decide) ?_
                        refine lv_icmp_ge hx hb (x := (nI 6)) (y := (nI 10)) (tgt := 42) dJ6_stringSize_0f7a4_19 (by decide) (fun c_19 => ?_) (fun c_19 => ?_)
                        · exact absurd c_19 (by decide)
                        · refine lv_iload_n hx hb dJ6_stringSize_0f7a4_22 rfl (lv_at hl 3 rfl) ?_
                          refine lv_iload_n hx hb dJ6_stringSize_0f7a4_23 rfl (lv_at hl 1 rfl) ?_
                          refine lv_icmp_le hx hb (x := (-nI w)) (y := (-nI 1000000)) (tgt := 31) dJ6_stringSize_0f7a4_24 (by decide) (fun c_24 => ?_) (fun c_24 => ?_)
                          · have h6 : 1000000 ≤ w := (nz_le (by omega) (by omega)).mp c_24
                            refine lv_bipush (v := nI 10) hx hb dJ6_stringSize_0f7a4_31 (by decide) ?_
                            refine lv_iload_n hx hb dJ6_stringSize_0f7a4_33 rfl (lv_at hl 1 rfl) ?_
                            refine lv_imul hx hb dJ6_stringSize_0f7a4_34 ?_
                            refine r_eq (y := (-nI 10000000)) (by decide) ?_
                            refine lv_istore_n (lv' := [(2, .int (-nI 10000000)), (3, .int (nI 6)), (1, .int (nI 1)), (0, .int (-nI w))]) hx hb dJ6_stringSize_0f7a4_35 rfl hl (by decide) rfl (fun ls hl => ?_)
                            refine lv_iinc (v := (nI 7)) (lv' := [(3, .int (nI 7)), (2, .int (-nI 10000000)), (1, .int (nI 1)), (0, .int (-nI w))]) hx hb dJ6_stringSize_0f7a4_36 hl (k := 1) rfl rfl (by decide) rfl (fun ls hl => ?_)
                            refine lv_goto (tgt := 16) hx hb dJ6_stringSize_0f7a4_39 (by decide) ?_
                            refine lv_iload_n hx hb dJ6_stringSize_0f7a4_16 rfl (lv_at hl 0 rfl) ?_
                            refine lv_bipush (v := nI 10) hx hb dJ6_stringSize_0f7a4_17 (by decide) ?_
                            refine lv_icmp_ge hx hb (x := (nI 7)) (y := (nI 10)) (tgt := 42) dJ6_stringSize_0f7a4_19 (by decide) (fun c_19 => ?_) (fun c_19 => ?_)
                            · exact absurd c_19 (by decide)
                            · refine lv_iload_n hx hb dJ6_stringSize_0f7a4_22 rfl (lv_at hl 3 rfl) ?_
                              refine lv_iload_n hx hb dJ6_stringSize_0f7a4_23 rfl (lv_at hl 1 rfl) ?_
                              refine lv_icmp_le hx hb (x := (-nI w)) (y := (-nI 10000000)) (tgt := 31) dJ6_stringSize_0f7a4_24 (by decide) (fun c_24 => ?_) (fun c_24 => ?_)
                              · have h7 : 10000000 ≤ w := (nz_le (by omega) (by omega)).mp c_24
                                refine lv_bipush (v := nI 10) hx hb dJ6_stringSize_0f7a4_31 (by decide) ?_
                                refine lv_iload_n hx hb dJ6_stringSize_0f7a4_33 rfl (lv_at hl 1 rfl) ?_
                                refine lv_imul hx hb dJ6_stringSize_0f7a4_34 ?_
                                refine r_eq (y := (-nI 100000000)) (by decide) ?_
                                refine lv_istore_n (lv' := [(2, .int (-nI 100000000)), (3, .int (nI 7)), (1, .int (nI 1)), (0, .int (-nI w))]) hx hb dJ6_stringSize_0f7a4_35 rfl hl (by decide) rfl (fun ls hl => ?_)
                                refine lv_iinc (v := (nI 8)) (lv' := [(3, .int (nI 8)), (2, .int (-nI 100000000)), (1, .int (nI 1)), (0, .int (-nI w))]) hx hb dJ6_stringSize_0f7a4_36 hl (k := 1) rfl rfl (by decide) rfl (fun ls hl => ?_)
                                refine lv_goto (tgt := 16) hx hb dJ6_stringSize_0f7a4_39 (by decide) ?_
                                refine lv_iload_n hx hb dJ6_stringSize_0f7a4_16 rfl (lv_at hl 0 rfl) ?_
                                refine lv_bipush (v := nI 10) hx hb dJ6_stringSize_0f7a4_17 (by decide) ?_
                                refine lv_icmp_ge hx hb (x := (nI 8)) (y := (nI 10)) (tgt := 42) dJ6_stringSize_0f7a4_19 (by decide) (fun c_19 => ?_) (fun c_19 => ?_)
                                · exact absurd c_19 (by decide)
                                · refine lv_iload_n hx hb dJ6_stringSize_0f7a4_22 rfl (lv_at hl 3 rfl) ?_
                                  refine lv_iload_n hx hb dJ6_stringSize_0f7a4_23 rfl (lv_at hl 1 rfl) ?_
                                  refine lv_icmp_le hx hb (x := (-nI w)) (y := (-nI 100000000)) (tgt := 31) dJ6_stringSize_0f7a4_24 (by decide) (fun c_24 => ?_) (fun c_24 => ?_)
                                  · have h8 : 100000000 ≤ w := (nz_le (by omega) (by omega)).mp c_24
                                    refine lv_bipush (v := nI 10) hx hb dJ6_stringSize_0f7a4_31 (by decide) ?_
                                    refine lv_iload_n hx hb dJ6_stringSize_0f7a4_33 rfl (lv_at hl 1 rfl) ?_
                                    refine lv_imul hx hb dJ6_stringSize_0f7a4_34 ?_
                                    refine r_eq (y := (-nI 1000000000)) (by decide) ?_
                                    refine lv_istore_n (lv' := [(2, .int (-nI 1000000000)), (3, .int (nI 8)), (1, .int (nI 1)), (0, .int (-nI w))]) hx hb dJ6_stringSize_0f7a4_35 rfl hl (by decide) rfl (fun ls hl => ?_)
                                    refine lv_iinc (v := (nI 9)) (lv' := [(3, .int (nI 9)), (2, .int (-nI 1000000000)), (1, .int (nI 1)), (0, .int (-nI w))]) hx hb dJ6_stringSize_0f7a4_36 hl (k := 1) rfl rfl (by decide) rfl (fun ls hl => ?_)
                                    refine lv_goto (tgt := 16) hx hb dJ6_stringSize_0f7a4_39 (by decide) ?_
                                    refine lv_iload_n hx hb dJ6_stringSize_0f7a4_16 rfl (lv_at hl 0 rfl) ?_
                                    refine lv_bipush (v := nI 10) hx hb dJ6_stringSize_0f7a4_17 (by decide) ?_
                                    refine lv_icmp_ge hx hb (x := (nI 9)) (y := (nI 10)) (tgt := 42) dJ6_stringSize_0f7a4_19 (by decide) (fun c_19 => ?_) (fun c_19 => ?_)
                                    · exact absurd c_19 (by decide)
                                    · refine lv_iload_n hx hb dJ6_stringSize_0f7a4_22 rfl (lv_at hl 3 rfl) ?_
                                      refine lv_iload_n hx hb dJ6_stringSize_0f7a4_23 rfl (lv_at hl 1 rfl) ?_
                                      refine lv_icmp_le hx hb (x := (-nI w)) (y := (-nI 1000000000)) (tgt := 31) dJ6_stringSize_0f7a4_24 (by decide) (fun c_24 => ?_) (fun c_24 => ?_)
                                      · have h9 : 1000000000 ≤ w := (nz_le (by omega) (by omega)).mp c_24
                                        refine lv_bipush (v := nI 10) hx hb dJ6_stringSize_0f7a4_31 (by decide) ?_
                                        refine lv_iload_n hx hb dJ6_stringSize_0f7a4_33 rfl (lv_at hl 1 rfl) ?_
                                        refine lv_imul hx hb dJ6_stringSize_0f7a4_34 ?_
                                        refine lv_istore_n (lv' := [(2, .int ((nI 10) * (-nI 1000000000))), (3, .int (nI 9)), (1, .int (nI 1)), (0, .int (-nI w))]) hx hb dJ6_stringSize_0f7a4_35 rfl hl (by decide) rfl (fun ls hl => ?_)
                                        refine lv_iinc (v := (nI 10)) (lv' := [(3, .int (nI 10)), (2, .int ((nI 10) * (-nI 1000000000))), (1, .int (nI 1)), (0, .int (-nI w))]) hx hb dJ6_stringSize_0f7a4_36 hl (k := 1) rfl rfl (by decide) rfl (fun ls hl => ?_)
                                        refine lv_goto (tgt := 16) hx hb dJ6_stringSize_0f7a4_39 (by decide) ?_
                                        refine lv_iload_n hx hb dJ6_stringSize_0f7a4_16 rfl (lv_at hl 0 rfl) ?_
                                        refine lv_bipush (v := nI 10) hx hb dJ6_stringSize_0f7a4_17 (by decide) ?_
                                        refine lv_icmp_ge hx hb (x := (nI 10)) (y := (nI 10)) (tgt := 42) dJ6_stringSize_0f7a4_19 (by decide) (fun c_19 => ?_) (fun c_19 => ?_)
                                        · refine lv_bipush (v := nI 10) hx hb dJ6_stringSize_0f7a4_42 (by decide) ?_
                                          refine lv_iload_n hx hb dJ6_stringSize_0f7a4_44 rfl (lv_at hl 2 rfl) ?_
                                          refine r_iaddN hx hb (a := 10) (b := 1) dJ6_stringSize_0f7a4_45 ?_
                                          exact cx_iret C hr hlocks rfl hW ⟨Nat.le_of_ble_eq_true rfl, Nat.le_of_ble_eq_true rfl⟩ (⟨by rw [show sb_dg w = 10 from by unfold sb_dg; repeat (first | rw [if_pos (by omega)] | rw [if_neg (by omega)])], rfl⟩) dJ6_stringSize_0f7a4_46
                                        · exact absurd (by decide) c_19
                                      · have h9 : ¬ 1000000000 ≤ w := (fun h9 z9 => h9 ((nz_le (by omega) (by omega)).mpr z9)) c_24
                                        refine lv_iload_n hx hb dJ6_stringSize_0f7a4_27 rfl (lv_at hl 0 rfl) ?_
                                        refine lv_iload_n hx hb dJ6_stringSize_0f7a4_28 rfl (lv_at hl 2 rfl) ?_
                                        refine r_iaddN hx hb (a := 9) (b := 1) dJ6_stringSize_0f7a4_29 ?_
                                        exact cx_iret C hr hlocks rfl hW ⟨Nat.le_of_ble_eq_true rfl, Nat.le_of_ble_eq_true rfl⟩ (⟨by rw [show sb_dg w = 9 from by unfold sb_dg; repeat (first | rw [if_pos (by omega)] | rw [if_neg (by omega)])], rfl⟩) dJ6_stringSize_0f7a4_30
                                  · have h8 : ¬ 100000000 ≤ w := (fun h9 z9 => h9 ((nz_le (by omega) (by omega)).mpr z9)) c_24
                                    refine lv_iload_n hx hb dJ6_stringSize_0f7a4_27 rfl (lv_at hl 0 rfl) ?_
                                    refine lv_iload_n hx hb dJ6_stringSize_0f7a4_28 rfl (lv_at hl 2 rfl) ?_
                                    refine r_iaddN hx hb (a := 8) (b := 1) dJ6_stringSize_0f7a4_29 ?_
                                    exact cx_iret C hr hlocks rfl hW ⟨Nat.le_of_ble_eq_true rfl, Nat.le_of_ble_eq_true rfl⟩ (⟨by rw [show sb_dg w = 8 from by unfold sb_dg; repeat (first | rw [if_pos (by omega)] | rw [if_neg (by omega)])], rfl⟩) dJ6_stringSize_0f7a4_30
                              · have h7 : ¬ 10000000 ≤ w := (fun h9 z9 => h9 ((nz_le (by omega) (by omega)).mpr z9)) c_24
                                refine lv_iload_n hx hb dJ6_stringSize_0f7a4_27 rfl (lv_at hl 0 rfl) ?_
                                refine lv_iload_n hx hb dJ6_stringSize_0f7a4_28 rfl (lv_at hl 2 rfl) ?_
                                refine r_iaddN hx hb (a := 7) (b := 1) dJ6_stringSize_0f7a4_29 ?_
                                exact cx_iret C hr hlocks rfl hW ⟨Nat.le_of_ble_eq_true rfl, Nat.le_of_ble_eq_true rfl⟩ (⟨by rw [show sb_dg w = 7 from by unfold sb_dg; repeat (first | rw [if_pos (by omega)] | rw [if_neg (by omega)])], rfl⟩) dJ6_stringSize_0f7a4_30
                          · have h6 : ¬ 1000000 ≤ w := (fun h9 z9 => h9 ((nz_le (by omega) (by omega)).mpr z9)) c_24
                            refine lv_iload_n hx hb dJ6_stringSize_0f7a4_27 rfl (lv_at hl 0 rfl) ?_
                            refine lv_iload_n hx hb dJ6_stringSize_0f7a4_28 rfl (lv_at hl 2 rfl) ?_
                            refine r_iaddN hx hb (a := 6) (b := 1) dJ6_stringSize_0f7a4_29 ?_
                            exact cx_iret C hr hlocks rfl hW ⟨Nat.le_of_ble_eq_true rfl, Nat.le_of_ble_eq_true rfl⟩ (⟨by rw [show sb_dg w = 6 from by unfold sb_dg; repeat (first | rw [if_pos (by omega)] | rw [if_neg (by omega)])], rfl⟩) dJ6_stringSize_0f7a4_30
                      · have h5 : ¬ 100000 ≤ w := (fun h9 z9 => h9 ((nz_le (by omega) (by omega)).mpr z9)) c_24
                        refine lv_iload_n hx hb dJ6_stringSize_0f7a4_27 rfl (lv_at hl 0 rfl) ?_
                        refine lv_iload_n hx hb dJ6_stringSize_0f7a4_28 rfl (lv_at hl 2 rfl) ?_
                        refine r_iaddN hx hb (a := 5) (b := 1) dJ6_stringSize_0f7a4_29 ?_
                        exact cx_iret C hr hlocks rfl hW ⟨Nat.le_of_ble_eq_true rfl, Nat.le_of_ble_eq_true rfl⟩ (⟨by rw [show sb_dg w = 5 from by unfold sb_dg; repeat (first | rw [if_pos (by omega)] | rw [if_neg (by omega)])], rfl⟩) dJ6_stringSize_0f7a4_30
                  · have h4 : ¬ 10000 ≤ w := (fun h9 z9 => h9 ((nz_le (by omega) (by omega)).mpr z9)) c_24
                    refine lv_iload_n hx hb dJ6_stringSize_0f7a4_27 rfl (lv_at hl 0 rfl) ?_
                    refine lv_iload_n hx hb dJ6_stringSize_0f7a4_28 rfl (lv_at hl 2 rfl) ?_
                    refine r_iaddN hx hb (a := 4) (b := 1) dJ6_stringSize_0f7a4_29 ?_
                    exact cx_iret C hr hlocks rfl hW ⟨Nat.le_of_ble_eq_true rfl, Nat.le_of_ble_eq_true rfl⟩ (⟨by rw [show sb_dg w = 4 from by unfold sb_dg; repeat (first | rw [if_pos (by omega)] | rw [if_neg (by omega)])], rfl⟩) dJ6_stringSize_0f7a4_30
              · have h3 : ¬ 1000 ≤ w := (fun h9 z9 => h9 ((nz_le (by omega) (by omega)).mpr z9)) c_24
                refine lv_iload_n hx hb dJ6_stringSize_0f7a4_27 rfl (lv_at hl 0 rfl) ?_
                refine lv_iload_n hx hb dJ6_stringSize_0f7a4_28 rfl (lv_at hl 2 rfl) ?_
                refine r_iaddN hx hb (a := 3) (b := 1) dJ6_stringSize_0f7a4_29 ?_
                exact cx_iret C hr hlocks rfl hW ⟨Nat.le_of_ble_eq_true rfl, Nat.le_of_ble_eq_true rfl⟩ (⟨by rw [show sb_dg w = 3 from by unfold sb_dg; repeat (first | rw [if_pos (by omega)] | rw [if_neg (by omega)])], rfl⟩) dJ6_stringSize_0f7a4_30
          · have h2 : ¬ 100 ≤ w := (fun h9 z9 => h9 ((nz_le (by omega) (by omega)).mpr z9)) c_24
            refine lv_iload_n hx hb dJ6_stringSize_0f7a4_27 rfl (lv_at hl 0 rfl) ?_
            refine lv_iload_n hx hb dJ6_stringSize_0f7a4_28 rfl (lv_at hl 2 rfl) ?_
            refine r_iaddN hx hb (a := 2) (b := 1) dJ6_stringSize_0f7a4_29 ?_
            exact cx_iret C hr hlocks rfl hW ⟨Nat.le_of_ble_eq_true rfl, Nat.le_of_ble_eq_true rfl⟩ (⟨by rw [show sb_dg w = 2 from by unfold sb_dg; repeat (first | rw [if_pos (by omega)] | rw [if_neg (by omega)])], rfl⟩) dJ6_stringSize_0f7a4_30
      · have h1 : ¬ 10 ≤ w := (fun h9 z9 => h9 ((nz_le (by omega) (by omega)).mpr z9)) c_24
        refine lv_iload_n hx hb dJ6_stringSize_0f7a4_27 rfl (lv_at hl 0 rfl) ?_
        refine lv_iload_n hx hb dJ6_stringSize_0f7a4_28 rfl (lv_at hl 2 rfl) ?_
        refine r_iaddN hx hb (a := 1) (b := 1) dJ6_stringSize_0f7a4_29 ?_
        exact cx_iret C hr hlocks rfl hW ⟨Nat.le_of_ble_eq_true rfl, Nat.le_of_ble_eq_true rfl⟩ (⟨by rw [show sb_dg w = 1 from by unfold sb_dg; repeat (first | rw [if_pos (by omega)] | rw [if_neg (by omega)])], rfl⟩) dJ6_stringSize_0f7a4_30
  · exact absurd (nz_g hw.1 (by omega)) c_3
theorem dJ6_getChars_ba4f3_0 : decode cJ6_getChars_ba4f3 0 = .ok (.iload_n 1, 1) := by decide +kernel
theorem dJ6_getChars_ba4f3_1 : decode cJ6_getChars_ba4f3 1 = .ok (.istore 5, 2) := by decide +kernel
theorem dJ6_getChars_ba4f3_3 : decode cJ6_getChars_ba4f3 3 = .ok (.iload_n 0, 1) := by decide +kernel
theorem dJ6_getChars_ba4f3_4 : decode cJ6_getChars_ba4f3 4 = .ok (.ifCond .ge 7, 3) := by decide +kernel
theorem dJ6_getChars_ba4f3_7 : decode cJ6_getChars_ba4f3 7 = .ok (.iconst 1, 1) := by decide +kernel
theorem dJ6_getChars_ba4f3_8 : decode cJ6_getChars_ba4f3 8 = .ok (.goto 4, 3) := by decide +kernel
theorem dJ6_getChars_ba4f3_11 : decode cJ6_getChars_ba4f3 11 = .ok (.iconst 0, 1) := by decide +kernel
theorem dJ6_getChars_ba4f3_12 : decode cJ6_getChars_ba4f3 12 = .ok (.istore 6, 2) := by decide +kernel
theorem dJ6_getChars_ba4f3_14 : decode cJ6_getChars_ba4f3 14 = .ok (.iload 6, 2) := by decide +kernel
theorem dJ6_getChars_ba4f3_16 : decode cJ6_getChars_ba4f3 16 = .ok (.ifCond .ne 6, 3) := by decide +kernel
theorem dJ6_getChars_ba4f3_19 : decode cJ6_getChars_ba4f3 19 = .ok (.iload_n 0, 1) := by decide +kernel
theorem dJ6_getChars_ba4f3_20 : decode cJ6_getChars_ba4f3 20 = .ok (.ineg, 1) := by decide +kernel
theorem dJ6_getChars_ba4f3_21 : decode cJ6_getChars_ba4f3 21 = .ok (.istore_n 0, 1) := by decide +kernel
theorem dJ6_getChars_ba4f3_22 : decode cJ6_getChars_ba4f3 22 = .ok (.iload_n 0, 1) := by decide +kernel
theorem dJ6_getChars_ba4f3_23 : decode cJ6_getChars_ba4f3 23 = .ok (.bipush (-100), 2) := by decide +kernel
theorem dJ6_getChars_ba4f3_25 : decode cJ6_getChars_ba4f3 25 = .ok (.if_icmp .gt 47, 3) := by decide +kernel
theorem dJ6_getChars_ba4f3_28 : decode cJ6_getChars_ba4f3 28 = .ok (.iload_n 0, 1) := by decide +kernel
theorem dJ6_getChars_ba4f3_29 : decode cJ6_getChars_ba4f3 29 = .ok (.bipush 100, 2) := by decide +kernel
theorem dJ6_getChars_ba4f3_31 : decode cJ6_getChars_ba4f3 31 = .ok (.idiv, 1) := by decide +kernel
theorem dJ6_getChars_ba4f3_32 : decode cJ6_getChars_ba4f3 32 = .ok (.istore_n 3, 1) := by decide +kernel
theorem dJ6_getChars_ba4f3_33 : decode cJ6_getChars_ba4f3 33 = .ok (.iload_n 3, 1) := by decide +kernel
theorem dJ6_getChars_ba4f3_34 : decode cJ6_getChars_ba4f3 34 = .ok (.bipush 100, 2) := by decide +kernel
theorem dJ6_getChars_ba4f3_36 : decode cJ6_getChars_ba4f3 36 = .ok (.imul, 1) := by decide +kernel
theorem dJ6_getChars_ba4f3_37 : decode cJ6_getChars_ba4f3 37 = .ok (.iload_n 0, 1) := by decide +kernel
theorem dJ6_getChars_ba4f3_38 : decode cJ6_getChars_ba4f3 38 = .ok (.isub, 1) := by decide +kernel
theorem dJ6_getChars_ba4f3_39 : decode cJ6_getChars_ba4f3 39 = .ok (.istore 4, 2) := by decide +kernel
theorem dJ6_getChars_ba4f3_41 : decode cJ6_getChars_ba4f3 41 = .ok (.iload_n 3, 1) := by decide +kernel
theorem dJ6_getChars_ba4f3_42 : decode cJ6_getChars_ba4f3 42 = .ok (.istore_n 0, 1) := by decide +kernel
theorem dJ6_getChars_ba4f3_43 : decode cJ6_getChars_ba4f3 43 = .ok (.aload_n 2, 1) := by decide +kernel
theorem dJ6_getChars_ba4f3_44 : decode cJ6_getChars_ba4f3 44 = .ok (.iinc 5 (-1), 3) := by decide +kernel
theorem dJ6_getChars_ba4f3_47 : decode cJ6_getChars_ba4f3 47 = .ok (.iload 5, 2) := by decide +kernel
theorem dJ6_getChars_ba4f3_49 : decode cJ6_getChars_ba4f3 49 = .ok (.getstatic 83, 3) := by decide +kernel
theorem dJ6_getChars_ba4f3_52 : decode cJ6_getChars_ba4f3 52 = .ok (.iload 4, 2) := by decide +kernel
theorem dJ6_getChars_ba4f3_54 : decode cJ6_getChars_ba4f3 54 = .ok (.baload, 1) := by decide +kernel
theorem dJ6_getChars_ba4f3_55 : decode cJ6_getChars_ba4f3 55 = .ok (.bastore, 1) := by decide +kernel
theorem dJ6_getChars_ba4f3_56 : decode cJ6_getChars_ba4f3 56 = .ok (.aload_n 2, 1) := by decide +kernel
theorem dJ6_getChars_ba4f3_57 : decode cJ6_getChars_ba4f3 57 = .ok (.iinc 5 (-1), 3) := by decide +kernel
theorem dJ6_getChars_ba4f3_60 : decode cJ6_getChars_ba4f3 60 = .ok (.iload 5, 2) := by decide +kernel
theorem dJ6_getChars_ba4f3_62 : decode cJ6_getChars_ba4f3 62 = .ok (.getstatic 87, 3) := by decide +kernel
theorem dJ6_getChars_ba4f3_65 : decode cJ6_getChars_ba4f3 65 = .ok (.iload 4, 2) := by decide +kernel
theorem dJ6_getChars_ba4f3_67 : decode cJ6_getChars_ba4f3 67 = .ok (.baload, 1) := by decide +kernel
theorem dJ6_getChars_ba4f3_68 : decode cJ6_getChars_ba4f3 68 = .ok (.bastore, 1) := by decide +kernel
theorem dJ6_getChars_ba4f3_69 : decode cJ6_getChars_ba4f3 69 = .ok (.goto (-47), 3) := by decide +kernel
theorem dJ6_getChars_ba4f3_72 : decode cJ6_getChars_ba4f3 72 = .ok (.aload_n 2, 1) := by decide +kernel
theorem dJ6_getChars_ba4f3_73 : decode cJ6_getChars_ba4f3 73 = .ok (.iinc 5 (-1), 3) := by decide +kernel
theorem dJ6_getChars_ba4f3_76 : decode cJ6_getChars_ba4f3 76 = .ok (.iload 5, 2) := by decide +kernel
theorem dJ6_getChars_ba4f3_78 : decode cJ6_getChars_ba4f3 78 = .ok (.getstatic 83, 3) := by decide +kernel
theorem dJ6_getChars_ba4f3_81 : decode cJ6_getChars_ba4f3 81 = .ok (.iload_n 0, 1) := by decide +kernel
theorem dJ6_getChars_ba4f3_82 : decode cJ6_getChars_ba4f3 82 = .ok (.ineg, 1) := by decide +kernel
theorem dJ6_getChars_ba4f3_83 : decode cJ6_getChars_ba4f3 83 = .ok (.baload, 1) := by decide +kernel
theorem dJ6_getChars_ba4f3_84 : decode cJ6_getChars_ba4f3 84 = .ok (.bastore, 1) := by decide +kernel
theorem dJ6_getChars_ba4f3_85 : decode cJ6_getChars_ba4f3 85 = .ok (.iload_n 0, 1) := by decide +kernel
theorem dJ6_getChars_ba4f3_86 : decode cJ6_getChars_ba4f3 86 = .ok (.bipush (-9), 2) := by decide +kernel
theorem dJ6_getChars_ba4f3_88 : decode cJ6_getChars_ba4f3 88 = .ok (.if_icmp .ge 16, 3) := by decide +kernel
theorem dJ6_getChars_ba4f3_91 : decode cJ6_getChars_ba4f3 91 = .ok (.aload_n 2, 1) := by decide +kernel
theorem dJ6_getChars_ba4f3_92 : decode cJ6_getChars_ba4f3 92 = .ok (.iinc 5 (-1), 3) := by decide +kernel
theorem dJ6_getChars_ba4f3_95 : decode cJ6_getChars_ba4f3 95 = .ok (.iload 5, 2) := by decide +kernel
theorem dJ6_getChars_ba4f3_97 : decode cJ6_getChars_ba4f3 97 = .ok (.getstatic 87, 3) := by decide +kernel
theorem dJ6_getChars_ba4f3_100 : decode cJ6_getChars_ba4f3 100 = .ok (.iload_n 0, 1) := by decide +kernel
theorem dJ6_getChars_ba4f3_101 : decode cJ6_getChars_ba4f3 101 = .ok (.ineg, 1) := by decide +kernel
theorem dJ6_getChars_ba4f3_102 : decode cJ6_getChars_ba4f3 102 = .ok (.baload, 1) := by decide +kernel
theorem dJ6_getChars_ba4f3_103 : decode cJ6_getChars_ba4f3 103 = .ok (.bastore, 1) := by decide +kernel
theorem dJ6_getChars_ba4f3_104 : decode cJ6_getChars_ba4f3 104 = .ok (.iload 6, 2) := by decide +kernel
theorem dJ6_getChars_ba4f3_106 : decode cJ6_getChars_ba4f3 106 = .ok (.ifCond .eq 12, 3) := by decide +kernel
theorem dJ6_getChars_ba4f3_109 : decode cJ6_getChars_ba4f3 109 = .ok (.aload_n 2, 1) := by decide +kernel
theorem dJ6_getChars_ba4f3_110 : decode cJ6_getChars_ba4f3 110 = .ok (.iinc 5 (-1), 3) := by decide +kernel
theorem dJ6_getChars_ba4f3_113 : decode cJ6_getChars_ba4f3 113 = .ok (.iload 5, 2) := by decide +kernel
theorem dJ6_getChars_ba4f3_115 : decode cJ6_getChars_ba4f3 115 = .ok (.bipush 45, 2) := by decide +kernel
theorem dJ6_getChars_ba4f3_117 : decode cJ6_getChars_ba4f3 117 = .ok (.bastore, 1) := by decide +kernel
theorem dJ6_getChars_ba4f3_118 : decode cJ6_getChars_ba4f3 118 = .ok (.iload 5, 2) := by decide +kernel
theorem dJ6_getChars_ba4f3_120 : decode cJ6_getChars_ba4f3 120 = .ok (.ireturn, 1) := by decide +kernel
set_option maxHeartbeats 2000000 in
set_option maxRecDepth 20000 in
theorem k_getChars_0 (l : Launch) (hfl : l.stackTraces = false) (D : va_G) (aT : Nat → ClassId) (ov : Nat) (cp : Nat) (bs : Nat) (w : Nat) (fO : Nat → Int32) (hfit : sb_Fit fO) (hw : w < 2147483648) (hcp : cp ≤ 9000 ∧ bs + sb_dg w ≤ cp) : CxG l yJ6_getChars_ba4f3 cJ6_getChars_ba4f3 7 (some (.int)) 0 0 0 0 D aT [.int (nI w), .int (nI (bs + sb_dg w)), .ref ov] [(ov, .inl (aT 4, cp, .inl fO))] (qI D aT (fun r W1 => ∃ f2 : Nat → Int32, sb_Fit f2 ∧ W1 = ([(ov, .inl (aT 4, cp, .inl f2))] : va_W))) (fun _ _ => False) := by
  refine CxG.of RJ6 (by decide +kernel) rfl (Nat.le_of_ble_eq_true rfl) ?_
  intro p e s m below meth c A ls C hml hl hA hr hlocks hex hnm hZ hW
  have hl : lv_has ls 7 [(0, .int (nI w)), (1, .int (nI (bs + sb_dg w))), (2, .ref ov)] := hl
  have hx := C.1
  have hb := C.2.1
  refine lv_iload_n hx hb dJ6_getChars_ba4f3_0 rfl (lv_at hl 1 rfl) ?_
  refine lv_istore (lv' := [(5, .int (nI (bs + sb_dg w))), (0, .int (nI w)), (1, .int (nI (bs + sb_dg w))), (2, .ref ov)]) hx hb dJ6_getChars_ba4f3_1 hl (by decide) rfl (fun ls hl => ?_)
  refine lv_iload_n hx hb dJ6_getChars_ba4f3_3 rfl (lv_at hl 1 rfl) ?_
  refine lv_if_ge hx hb (x := (nI w)) (tgt := 11) dJ6_getChars_ba4f3_4 (by decide) (fun c_4 => ?_) (fun c_4 => ?_)
  · refine lv_iconst (v := nI 0) hx hb dJ6_getChars_ba4f3_11 (by decide) ?_
    refine lv_istore (lv' := [(6, .int (nI 0)), (5, .int (nI (bs + sb_dg w))), (0, .int (nI w)), (1, .int (nI (bs + sb_dg w))), (2, .ref ov)]) hx hb dJ6_getChars_ba4f3_12 hl (by decide) rfl (fun ls hl => ?_)
    refine lv_iload hx hb dJ6_getChars_ba4f3_14 (lv_at hl 0 rfl) ?_
    refine lv_if_ne hx hb (x := (nI 0)) (tgt := 22) dJ6_getChars_ba4f3_16 (by decide) (fun c_16 => ?_) (fun c_16 => ?_)
    · exact absurd rfl c_16
    · refine lv_iload_n hx hb dJ6_getChars_ba4f3_19 rfl (lv_at hl 2 rfl) ?_
      refine lv_ineg hx hb dJ6_getChars_ba4f3_20 ?_
      refine lv_istore_n (lv' := [(0, .int (-(nI w))), (6, .int (nI 0)), (5, .int (nI (bs + sb_dg w))), (1, .int (nI (bs + sb_dg w))), (2, .ref ov)]) hx hb dJ6_getChars_ba4f3_21 rfl hl (by decide) rfl (fun ls hl => ?_)
      refine W_loopH (σ := Nat × (Nat → Int32)) (fun z_ => z_.1) (fun z_ H locs g => ∃ ls, g = F0 m 22 ls [] ∧ lv_has ls 7 [(0, .int (-nI z_.1)), (1, .int (nI (bs + sb_dg w))), (2, .ref ov), (5, .int (nI (bs + sb_dg z_.1))), (6, .int (nI 0))] ∧ CxB D [(ov, .inl (aT 4, cp, .inl z_.2))] A s.heap H locs ∧ z_.1 ≤ 2147483648 ∧ bs + sb_dg z_.1 ≤ cp ∧ sb_Fit z_.2) ?_ (w, fO) _ ⟨_, rfl, lv_sub hl [0, 3, 4, 2, 1] rfl, hW, (by dsimp only; omega), (by dsimp only; omega), hfit⟩
      clear hW hl
      rintro ⟨w1, f1⟩ H locs g ⟨ls, rfl, hl, hW, hw1, hcd, hft⟩ ih_22
      dsimp only at hl hW hw1 hcd hft ⊢
      refine lv_iload_n hx hb dJ6_getChars_ba4f3_22 rfl (lv_at hl 0 rfl) ?_
      refine lv_bipush (v := (-100)) hx hb dJ6_getChars_ba4f3_23 (by decide) ?_
      refine r_eq (y := (-nI 100)) (by decide) ?_
      refine lv_icmp_gt hx hb (x := (-nI w1)) (y := (-nI 100)) (tgt := 72) dJ6_getChars_ba4f3_25 (by decide) (fun c_25 => ?_) (fun c_25 => ?_)
      · have h25 : w1 < 100 := (nz_lt (by omega) (by omega)).mp c_25
        refine lv_aload_n hx hb dJ6_getChars_ba4f3_72 rfl (lv_at hl 2 rfl) ?_
        refine lv_iinc (v := (nI (bs + sb_dg w1 - 1))) (lv' := [(5, .int (nI (bs + sb_dg w1 - 1))), (0, .int (-nI w1)), (1, .int (nI (bs + sb_dg w))), (2, .ref ov), (6, .int (nI 0))]) hx hb dJ6_getChars_ba4f3_73 hl (k := 3) rfl (sb_m1 (by have := sb_dg_in w1; omega)) (by decide) rfl (fun ls hl => ?_)
        refine lv_iload hx hb dJ6_getChars_ba4f3_76 (lv_at hl 0 rfl) ?_
        refine va_gets hx hb hZ.2.2.2.2.2.2.2.2.2.2.2.2.2.2.1 hW.2.2 C.2.2.2.1 (C.2.2.1 _ gw_1455) (fun _ h9 => h9) dJ6_getChars_ba4f3_78 ?_
        refine lv_iload_n hx hb dJ6_getChars_ba4f3_81 rfl (lv_at hl 1 rfl) ?_
        refine lv_ineg hx hb dJ6_getChars_ba4f3_82 ?_
        refine r_eq (y := (nI w1)) (Int32.neg_neg) ?_
        refine va_tb (v := .int (nI (48 + w1 % 10))) hx hb (hZ.2.2.2.2.2.2.2.2.2.2.2.2.2.2.2.1) hW.2.2 (i := nI w1) (vp_in_nI (by omega) (by omega)) (by rw [nI_clamp (by omega)]; rfl) dJ6_getChars_ba4f3_83 ?_
        refine cx_bast C hW 0 4 (j := bs + sb_dg w1 - 1) (W1 := [(ov, .inl (aT 4, cp, .inl (upd f1 (bs + sb_dg w1 - 1) (vp_nar .byte ((nI (48 + w1 % 10)))))))]) rfl rfl rfl (by have := sb_dg_in w1; omega) (by first | decide | omega) rfl dJ6_getChars_ba4f3_84 (fun H locs hW => ?_)
        refine lv_iload_n hx hb dJ6_getChars_ba4f3_85 rfl (lv_at hl 1 rfl) ?_
        refine lv_bipush (v := (-9)) hx hb dJ6_getChars_ba4f3_86 (by decide) ?_
        refine r_eq (y := (-nI 9)) (by decide) ?_
        refine lv_icmp_ge hx hb (x := (-nI w1)) (y := (-nI 9)) (tgt := 104) dJ6_getChars_ba4f3_88 (by decide) (fun c_88 => ?_) (fun c_88 => ?_)
        · have h88 : w1 ≤ 9 := (nz_le (by omega) (by omega)).mp c_88
          refine lv_iload hx hb dJ6_getChars_ba4f3_104 (lv_at hl 4 rfl) ?_
          refine lv_if_eq hx hb (x := (nI 0)) (tgt := 118) dJ6_getChars_ba4f3_106 (by decide) (fun c_106 => ?_) (fun c_106 => ?_)
          · refine lv_iload hx hb dJ6_getChars_ba4f3_118 (lv_at hl 0 rfl) ?_
            exact cx_iret C hr hlocks rfl hW ⟨Nat.le_of_ble_eq_true rfl, Nat.le_of_ble_eq_true rfl⟩ (⟨_, (sb_fitU hft (sb_nar _)), rfl⟩) dJ6_getChars_ba4f3_120
          · exact absurd (by decide) c_106
        · have h88 : 10 ≤ w1 := Nat.lt_of_not_le (fun h9 => c_88 ((nz_le (by omega) (by omega)).mpr h9))
          have hd2 : sb_dg w1 = 2 := by unfold sb_dg; rw [if_neg (by omega), if_pos (by omega)]
          refine lv_aload_n hx hb dJ6_getChars_ba4f3_91 rfl (lv_at hl 3 rfl) ?_
          refine lv_iinc (v := (nI (bs + sb_dg w1 - 2))) (lv' := [(5, .int (nI (bs + sb_dg w1 - 2))), (0, .int (-nI w1)), (1, .int (nI (bs + sb_dg w))), (2, .ref ov), (6, .int (nI 0))]) hx hb dJ6_getChars_ba4f3_92 hl (k := 0) rfl ((sb_m1 (by have := sb_dg_in w1; omega)).trans (congrArg nI (by omega))) (by decide) rfl (fun ls hl => ?_)
          refine lv_iload hx hb dJ6_getChars_ba4f3_95 (lv_at hl 0 rfl) ?_
          refine va_gets hx hb hZ.2.2.2.2.2.2.2.2.2.2.2.2.2.2.2.2.1 hW.2.2 C.2.2.2.1 (C.2.2.1 _ gw_1457) (fun _ h9 => h9) dJ6_getChars_ba4f3_97 ?_
          refine lv_iload_n hx hb dJ6_getChars_ba4f3_100 rfl (lv_at hl 1 rfl) ?_
          refine lv_ineg hx hb dJ6_getChars_ba4f3_101 ?_
          refine r_eq (y := (nI w1)) (Int32.neg_neg) ?_
          refine va_tb (v := .int (nI (48 + w1 / 10))) hx hb (hZ.2.2.2.2.2.2.2.2.2.2.2.2.2.2.2.2.2.1) hW.2.2 (i := nI w1) (vp_in_nI (by omega) (by omega)) (by rw [nI_clamp (by omega)]; rfl) dJ6_getChars_ba4f3_102 ?_
          refine cx_bast C hW 0 4 (j := bs + sb_dg w1 - 2) (W1 := [(ov, .inl (aT 4, cp, .inl (upd (upd f1 (bs + sb_dg w1 - 1) (vp_nar .byte ((nI (48 + w1 % 10))))) (bs + sb_dg w1 - 2) (vp_nar .byte ((nI (48 + w1 / 10)))))))]) rfl rfl rfl (by have := sb_dg_in w1; omega) (by first | decide | omega) rfl dJ6_getChars_ba4f3_103 (fun H locs hW => ?_)
          refine lv_iload hx hb dJ6_getChars_ba4f3_104 (lv_at hl 4 rfl) ?_
          refine lv_if_eq hx hb (x := (nI 0)) (tgt := 118) dJ6_getChars_ba4f3_106 (by decide) (fun c_106 => ?_) (fun c_106 => ?_)
          · refine lv_iload hx hb dJ6_getChars_ba4f3_118 (lv_at hl 0 rfl) ?_
            exact cx_iret C hr hlocks rfl hW ⟨Nat.le_of_ble_eq_true rfl, Nat.le_of_ble_eq_true rfl⟩ (⟨_, (sb_fitU (sb_fitU hft (sb_nar _)) (sb_nar _)), rfl⟩) dJ6_getChars_ba4f3_120
          · exact absurd (by decide) c_106
      · have h25 : 100 ≤ w1 := Nat.le_of_not_lt (fun h9 => c_25 ((nz_lt (by omega) (by omega)).mpr h9))
        have hdg := nz_dg h25 (by omega)
        refine lv_iload_n hx hb dJ6_getChars_ba4f3_28 rfl (lv_at hl 0 rfl) ?_
        refine lv_bipush (v := nI 100) hx hb dJ6_getChars_ba4f3_29 (by decide) ?_
        refine lv_idiv hx hb dJ6_getChars_ba4f3_31 (by decide) ?_
        refine r_eq (y := (-nI (w1 / 100))) (nz_div (by omega)) ?_
        refine lv_istore_n (lv' := [(3, .int (-nI (w1 / 100))), (0, .int (-nI w1)), (1, .int (nI (bs + sb_dg w))), (2, .ref ov), (5, .int (nI (bs + sb_dg w1))), (6, .int (nI 0))]) hx hb dJ6_getChars_ba4f3_32 rfl hl (by decide) rfl (fun ls hl => ?_)
        refine lv_iload_n hx hb dJ6_getChars_ba4f3_33 rfl (lv_at hl 0 rfl) ?_
        refine lv_bipush (v := nI 100) hx hb dJ6_getChars_ba4f3_34 (by decide) ?_
        refine lv_imul hx hb dJ6_getChars_ba4f3_36 ?_
        refine lv_iload_n hx hb dJ6_getChars_ba4f3_37 rfl (lv_at hl 1 rfl) ?_
        refine lv_isub hx hb dJ6_getChars_ba4f3_38 ?_
        refine r_eq (y := (nI (w1 % 100))) (nz_rem (by omega)) ?_
        refine lv_istore (lv' := [(4, .int (nI (w1 % 100))), (3, .int (-nI (w1 / 100))), (0, .int (-nI w1)), (1, .int (nI (bs + sb_dg w))), (2, .ref ov), (5, .int (nI (bs + sb_dg w1))), (6, .int (nI 0))]) hx hb dJ6_getChars_ba4f3_39 hl (by decide) rfl (fun ls hl => ?_)
        refine lv_iload_n hx hb dJ6_getChars_ba4f3_41 rfl (lv_at hl 1 rfl) ?_
        refine lv_istore_n (lv' := [(0, .int (-nI (w1 / 100))), (4, .int (nI (w1 % 100))), (3, .int (-nI (w1 / 100))), (1, .int (nI (bs + sb_dg w))), (2, .ref ov), (5, .int (nI (bs + sb_dg w1))), (6, .int (nI 0))]) hx hb dJ6_getChars_ba4f3_42 rfl hl (by decide) rfl (fun ls hl => ?_)
        refine lv_aload_n hx hb dJ6_getChars_ba4f3_43 rfl (lv_at hl 4 rfl) ?_
        refine lv_iinc (v := (nI (bs + sb_dg w1 - 1))) (lv' := [(5, .int (nI (bs + sb_dg w1 - 1))), (0, .int (-nI (w1 / 100))), (4, .int (nI (w1 % 100))), (3, .int (-nI (w1 / 100))), (1, .int (nI (bs + sb_dg w))), (2, .ref ov), (6, .int (nI 0))]) hx hb dJ6_getChars_ba4f3_44 hl (k := 5) rfl (sb_m1 (by have := sb_dg_in w1; omega)) (by decide) rfl (fun ls hl => ?_)
        refine lv_iload hx hb dJ6_getChars_ba4f3_47 (lv_at hl 0 rfl) ?_
        refine va_gets hx hb hZ.2.2.2.2.2.2.2.2.2.2.2.2.2.2.1 hW.2.2 C.2.2.2.1 (C.2.2.1 _ gw_1455) (fun _ h9 => h9) dJ6_getChars_ba4f3_49 ?_
        refine lv_iload hx hb dJ6_getChars_ba4f3_52 (lv_at hl 2 rfl) ?_
        refine va_tb (v := .int (nI (48 + (w1 % 100) % 10))) hx hb (hZ.2.2.2.2.2.2.2.2.2.2.2.2.2.2.2.1) hW.2.2 (i := nI (w1 % 100)) (vp_in_nI (by omega) (by omega)) (by rw [nI_clamp (by omega)]; rfl) dJ6_getChars_ba4f3_54 ?_
        refine cx_bast C hW 0 4 (j := bs + sb_dg w1 - 1) (W1 := [(ov, .inl (aT 4, cp, .inl (upd f1 (bs + sb_dg w1 - 1) (vp_nar .byte ((nI (48 + (w1 % 100) % 10)))))))]) rfl rfl rfl (by have := sb_dg_in w1; omega) (by first | decide | omega) rfl dJ6_getChars_ba4f3_55 (fun H locs hW => ?_)
        refine lv_aload_n hx hb dJ6_getChars_ba4f3_56 rfl (lv_at hl 5 rfl) ?_
        refine lv_iinc (v := (nI (bs + sb_dg w1 - 2))) (lv' := [(5, .int (nI (bs + sb_dg w1 - 2))), (0, .int (-nI (w1 / 100))), (4, .int (nI (w1 % 100))), (3, .int (-nI (w1 / 100))), (1, .int (nI (bs + sb_dg w))), (2, .ref ov), (6, .int (nI 0))]) hx hb dJ6_getChars_ba4f3_57 hl (k := 0) rfl ((sb_m1 (by have := sb_dg_in w1; omega)).trans (congrArg nI (by omega))) (by decide) rfl (fun ls hl => ?_)
        refine lv_iload hx hb dJ6_getChars_ba4f3_60 (lv_at hl 0 rfl) ?_
        refine va_gets hx hb hZ.2.2.2.2.2.2.2.2.2.2.2.2.2.2.2.2.1 hW.2.2 C.2.2.2.1 (C.2.2.1 _ gw_1457) (fun _ h9 => h9) dJ6_getChars_ba4f3_62 ?_
        refine lv_iload hx hb dJ6_getChars_ba4f3_65 (lv_at hl 2 rfl) ?_
        refine va_tb (v := .int (nI (48 + (w1 % 100) / 10))) hx hb (hZ.2.2.2.2.2.2.2.2.2.2.2.2.2.2.2.2.2.1) hW.2.2 (i := nI (w1 % 100)) (vp_in_nI (by omega) (by omega)) (by rw [nI_clamp (by omega)]; rfl) dJ6_getChars_ba4f3_67 ?_
        refine cx_bast C hW 0 4 (j := bs + sb_dg w1 - 2) (W1 := [(ov, .inl (aT 4, cp, .inl (upd (upd f1 (bs + sb_dg w1 - 1) (vp_nar .byte ((nI (48 + (w1 % 100) % 10))))) (bs + sb_dg w1 - 2) (vp_nar .byte ((nI (48 + (w1 % 100) / 10)))))))]) rfl rfl rfl (by have := sb_dg_in w1; omega) (by first | decide | omega) rfl dJ6_getChars_ba4f3_68 (fun H locs hW => ?_)
        refine lv_goto (tgt := 22) hx hb dJ6_getChars_ba4f3_69 (by decide) ?_
        have hl : lv_has ls 7 [(5, .int (nI (bs + sb_dg (w1 / 100)))), (0, .int (-nI (w1 / 100))), (4, .int (nI (w1 % 100))), (3, .int (-nI (w1 / 100))), (1, .int (nI (bs + sb_dg w))), (2, .ref ov), (6, .int (nI 0))] := by
          rw [show nI (bs + sb_dg (w1 / 100)) = nI (bs + sb_dg w1 - 2) from congrArg nI (by omega)]
          exact hl
        exact ih_22 ((w1 / 100), (upd (upd f1 (bs + sb_dg w1 - 1) (vp_nar .byte ((nI (48 + (w1 % 100) % 10))))) (bs + sb_dg w1 - 2) (vp_nar .byte ((nI (48 + (w1 % 100) / 10)))))) _ _ _ (by first | omega | (dsimp only; omega)) ⟨_, rfl, lv_sub hl [1, 4, 5, 0, 6] rfl, hW, (by dsimp only; omega), (by dsimp only; omega), (sb_fitU (sb_fitU hft (sb_nar _)) (sb_nar _))⟩
  · exact absurd (nI_pos (by omega)) (fun z9 => c_4 (Int32.not_lt.mp z9))
set_option maxHeartbeats 2000000 in
set_option maxRecDepth 20000 in
theorem k_getChars_1 (l : Launch) (hfl : l.stackTraces = false) (D : va_G) (aT : Nat → ClassId) (ov : Nat) (cp : Nat) (bs : Nat) (w : Nat) (fO : Nat → Int32) (hfit : sb_Fit fO) (hw : 0 < w ∧ w ≤ 2147483648) (hcp : cp ≤ 9000 ∧ bs + sb_dg w + 1 ≤ cp) : CxG l yJ6_getChars_ba4f3 cJ6_getChars_ba4f3 7 (some (.int)) 0 0 0 0 D aT [.int (-nI w), .int (nI (bs + sb_dg w + 1)), .ref ov] [(ov, .inl (aT 4, cp, .inl fO))] (qI D aT (fun r W1 => ∃ f2 : Nat → Int32, sb_Fit f2 ∧ W1 = ([(ov, .inl (aT 4, cp, .inl f2))] : va_W))) (fun _ _ => False) := by
  refine CxG.of RJ6 (by decide +kernel) rfl (Nat.le_of_ble_eq_true rfl) ?_
  intro p e s m below meth c A ls C hml hl hA hr hlocks hex hnm hZ hW
  have hl : lv_has ls 7 [(0, .int (-nI w)), (1, .int (nI (bs + sb_dg w + 1))), (2, .ref ov)] := hl
  have hx := C.1
  have hb := C.2.1
  refine lv_iload_n hx hb dJ6_getChars_ba4f3_0 rfl (lv_at hl 1 rfl) ?_
  refine lv_istore (lv' := [(5, .int (nI (bs + sb_dg w + 1))), (0, .int (-nI w)), (1, .int (nI (bs + sb_dg w + 1))), (2, .ref ov)]) hx hb dJ6_getChars_ba4f3_1 hl (by decide) rfl (fun ls hl => ?_)
  refine lv_iload_n hx hb dJ6_getChars_ba4f3_3 rfl (lv_at hl 1 rfl) ?_
  refine lv_if_ge hx hb (x := (-nI w)) (tgt := 11) dJ6_getChars_ba4f3_4 (by decide) (fun c_4 => ?_) (fun c_4 => ?_)
  · exact absurd (nz_g hw.1 (by omega)) (Int32.not_lt.mpr c_4)
  · refine lv_iconst (v := nI 1) hx hb dJ6_getChars_ba4f3_7 (by decide) ?_
    refine lv_goto (tgt := 12) hx hb dJ6_getChars_ba4f3_8 (by decide) ?_
    refine lv_istore (lv' := [(6, .int (nI 1)), (5, .int (nI (bs + sb_dg w + 1))), (0, .int (-nI w)), (1, .int (nI (bs + sb_dg w + 1))), (2, .ref ov)]) hx hb dJ6_getChars_ba4f3_12 hl (by decide) rfl (fun ls hl => ?_)
    refine lv_iload hx hb dJ6_getChars_ba4f3_14 (lv_at hl 0 rfl) ?_
    refine lv_if_ne hx hb (x := (nI 1)) (tgt := 22) dJ6_getChars_ba4f3_16 (by decide) (fun c_16 => ?_) (fun c_16 => ?_)
    · refine W_loopH (σ := Nat × (Nat → Int32)) (fun z_ => z_.1) (fun z_ H locs g => ∃ ls, g = F0 m 22 ls [] ∧ lv_has ls 7 [(0, .int (-nI z_.1)), (1, .int (nI (bs + sb_dg w + 1))), (2, .ref ov), (5, .int (nI (bs + sb_dg z_.1 + 1))), (6, .int (nI 1))] ∧ CxB D [(ov, .inl (aT 4, cp, .inl z_.2))] A s.heap H locs ∧ z_.1 ≤ 2147483648 ∧ bs + sb_dg z_.1 + 1 ≤ cp ∧ sb_Fit z_.2) ?_ (w, fO) _ ⟨_, rfl, lv_sub hl [2, 3, 4, 1, 0] rfl, hW, (by dsimp only; omega), (by dsimp only; omega), hfit⟩
      clear hW hl
      rintro ⟨w1, f1⟩ H locs g ⟨ls, rfl, hl, hW, hw1, hcd, hft⟩ ih_22
      dsimp only at hl hW hw1 hcd hft ⊢
      refine lv_iload_n hx hb dJ6_getChars_ba4f3_22 rfl (lv_at hl 0 rfl) ?_
      refine lv_bipush (v := (-100)) hx hb dJ6_getChars_ba4f3_23 (by decide) ?_
      refine r_eq (y := (-nI 100)) (by decide) ?_
      refine lv_icmp_gt hx hb (x := (-nI w1)) (y := (-nI 100)) (tgt := 72) dJ6_getChars_ba4f3_25 (by decide) (fun c_25 => ?_) (fun c_25 => ?_)
      · have h25 : w1 < 100 := (nz_lt (by omega) (by omega)).mp c_25
        refine lv_aload_n hx hb dJ6_getChars_ba4f3_72 rfl (lv_at hl 2 rfl) ?_
        refine lv_iinc (v := (nI (bs + sb_dg w1 + 1 - 1))) (lv' := [(5, .int (nI (bs + sb_dg w1 + 1 - 1))), (0, .int (-nI w1)), (1, .int (nI (bs + sb_dg w + 1))), (2, .ref ov), (6, .int (nI 1))]) hx hb dJ6_getChars_ba4f3_73 hl (k := 3) rfl (sb_m1 (by have := sb_dg_in w1; omega)) (by decide) rfl (fun ls hl => ?_)
        refine lv_iload hx hb dJ6_getChars_ba4f3_76 (lv_at hl 0 rfl) ?_
        refine va_gets hx hb hZ.2.2.2.2.2.2.2.2.2.2.2.2.2.2.1 hW.2.2 C.2.2.2.1 (C.2.2.1 _ gw_1455) (fun _ h9 => h9) dJ6_getChars_ba4f3_78 ?_
        refine lv_iload_n hx hb dJ6_getChars_ba4f3_81 rfl (lv_at hl 1 rfl) ?_
        refine lv_ineg hx hb dJ6_getChars_ba4f3_82 ?_
        refine r_eq (y := (nI w1)) (Int32.neg_neg) ?_
        refine va_tb (v := .int (nI (48 + w1 % 10))) hx hb (hZ.2.2.2.2.2.2.2.2.2.2.2.2.2.2.2.1) hW.2.2 (i := nI w1) (vp_in_nI (by omega) (by omega)) (by rw [nI_clamp (by omega)]; rfl) dJ6_getChars_ba4f3_83 ?_
        refine cx_bast C hW 0 4 (j := bs + sb_dg w1 + 1 - 1) (W1 := [(ov, .inl (aT 4, cp, .inl (upd f1 (bs + sb_dg w1 + 1 - 1) (vp_nar .byte ((nI (48 + w1 % 10)))))))]) rfl rfl rfl (by have := sb_dg_in w1; omega) (by first | decide | omega) rfl dJ6_getChars_ba4f3_84 (fun H locs hW => ?_)
        refine lv_iload_n hx hb dJ6_getChars_ba4f3_85 rfl (lv_at hl 1 rfl) ?_
        refine lv_bipush (v := (-9)) hx hb dJ6_getChars_ba4f3_86 (by decide) ?_
        refine r_eq (y := (-nI 9)) (by decide) ?_
        refine lv_icmp_ge hx hb (x := (-nI w1)) (y := (-nI 9)) (tgt := 104) dJ6_getChars_ba4f3_88 (by decide) (fun c_88 => ?_) (fun c_88 => ?_)
        · have h88 : w1 ≤ 9 := (nz_le (by omega) (by omega)).mp c_88
          refine lv_iload hx hb dJ6_getChars_ba4f3_104 (lv_at hl 4 rfl) ?_
          refine lv_if_eq hx hb (x := (nI 1)) (tgt := 118) dJ6_getChars_ba4f3_106 (by decide) (fun c_106 => ?_) (fun c_106 => ?_)
          · exact absurd c_106 (by decide)
          · refine lv_aload_n hx hb dJ6_getChars_ba4f3_109 rfl (lv_at hl 3 rfl) ?_
            refine lv_iinc (v := (nI (bs + sb_dg w1 + 1 - 2))) (lv' := [(5, .int (nI (bs + sb_dg w1 + 1 - 2))), (0, .int (-nI w1)), (1, .int (nI (bs + sb_dg w + 1))), (2, .ref ov), (6, .int (nI 1))]) hx hb dJ6_getChars_ba4f3_110 hl (k := 0) rfl ((sb_m1 (by have := sb_dg_in w1; omega)).trans (congrArg nI (by omega))) (by decide) rfl (fun ls hl => ?_)
            refine lv_iload hx hb dJ6_getChars_ba4f3_113 (lv_at hl 0 rfl) ?_
            refine lv_bipush (v := nI 45) hx hb dJ6_getChars_ba4f3_115 (by decide) ?_
            refine cx_bast C hW 0 4 (j := bs + sb_dg w1 + 1 - 2) (W1 := [(ov, .inl (aT 4, cp, .inl (upd (upd f1 (bs + sb_dg w1 + 1 - 1) (vp_nar .byte ((nI (48 + w1 % 10))))) (bs + sb_dg w1 + 1 - 2) (vp_nar .byte ((nI 45))))))]) rfl rfl rfl (by have := sb_dg_in w1; omega) (by first | decide | omega) rfl dJ6_getChars_ba4f3_117 (fun H locs hW => ?_)
            refine lv_iload hx hb dJ6_getChars_ba4f3_118 (lv_at hl 0 rfl) ?_
            exact cx_iret C hr hlocks rfl hW ⟨Nat.le_of_ble_eq_true rfl, Nat.le_of_ble_eq_true rfl⟩ (⟨_, (sb_fitU (sb_fitU hft (sb_nar _)) (sb_nar _)), rfl⟩) dJ6_getChars_ba4f3_120
        · have h88 : 10 ≤ w1 := Nat.lt_of_not_le (fun h9 => c_88 ((nz_le (by omega) (by omega)).mpr h9))
          have hd2 : sb_dg w1 = 2 := by unfold sb_dg; rw [if_neg (by omega), if_pos (by omega)]
          refine lv_aload_n hx hb dJ6_getChars_ba4f3_91 rfl (lv_at hl 3 rfl) ?_
          refine lv_iinc (v := (nI (bs + sb_dg w1 + 1 - 2))) (lv' := [(5, .int (nI (bs + sb_dg w1 + 1 - 2))), (0, .int (-nI w1)), (1, .int (nI (bs + sb_dg w + 1))), (2, .ref ov), (6, .int (nI 1))]) hx hb dJ6_getChars_ba4f3_92 hl (k := 0) rfl ((sb_m1 (by have := sb_dg_in w1; omega)).trans (congrArg nI (by omega))) (by decide) rfl (fun ls hl => ?_)
          refine lv_iload hx hb dJ6_getChars_ba4f3_95 (lv_at hl 0 rfl) ?_
          refine va_gets hx hb hZ.2.2.2.2.2.2.2.2.2.2.2.2.2.2.2.2.1 hW.2.2 C.2.2.2.1 (C.2.2.1 _ gw_1457) (fun _ h9 => h9) dJ6_getChars_ba4f3_97 ?_
          refine lv_iload_n hx hb dJ6_getChars_ba4f3_100 rfl (lv_at hl 1 rfl) ?_
          refine lv_ineg hx hb dJ6_getChars_ba4f3_101 ?_
          refine r_eq (y := (nI w1)) (Int32.neg_neg) ?_
          refine va_tb (v := .int (nI (48 + w1 / 10))) hx hb (hZ.2.2.2.2.2.2.2.2.2.2.2.2.2.2.2.2.2.1) hW.2.2 (i := nI w1) (vp_in_nI (by omega) (by omega)) (by rw [nI_clamp (by omega)]; rfl) dJ6_getChars_ba4f3_102 ?_
          refine cx_bast C hW 0 4 (j := bs + sb_dg w1 + 1 - 2) (W1 := [(ov, .inl (aT 4, cp, .inl (upd (upd f1 (bs + sb_dg w1 + 1 - 1) (vp_nar .byte ((nI (48 + w1 % 10))))) (bs + sb_dg w1 + 1 - 2) (vp_nar .byte ((nI (48 + w1 / 10)))))))]) rfl rfl rfl (by have := sb_dg_in w1; omega) (by first | decide | omega) rfl dJ6_getChars_ba4f3_103 (fun H locs hW => ?_)
          refine lv_iload hx hb dJ6_getChars_ba4f3_104 (lv_at hl 4 rfl) ?_
          refine lv_if_eq hx hb (x := (nI 1)) (tgt := 118) dJ6_getChars_ba4f3_106 (by decide) (fun c_106 => ?_) (fun c_106 => ?_)
          · exact absurd c_106 (by decide)
          · refine lv_aload_n hx hb dJ6_getChars_ba4f3_109 rfl (lv_at hl 3 rfl) ?_
            refine lv_iinc (v := (nI (bs + sb_dg w1 + 1 - 3))) (lv' := [(5, .int (nI (bs + sb_dg w1 + 1 - 3))), (0, .int (-nI w1)), (1, .int (nI (bs + sb_dg w + 1))), (2, .ref ov), (6, .int (nI 1))]) hx hb dJ6_getChars_ba4f3_110 hl (k := 0) rfl ((sb_m1 (by have := sb_dg_in w1; omega)).trans (congrArg nI (by omega))) (by decide) rfl (fun ls hl => ?_)
            refine lv_iload hx hb dJ6_getChars_ba4f3_113 (lv_at hl 0 rfl) ?_
            refine lv_bipush (v := nI 45) hx hb dJ6_getChars_ba4f3_115 (by decide) ?_
            refine cx_bast C hW 0 4 (j := bs + sb_dg w1 + 1 - 3) (W1 := [(ov, .inl (aT 4, cp, .inl (upd (upd (upd f1 (bs + sb_dg w1 + 1 - 1) (vp_nar .byte ((nI (48 + w1 % 10))))) (bs + sb_dg w1 + 1 - 2) (vp_nar .byte ((nI (48 + w1 / 10))))) (bs + sb_dg w1 + 1 - 3) (vp_nar .byte ((nI 45))))))]) rfl rfl rfl (by have := sb_dg_in w1; omega) (by first | decide | omega) rfl dJ6_getChars_ba4f3_117 (fun H locs hW => ?_)
            refine lv_iload hx hb dJ6_getChars_ba4f3_118 (lv_at hl 0 rfl) ?_
            exact cx_iret C hr hlocks rfl hW ⟨Nat.le_of_ble_eq_true rfl, Nat.le_of_ble_eq_true rfl⟩ (⟨_, (sb_fitU (sb_fitU (sb_fitU hft (sb_nar _)) (sb_nar _)) (sb_nar _)), rfl⟩) dJ6_getChars_ba4f3_120
      · have h25 : 100 ≤ w1 := Nat.le_of_not_lt (fun h9 => c_25 ((nz_lt (by omega) (by omega)).mpr h9))
        have hdg := nz_dg h25 (by omega)
        refine lv_iload_n hx hb dJ6_getChars_ba4f3_28 rfl (lv_at hl 0 rfl) ?_
        refine lv_bipush (v := nI 100) hx hb dJ6_getChars_ba4f3_29 (by decide) ?_
        refine lv_idiv hx hb dJ6_getChars_ba4f3_31 (by decide) ?_
        refine r_eq (y := (-nI (w1 / 100))) (nz_div (by omega)) ?_
        refine lv_istore_n (lv' := [(3, .int (-nI (w1 / 100))), (0, .int (-nI w1)), (1, .int (nI (bs + sb_dg w + 1))), (2, .ref ov), (5, .int (nI (bs + sb_dg w1 + 1))), (6, .int (nI 1))]) hx hb dJ6_getChars_ba4f3_32 rfl hl (by decide) rfl (fun ls hl => ?_)
        refine lv_iload_n hx hb dJ6_getChars_ba4f3_33 rfl (lv_at hl 0 rfl) ?_
        refine lv_bipush (v := nI 100) hx hb dJ6_getChars_ba4f3_34 (by decide) ?_
        refine lv_imul hx hb dJ6_getChars_ba4f3_36 ?_
        refine lv_iload_n hx hb dJ6_getChars_ba4f3_37 rfl (lv_at hl 1 rfl) ?_
        refine lv_isub hx hb dJ6_getChars_ba4f3_38 ?_
        refine r_eq (y := (nI (w1 % 100))) (nz_rem (by omega)) ?_
        refine lv_istore (lv' := [(4, .int (nI (w1 % 100))), (3, .int (-nI (w1 / 100))), (0, .int (-nI w1)), (1, .int (nI (bs + sb_dg w + 1))), (2, .ref ov), (5, .int (nI (bs + sb_dg w1 + 1))), (6, .int (nI 1))]) hx hb dJ6_getChars_ba4f3_39 hl (by decide) rfl (fun ls hl => ?_)
        refine lv_iload_n hx hb dJ6_getChars_ba4f3_41 rfl (lv_at hl 1 rfl) ?_
        refine lv_istore_n (lv' := [(0, .int (-nI (w1 / 100))), (4, .int (nI (w1 % 100))), (3, .int (-nI (w1 / 100))), (1, .int (nI (bs + sb_dg w + 1))), (2, .ref ov), (5, .int (nI (bs + sb_dg w1 + 1))), (6, .int (nI 1))]) hx hb dJ6_getChars_ba4f3_42 rfl hl (by decide) rfl (fun ls hl => ?_)
        refine lv_aload_n hx hb dJ6_getChars_ba4f3_43 rfl (lv_at hl 4 rfl) ?_
        refine lv_iinc (v := (nI (bs + sb_dg w1 + 1 - 1))) (lv' := [(5, .int (nI (bs + sb_dg w1 + 1 - 1))), (0, .int (-nI (w1 / 100))), (4, .int (nI (w1 % 100))), (3, .int (-nI (w1 / 100))), (1, .int (nI (bs + sb_dg w + 1))), (2, .ref ov), (6, .int (nI 1))]) hx hb dJ6_getChars_ba4f3_44 hl (k := 5) rfl (sb_m1 (by have := sb_dg_in w1; omega)) (by decide) rfl (fun ls hl => ?_)
        refine lv_iload hx hb dJ6_getChars_ba4f3_47 (lv_at hl 0 rfl) ?_
        refine va_gets hx hb hZ.2.2.2.2.2.2.2.2.2.2.2.2.2.2.1 hW.2.2 C.2.2.2.1 (C.2.2.1 _ gw_1455) (fun _ h9 => h9) dJ6_getChars_ba4f3_49 ?_
        refine lv_iload hx hb dJ6_getChars_ba4f3_52 (lv_at hl 2 rfl) ?_
        refine va_tb (v := .int (nI (48 + (w1 % 100) % 10))) hx hb (hZ.2.2.2.2.2.2.2.2.2.2.2.2.2.2.2.1) hW.2.2 (i := nI (w1 % 100)) (vp_in_nI (by omega) (by omega)) (by rw [nI_clamp (by omega)]; rfl) dJ6_getChars_ba4f3_54 ?_
        refine cx_bast C hW 0 4 (j := bs + sb_dg w1 + 1 - 1) (W1 := [(ov, .inl (aT 4, cp, .inl (upd f1 (bs + sb_dg w1 + 1 - 1) (vp_nar .byte ((nI (48 + (w1 % 100) % 10)))))))]) rfl rfl rfl (by have := sb_dg_in w1; omega) (by first | decide | omega) rfl dJ6_getChars_ba4f3_55 (fun H locs hW => ?_)
        refine lv_aload_n hx hb dJ6_getChars_ba4f3_56 rfl (lv_at hl 5 rfl) ?_
        refine lv_iinc (v := (nI (bs + sb_dg w1 + 1 - 2))) (lv' := [(5, .int (nI (bs + sb_dg w1 + 1 - 2))), (0, .int (-nI (w1 / 100))), (4, .int (nI (w1 % 100))), (3, .int (-nI (w1 / 100))), (1, .int (nI (bs + sb_dg w + 1))), (2, .ref ov), (6, .int (nI 1))]) hx hb dJ6_getChars_ba4f3_57 hl (k := 0) rfl ((sb_m1 (by have := sb_dg_in w1; omega)).trans (congrArg nI (by omega))) (by decide) rfl (fun ls hl => ?_)
        refine lv_iload hx hb dJ6_getChars_ba4f3_60 (lv_at hl 0 rfl) ?_
        refine va_gets hx hb hZ.2.2.2.2.2.2.2.2.2.2.2.2.2.2.2.2.1 hW.2.2 C.2.2.2.1 (C.2.2.1 _ gw_1457) (fun _ h9 => h9) dJ6_getChars_ba4f3_62 ?_
        refine lv_iload hx hb dJ6_getChars_ba4f3_65 (lv_at hl 2 rfl) ?_
        refine va_tb (v := .int (nI (48 + (w1 % 100) / 10))) hx hb (hZ.2.2.2.2.2.2.2.2.2.2.2.2.2.2.2.2.2.1) hW.2.2 (i := nI (w1 % 100)) (vp_in_nI (by omega) (by omega)) (by rw [nI_clamp (by omega)]; rfl) dJ6_getChars_ba4f3_67 ?_
        refine cx_bast C hW 0 4 (j := bs + sb_dg w1 + 1 - 2) (W1 := [(ov, .inl (aT 4, cp, .inl (upd (upd f1 (bs + sb_dg w1 + 1 - 1) (vp_nar .byte ((nI (48 + (w1 % 100) % 10))))) (bs + sb_dg w1 + 1 - 2) (vp_nar .byte ((nI (48 + (w1 % 100) / 10)))))))]) rfl rfl rfl (by have := sb_dg_in w1; omega) (by first | decide | omega) rfl dJ6_getChars_ba4f3_68 (fun H locs hW => ?_)
        refine lv_goto (tgt := 22) hx hb dJ6_getChars_ba4f3_69 (by decide) ?_
        have hl : lv_has ls 7 [(5, .int (nI (bs + sb_dg (w1 / 100) + 1))), (0, .int (-nI (w1 / 100))), (4, .int (nI (w1 % 100))), (3, .int (-nI (w1 / 100))), (1, .int (nI (bs + sb_dg w + 1))), (2, .ref ov), (6, .int (nI 1))] := by
          rw [show nI (bs + sb_dg (w1 / 100) + 1) = nI (bs + sb_dg w1 + 1 - 2) from congrArg nI (by omega)]
          exact hl
        exact ih_22 ((w1 / 100), (upd (upd f1 (bs + sb_dg w1 + 1 - 1) (vp_nar .byte ((nI (48 + (w1 % 100) % 10))))) (bs + sb_dg w1 + 1 - 2) (vp_nar .byte ((nI (48 + (w1 % 100) / 10)))))) _ _ _ (by first | omega | (dsimp only; omega)) ⟨_, rfl, lv_sub hl [1, 4, 5, 0, 6] rfl, hW, (by dsimp only; omega), (by dsimp only; omega), (sb_fitU (sb_fitU hft (sb_nar _)) (sb_nar _))⟩
    · exact absurd c_16 (by decide)
theorem dJ5_append_c97b9_0 : decode cJ5_append_c97b9 0 = .ok (.aload_n 0, 1) := by decide +kernel
theorem dJ5_append_c97b9_1 : decode cJ5_append_c97b9 1 = .ok (.getfield 79, 3) := by decide +kernel
theorem dJ5_append_c97b9_4 : decode cJ5_append_c97b9 4 = .ok (.istore_n 2, 1) := by decide +kernel
theorem dJ5_append_c97b9_5 : decode cJ5_append_c97b9 5 = .ok (.iload_n 2, 1) := by decide +kernel
theorem dJ5_append_c97b9_6 : decode cJ5_append_c97b9 6 = .ok (.iload_n 1, 1) := by decide +kernel
theorem dJ5_append_c97b9_7 : decode cJ5_append_c97b9 7 = .ok (.invokestatic 245, 3) := by decide +kernel
theorem dJ5_append_c97b9_10 : decode cJ5_append_c97b9 10 = .ok (.iadd, 1) := by decide +kernel
theorem dJ5_append_c97b9_11 : decode cJ5_append_c97b9 11 = .ok (.istore_n 3, 1) := by decide +kernel
theorem dJ5_append_c97b9_12 : decode cJ5_append_c97b9 12 = .ok (.aload_n 0, 1) := by decide +kernel
theorem dJ5_append_c97b9_13 : decode cJ5_append_c97b9 13 = .ok (.iload_n 3, 1) := by decide +kernel
theorem dJ5_append_c97b9_14 : decode cJ5_append_c97b9 14 = .ok (.invokevirtual 100, 3) := by decide +kernel
theorem dJ5_append_c97b9_17 : decode cJ5_append_c97b9 17 = .ok (.aload_n 0, 1) := by decide +kernel
theorem dJ5_append_c97b9_18 : decode cJ5_append_c97b9 18 = .ok (.invokevirtual 83, 3) := by decide +kernel
theorem dJ5_append_c97b9_21 : decode cJ5_append_c97b9 21 = .ok (.ifCond .eq 16, 3) := by decide +kernel
theorem dJ5_append_c97b9_24 : decode cJ5_append_c97b9 24 = .ok (.iload_n 1, 1) := by decide +kernel
theorem dJ5_append_c97b9_25 : decode cJ5_append_c97b9 25 = .ok (.iload_n 3, 1) := by decide +kernel
theorem dJ5_append_c97b9_26 : decode cJ5_append_c97b9 26 = .ok (.aload_n 0, 1) := by decide +kernel
theorem dJ5_append_c97b9_27 : decode cJ5_append_c97b9 27 = .ok (.getfield 15, 3) := by decide +kernel
theorem dJ5_append_c97b9_30 : decode cJ5_append_c97b9 30 = .ok (.invokestatic 248, 3) := by decide +kernel
theorem dJ5_append_c97b9_33 : decode cJ5_append_c97b9 33 = .ok (.pop, 1) := by decide +kernel
theorem dJ5_append_c97b9_34 : decode cJ5_append_c97b9 34 = .ok (.goto 14, 3) := by decide +kernel
theorem dJ5_append_c97b9_37 : decode cJ5_append_c97b9 37 = .ok (.iload_n 1, 1) := by decide +kernel
theorem dJ5_append_c97b9_38 : decode cJ5_append_c97b9 38 = .ok (.iload_n 2, 1) := by decide +kernel
theorem dJ5_append_c97b9_39 : decode cJ5_append_c97b9 39 = .ok (.iload_n 3, 1) := by decide +kernel
theorem dJ5_append_c97b9_40 : decode cJ5_append_c97b9 40 = .ok (.aload_n 0, 1) := by decide +kernel
theorem dJ5_append_c97b9_41 : decode cJ5_append_c97b9 41 = .ok (.getfield 15, 3) := by decide +kernel
theorem dJ5_append_c97b9_44 : decode cJ5_append_c97b9 44 = .ok (.invokestatic 251, 3) := by decide +kernel
theorem dJ5_append_c97b9_47 : decode cJ5_append_c97b9 47 = .ok (.pop, 1) := by decide +kernel
theorem dJ5_append_c97b9_48 : decode cJ5_append_c97b9 48 = .ok (.aload_n 0, 1) := by decide +kernel
theorem dJ5_append_c97b9_49 : decode cJ5_append_c97b9 49 = .ok (.iload_n 3, 1) := by decide +kernel
theorem dJ5_append_c97b9_50 : decode cJ5_append_c97b9 50 = .ok (.putfield 79, 3) := by decide +kernel
theorem dJ5_append_c97b9_53 : decode cJ5_append_c97b9 53 = .ok (.aload_n 0, 1) := by decide +kernel
theorem dJ5_append_c97b9_54 : decode cJ5_append_c97b9 54 = .ok (.areturn, 1) := by decide +kernel
theorem gS_J5_J6_stringSize_0f7a4_245 : GoodIn gw (va_wsS RJ5 245 yJ6_stringSize_0f7a4 (Cond.code yJ6_stringSize_0f7a4 cJ6_stringSize_0f7a4 4 (some .int) :: gw)) := gdS2 gw_1449 gw_1450 gw_103 gw_1451
theorem hS_J6_stringSize_0f7a4 : yJ6_stringSize_0f7a4.cls ≠ "java/lang/invoke/MethodHandle" ∧ yJ6_stringSize_0f7a4.cls ≠ "java/lang/invoke/VarHandle" ∧ (parseMethodDescriptor yJ6_stringSize_0f7a4.desc).map (fun d => d.parameters.length) = some 1 := ⟨by decide +kernel, by decide +kernel, by decide +kernel⟩
theorem gS_J5_J6_getChars_ba4f3_248 : GoodIn gw (va_wsS RJ5 248 yJ6_getChars_ba4f3 (Cond.code yJ6_getChars_ba4f3 cJ6_getChars_ba4f3 7 (some .int) :: gw)) := gdS2 gw_1452 gw_1453 gw_103 gw_1454
theorem hS_J6_getChars_ba4f3 : yJ6_getChars_ba4f3.cls ≠ "java/lang/invoke/MethodHandle" ∧ yJ6_getChars_ba4f3.cls ≠ "java/lang/invoke/VarHandle" ∧ (parseMethodDescriptor yJ6_getChars_ba4f3.desc).map (fun d => d.parameters.length) = some 3 := ⟨by decide +kernel, by decide +kernel, by decide +kernel⟩
set_option maxHeartbeats 2000000 in
set_option maxRecDepth 20000 in
theorem k_appendI5_0 (l : Launch) (hfl : l.stackTraces = false) (D : va_G) (aT : Nat → ClassId) (o0 : Nat) (ov : Nat) (cn : Nat) (cp : Nat) (fO : Nat → Int32) (mb : Int32) (hfit : sb_Fit fO) (hcn : cn ≤ cp) (hcp : cp ≤ 4000) (w : Nat) (hw : w < 2147483648) (hq1 : cn + sb_dg w ≤ 1900) : CxG l yJ5_append_c97b9 cJ5_append_c97b9 4 (some ((.object "java/lang/AbstractStringBuilder"))) 4 1 (gsl cp (cn + sb_dg w)) 110 D aT [.ref o0, .int (nI w)] [(o0, .inr (1, [.ref ov, .int (nI 0), .int mb, .int (nI cn)])), (ov, .inl (aT 4, cp, .inl fO))] (qR D aT (fun r W1 => ∃ (ov2 : Nat) (f2 : Nat → Int32), r = some o0 ∧ sb_Fit f2 ∧ W1 = ([(o0, .inr (1, [.ref ov2, .int (nI 0), .int mb, .int (nI (cn + sb_dg w))])), (ov2, .inl (aT 4, (gcp cp (cn + sb_dg w)), .inl f2))] : va_W))) (fun _ _ => False) := by
  have hg := gcp_f cp (cn + sb_dg w)
  refine CxG.of RJ5 (by decide +kernel) rfl (Nat.le_of_ble_eq_true rfl) ?_
  intro p e s m below meth c A ls C hml hl hA hr hlocks hex hnm hZ hW
  have hl : lv_has ls 4 [(0, .ref o0), (1, .int (nI w))] := hl
  have hx := C.1
  have hb := C.2.1
  refine lv_aload_n hx hb dJ5_append_c97b9_0 rfl (lv_at hl 0 rfl) ?_
  refine cx_get C hW 0 3 rfl rfl (by decide) inJ4 gw_335 rfl rfl dJ5_append_c97b9_1 ?_
  refine lv_istore_n (lv' := [(2, .int (nI cn)), (0, .ref o0), (1, .int (nI w))]) hx hb dJ5_append_c97b9_4 rfl hl (by decide) rfl (fun ls hl => ?_)
  refine lv_iload_n hx hb dJ5_append_c97b9_5 rfl (lv_at hl 0 rfl) ?_
  refine lv_iload_n hx hb dJ5_append_c97b9_6 rfl (lv_at hl 2 rfl) ?_
  refine cx_calli (Wr := [(o0, .inr (1, [.ref ov, .int (nI 0), .int mb, .int (nI cn)])), (ov, .inl (aT 4, cp, .inl fO))]) (cx_runS C hml hl.1 hZ hW hA (As := [.int (nI w)]) (rest := [.int (nI cn)]) (k_stringSize_0 l hfl D aT w hw) gS_J5_J6_stringSize_0f7a4_245 hS_J6_stringSize_0f7a4 rfl ⟨Nat.le_of_ble_eq_true rfl, Nat.le_of_ble_eq_true rfl⟩ ⟨Nat.le_of_ble_eq_true rfl, Nat.le_of_ble_eq_true rfl⟩ [] rfl (by decide) rfl (Nat.le_of_ble_eq_true rfl) dJ5_append_c97b9_7) hW hA [] [0, 1] rfl rfl (by decide) (by decide) (fun _ _ _ _ _ _ h9 => h9.elim) (fun r_7 W_7 H locs hq hW => ?_)
  obtain ⟨rfl, rfl⟩ := hq
  refine r_iaddN hx hb (a := cn) (b := sb_dg w) dJ5_append_c97b9_10 ?_
  refine r_eq (y := (nI (cn + sb_dg w))) (congrArg nI (by omega)) ?_
  refine lv_istore_n (lv' := [(3, .int (nI (cn + sb_dg w))), (2, .int (nI cn)), (0, .ref o0), (1, .int (nI w))]) hx hb dJ5_append_c97b9_11 rfl hl (by decide) rfl (fun ls hl => ?_)
  refine lv_aload_n hx hb dJ5_append_c97b9_12 rfl (lv_at hl 2 rfl) ?_
  refine lv_iload_n hx hb dJ5_append_c97b9_13 rfl (lv_at hl 0 rfl) ?_
  refine cx_callv (Wr := []) (cx_runUP C hml hl.1 hZ hW hA (As := [.int (nI (cn + sb_dg w))]) (rest := []) (k_J5_ensureCapacityInternal_d00df l hfl D aT o0 ov cn cp fO mb hfit hcn hcp (cn + sb_dg w) (by omega)) gw_1367 gw_2104 gw_1369 gw_77 gw_1370 (C.2.2.1 _ gw_sb1) hU_J5_ensureCapacityInternal_d00df rfl ⟨Nat.le_of_ble_eq_true rfl, Nat.le_of_ble_eq_true rfl⟩ ⟨by first | omega | (dsimp only [cxR]; omega), by first | omega | (dsimp only [cxR]; omega)⟩ [0, 1] rfl (by decide) 0 1 rfl rfl rfl rfl (Nat.le_of_ble_eq_true rfl) dJ5_append_c97b9_14) hW hA [0, 1] [] rfl rfl (by decide) (by decide) (fun _ _ _ _ _ _ h9 => h9.elim) (fun W_14 H locs hq hW => ?_)
  obtain ⟨ov_14, f_14, hf_14, rfl⟩ := hq
  refine lv_aload_n hx hb dJ5_append_c97b9_17 rfl (lv_at hl 2 rfl) ?_
  refine cx_calli (Wr := []) (cx_runUP C hml hl.1 hZ hW hA (As := []) (rest := []) (k_J5_isLatin1_aae02 l hfl D aT o0 ov_14 cn (gcp cp (cn + sb_dg w)) f_14 mb hf_14 (by omega) (by omega)) gw_1387 gw_1389 gw_1388 gw_77 gw_1391 (C.2.2.1 _ gw_1390) hU_J5_isLatin1_aae02 rfl ⟨Nat.le_of_ble_eq_true rfl, Nat.le_of_ble_eq_true rfl⟩ ⟨by first | omega | (dsimp only [cxR]; omega), by first | omega | (dsimp only [cxR]; omega)⟩ [0, 1] rfl (by decide) 0 1 rfl rfl rfl rfl (Nat.le_of_ble_eq_true rfl) dJ5_append_c97b9_18) hW hA [0, 1] [] rfl rfl (by decide) (by decide) (fun _ _ _ _ _ _ h9 => h9.elim) (fun r_18 W_18 H locs hq hW => ?_)
  obtain ⟨rfl, rfl⟩ := hq
  refine lv_if_eq hx hb (x := (nI 1)) (tgt := 37) dJ5_append_c97b9_21 (by decide) (fun c_21 => ?_) (fun c_21 => ?_)
  · exact absurd c_21 (by decide)
  · refine lv_iload_n hx hb dJ5_append_c97b9_24 rfl (lv_at hl 3 rfl) ?_
    refine lv_iload_n hx hb dJ5_append_c97b9_25 rfl (lv_at hl 0 rfl) ?_
    refine lv_aload_n hx hb dJ5_append_c97b9_26 rfl (lv_at hl 2 rfl) ?_
    refine cx_get C hW 0 0 rfl rfl (by decide) inJ4 gw_331 rfl rfl dJ5_append_c97b9_27 ?_
    refine cx_calli (Wr := [(o0, .inr (1, [.ref ov_14, .int (nI 0), .int mb, .int (nI cn)]))]) (cx_runS C hml hl.1 hZ hW hA (As := [.int (nI w), .int (nI (cn + sb_dg w)), .ref ov_14]) (rest := []) (k_getChars_0 l hfl D aT ov_14 (gcp cp (cn + sb_dg w)) cn w f_14 hf_14 hw (⟨by omega, by omega⟩)) gS_J5_J6_getChars_ba4f3_248 hS_J6_getChars_ba4f3 rfl ⟨Nat.le_of_ble_eq_true rfl, Nat.le_of_ble_eq_true rfl⟩ ⟨by first | omega | (dsimp only [cxR]; omega), by first | omega | (dsimp only [cxR]; omega)⟩ [1] rfl (by decide) rfl (Nat.le_of_ble_eq_true rfl) dJ5_append_c97b9_30) hW hA [1] [0] rfl rfl (by decide) (by decide) (fun _ _ _ _ _ _ h9 => h9.elim) (fun r_30 W_30 H locs hq hW => ?_)
    obtain ⟨f_30, hf_30, rfl⟩ := hq
    refine lv_pop hx hb dJ5_append_c97b9_33 rfl ?_
    refine lv_goto (tgt := 48) hx hb dJ5_append_c97b9_34 (by decide) ?_
    refine lv_aload_n hx hb dJ5_append_c97b9_48 rfl (lv_at hl 2 rfl) ?_
    refine lv_iload_n hx hb dJ5_append_c97b9_49 rfl (lv_at hl 0 rfl) ?_
    refine cx_put C hW 0 3 (W1 := [(o0, .inr (1, [.ref ov_14, .int (nI 0), .int mb, .int (nI (cn + sb_dg w))])), (ov_14, .inl (aT 4, (gcp cp (cn + sb_dg w)), .inl f_30))]) rfl rfl (by decide) inJ4 tyJ4 tyJ4_ok nmJ4 gw_335 rfl rfl rfl rfl rfl (Nat.le_of_ble_eq_true rfl) rfl dJ5_append_c97b9_50 (fun H locs hW => ?_)
    refine lv_aload_n hx hb dJ5_append_c97b9_53 rfl (lv_at hl 2 rfl) ?_
    exact cx_aret C hr (Or.inl ⟨_, rfl⟩) hlocks (some o0) hW ⟨by first | omega | (dsimp only [cxR]; omega), by first | omega | (dsimp only [cxR]; omega)⟩ (⟨_, _, rfl, hf_30, rfl⟩) dJ5_append_c97b9_54
theorem dJ4_append_bf812_0 : decode cJ4_append_bf812 0 = .ok (.aload_n 0, 1) := by decide +kernel
theorem dJ4_append_bf812_1 : decode cJ4_append_bf812 1 = .ok (.iload_n 1, 1) := by decide +kernel
theorem dJ4_append_bf812_2 : decode cJ4_append_bf812 2 = .ok (.invokespecial 53, 3) := by decide +kernel
theorem dJ4_append_bf812_5 : decode cJ4_append_bf812 5 = .ok (.pop, 1) := by decide +kernel
theorem dJ4_append_bf812_6 : decode cJ4_append_bf812 6 = .ok (.aload_n 0, 1) := by decide +kernel
theorem dJ4_append_bf812_7 : decode cJ4_append_bf812 7 = .ok (.areturn, 1) := by decide +kernel
theorem gSU_J5_append_c97b9 : GoodIn gw (va_wsSU RJ4 53 yJ5_append_c97b9 (Cond.code yJ5_append_c97b9 cJ5_append_c97b9 4 (some (.object "java/lang/AbstractStringBuilder")) :: gw)) := gdSU gw_1446 gw_2109 gw_344 gw_1447 gw_77 gw_1448
theorem hSU_J5_append_c97b9 : yJ5_append_c97b9.name ≠ "<init>" ∧ (parseMethodDescriptor yJ5_append_c97b9.desc).map (fun d => d.parameters.length) = some 1 := ⟨by decide +kernel, by decide +kernel⟩
set_option maxHeartbeats 2000000 in
set_option maxRecDepth 20000 in
theorem k_appendI4_0 (l : Launch) (hfl : l.stackTraces = false) (D : va_G) (aT : Nat → ClassId) (o0 : Nat) (ov : Nat) (cn : Nat) (cp : Nat) (fO : Nat → Int32) (mb : Int32) (hfit : sb_Fit fO) (hcn : cn ≤ cp) (hcp : cp ≤ 4000) (w : Nat) (hw : w < 2147483648) (hq1 : cn + sb_dg w ≤ 1900) : CxG l yJ4_append_bf812 cJ4_append_bf812 2 (some ((.object "java/lang/StringBuilder"))) 5 1 (gsl cp (cn + sb_dg w)) 133 D aT [.ref o0, .int (nI w)] [(o0, .inr (1, [.ref ov, .int (nI 0), .int mb, .int (nI cn)])), (ov, .inl (aT 4, cp, .inl fO))] (qR D aT (fun r W1 => ∃ (ov2 : Nat) (f2 : Nat → Int32), r = some o0 ∧ sb_Fit f2 ∧ W1 = ([(o0, .inr (1, [.ref ov2, .int (nI 0), .int mb, .int (nI (cn + sb_dg w))])), (ov2, .inl (aT 4, (gcp cp (cn + sb_dg w)), .inl f2))] : va_W))) (fun _ _ => False) := by
  refine CxG.of RJ4 (by decide +kernel) rfl (Nat.le_of_ble_eq_true rfl) ?_
  intro p e s m below meth c A ls C hml hl hA hr hlocks hex hnm hZ hW
  have hl : lv_has ls 2 [(0, .ref o0), (1, .int (nI w))] := hl
  have hx := C.1
  have hb := C.2.1
  refine lv_aload_n hx hb dJ4_append_bf812_0 rfl (lv_at hl 0 rfl) ?_
  refine lv_iload_n hx hb dJ4_append_bf812_1 rfl (lv_at hl 1 rfl) ?_
  refine cx_callr (Wr := []) (cx_runSU C hml hl.1 hZ hW hA (As := [.int (nI w)]) (rest := []) (k_appendI5_0 l hfl D aT o0 ov cn cp fO mb hfit hcn hcp w hw hq1) gSU_J5_append_c97b9 hSU_J5_append_c97b9 rfl ⟨Nat.le_of_ble_eq_true rfl, Nat.le_of_ble_eq_true rfl⟩ ⟨by first | omega | (dsimp only [cxR]; omega), by first | omega | (dsimp only [cxR]; omega)⟩ [0, 1] rfl (by decide) 0 1 rfl rfl rfl (Nat.le_of_ble_eq_true rfl) dJ4_append_bf812_2) hW hA [0, 1] [] rfl rfl (by decide) (by decide) (fun _ _ _ _ _ _ h9 => h9.elim) (fun r_2 W_2 H locs hq hW => ?_)
  obtain ⟨ov_2, f_2, rfl, hf_2, rfl⟩ := hq
  refine lv_pop hx hb dJ4_append_bf812_5 rfl ?_
  refine lv_aload_n hx hb dJ4_append_bf812_6 rfl (lv_at hl 0 rfl) ?_
  exact cx_aret C hr (Or.inl ⟨_, rfl⟩) hlocks (some o0) hW ⟨by first | omega | (dsimp only [cxR]; omega), by first | omega | (dsimp only [cxR]; omega)⟩ (⟨_, _, rfl, hf_2, rfl⟩) dJ4_append_bf812_7
set_option maxHeartbeats 2000000 in
set_option maxRecDepth 20000 in
theorem k_appendI5_1 (l : Launch) (hfl : l.stackTraces = false) (D : va_G) (aT : Nat → ClassId) (o0 : Nat) (ov : Nat) (cn : Nat) (cp : Nat) (fO : Nat → Int32) (mb : Int32) (hfit : sb_Fit fO) (hcn : cn ≤ cp) (hcp : cp ≤ 4000) (w : Nat) (hw : 0 < w ∧ w ≤ 2147483648) (hq1 : cn + sb_dg w + 1 ≤ 1900) : CxG l yJ5_append_c97b9 cJ5_append_c97b9 4 (some ((.object "java/lang/AbstractStringBuilder"))) 4 1 (gsl cp (cn + sb_dg w + 1)) 110 D aT [.ref o0, .int (-nI w)] [(o0, .inr (1, [.ref ov, .int (nI 0), .int mb, .int (nI cn)])), (ov, .inl (aT 4, cp, .inl fO))] (qR D aT (fun r W1 => ∃ (ov2 : Nat) (f2 : Nat → Int32), r = some o0 ∧ sb_Fit f2 ∧ W1 = ([(o0, .inr (1, [.ref ov2, .int (nI 0), .int mb, .int (nI (cn + sb_dg w + 1))])), (ov2, .inl (aT 4, (gcp cp (cn + sb_dg w + 1)), .inl f2))] : va_W))) (fun _ _ => False) := by
  have hg := gcp_f cp (cn + sb_dg w + 1)
  refine CxG.of RJ5 (by decide +kernel) rfl (Nat.le_of_ble_eq_true rfl) ?_
  intro p e s m below meth c A ls C hml hl hA hr hlocks hex hnm hZ hW
  have hl : lv_has ls 4 [(0, .ref o0), (1, .int (-nI w))] := hl
  have hx := C.1
  have hb := C.2.1
  refine lv_aload_n hx hb dJ5_append_c97b9_0 rfl (lv_at hl 0 rfl) ?_
  refine cx_get C hW 0 3 rfl rfl (by decide) inJ4 gw_335 rfl rfl dJ5_append_c97b9_1 ?_
  refine lv_istore_n (lv' := [(2, .int (nI cn)), (0, .ref o0), (1, .int (-nI w))]) hx hb dJ5_append_c97b9_4 rfl hl (by decide) rfl (fun ls hl => ?_)
  refine lv_iload_n hx hb dJ5_append_c97b9_5 rfl (lv_at hl 0 rfl) ?_
  refine lv_iload_n hx hb dJ5_append_c97b9_6 rfl (lv_at hl 2 rfl) ?_
  refine cx_calli (Wr := [(o0, .inr (1, [.ref ov, .int (nI 0), .int mb, .int (nI cn)])), (ov, .inl (aT 4, cp, .inl fO))]) (cx_runS C hml hl.1 hZ hW hA (As := [.int (-nI w)]) (rest := [.int (nI cn)]) (k_stringSize_1 l hfl D aT w hw) gS_J5_J6_stringSize_0f7a4_245 hS_J6_stringSize_0f7a4 rfl ⟨Nat.le_of_ble_eq_true rfl, Nat.le_of_ble_eq_true rfl⟩ ⟨Nat.le_of_ble_eq_true rfl, Nat.le_of_ble_eq_true rfl⟩ [] rfl (by decide) rfl (Nat.le_of_ble_eq_true rfl) dJ5_append_c97b9_7) hW hA [] [0, 1] rfl rfl (by decide) (by decide) (fun _ _ _ _ _ _ h9 => h9.elim) (fun r_7 W_7 H locs hq hW => ?_)
  obtain ⟨rfl, rfl⟩ := hq
  refine r_iaddN hx hb (a := cn) (b := sb_dg w + 1) dJ5_append_c97b9_10 ?_
  refine r_eq (y := (nI (cn + sb_dg w + 1))) (congrArg nI (by omega)) ?_
  refine lv_istore_n (lv' := [(3, .int (nI (cn + sb_dg w + 1))), (2, .int (nI cn)), (0, .ref o0), (1, .int (-nI w))]) hx hb dJ5_append_c97b9_11 rfl hl (by decide) rfl (fun ls hl => ?_)
  refine lv_aload_n hx hb dJ5_append_c97b9_12 rfl (lv_at hl 2 rfl) ?_
  refine lv_iload_n hx hb dJ5_append_c97b9_13 rfl (lv_at hl 0 rfl) ?_
  refine cx_callv (Wr := []) (cx_runUP C hml hl.1 hZ hW hA (As := [.int (nI (cn + sb_dg w + 1))]) (rest := []) (k_J5_ensureCapacityInternal_d00df l hfl D aT o0 ov cn cp fO mb hfit hcn hcp (cn + sb_dg w + 1) (by omega)) gw_1367 gw_2104 gw_1369 gw_77 gw_1370 (C.2.2.1 _ gw_sb1) hU_J5_ensureCapacityInternal_d00df rfl ⟨Nat.le_of_ble_eq_true rfl, Nat.le_of_ble_eq_true rfl⟩ ⟨by first | omega | (dsimp only [cxR]; omega), by first | omega | (dsimp only [cxR]; omega)⟩ [0, 1] rfl (by decide) 0 1 rfl rfl rfl rfl (Nat.le_of_ble_eq_true rfl) dJ5_append_c97b9_14) hW hA [0, 1] [] rfl rfl (by decide) (by decide) (fun _ _ _ _ _ _ h9 => h9.elim) (fun W_14 H locs hq hW => ?_)
  obtain ⟨ov_14, f_14, hf_14, rfl⟩ := hq
  refine lv_aload_n hx hb dJ5_append_c97b9_17 rfl (lv_at hl 2 rfl) ?_
  refine cx_calli (Wr := []) (cx_runUP C hml hl.1 hZ hW hA (As := []) (rest := []) (k_J5_isLatin1_aae02 l hfl D aT o0 ov_14 cn (gcp cp (cn + sb_dg w + 1)) f_14 mb hf_14 (by omega) (by omega)) gw_1387 gw_1389 gw_1388 gw_77 gw_1391 (C.2.2.1 _ gw_1390) hU_J5_isLatin1_aae02 rfl ⟨Nat.le_of_ble_eq_true rfl, Nat.le_of_ble_eq_true rfl⟩ ⟨by first | omega | (dsimp only [cxR]; omega), by first | omega | (dsimp only [cxR]; omega)⟩ [0, 1] rfl (by decide) 0 1 rfl rfl rfl rfl (Nat.le_of_ble_eq_true rfl) dJ5_append_c97b9_18) hW hA [0, 1] [] rfl rfl (by decide) (by decide) (fun _ _ _ _ _ _ h9 => h9.elim) (fun r_18 W_18 H locs hq hW => ?_)
  obtain ⟨rfl, rfl⟩ := hq
  refine lv_if_eq hx hb (x := (nI 1)) (tgt := 37) dJ5_append_c97b9_21 (by decide) (fun c_21 => ?_) (fun c_21 => ?_)
  · exact absurd c_21 (by decide)
  · refine lv_iload_n hx hb dJ5_append_c97b9_24 rfl (lv_at hl 3 rfl) ?_
    refine lv_iload_n hx hb dJ5_append_c97b9_25 rfl (lv_at hl 0 rfl) ?_
    refine lv_aload_n hx hb dJ5_append_c97b9_26 rfl (lv_at hl 2 rfl) ?_
    refine cx_get C hW 0 0 rfl rfl (by decide) inJ4 gw_331 rfl rfl dJ5_append_c97b9_27 ?_
    refine cx_calli (Wr := [(o0, .inr (1, [.ref ov_14, .int (nI 0), .int mb, .int (nI cn)]))]) (cx_runS C hml hl.1 hZ hW hA (As := [.int (-nI w), .int (nI (cn + sb_dg w + 1)), .ref ov_14]) (rest := []) (k_getChars_1 l hfl D aT ov_14 (gcp cp (cn + sb_dg w + 1)) cn w f_14 hf_14 hw (⟨by omega, by omega⟩)) gS_J5_J6_getChars_ba4f3_248 hS_J6_getChars_ba4f3 rfl ⟨Nat.le_of_ble_eq_true rfl, Nat.le_of_ble_eq_true rfl⟩ ⟨by first | omega | (dsimp only [cxR]; omega), by first | omega | (dsimp only [cxR]; omega)⟩ [1] rfl (by decide) rfl (Nat.le_of_ble_eq_true rfl) dJ5_append_c97b9_30) hW hA [1] [0] rfl rfl (by decide) (by decide) (fun _ _ _ _ _ _ h9 => h9.elim) (fun r_30 W_30 H locs hq hW => ?_)
    obtain ⟨f_30, hf_30, rfl⟩ := hq
    refine lv_pop hx hb dJ5_append_c97b9_33 rfl ?_
    refine lv_goto (tgt := 48) hx hb dJ5_append_c97b9_34 (by decide) ?_
    refine lv_aload_n hx hb dJ5_append_c97b9_48 rfl (lv_at hl 2 rfl) ?_
    refine lv_iload_n hx hb dJ5_append_c97b9_49 rfl (lv_at hl 0 rfl) ?_
    refine cx_put C hW 0 3 (W1 := [(o0, .inr (1, [.ref ov_14, .int (nI 0), .int mb, .int (nI (cn + sb_dg w + 1))])), (ov_14, .inl (aT 4, (gcp cp (cn + sb_dg w + 1)), .inl f_30))]) rfl rfl (by decide) inJ4 tyJ4 tyJ4_ok nmJ4 gw_335 rfl rfl rfl rfl rfl (Nat.le_of_ble_eq_true rfl) rfl dJ5_append_c97b9_50 (fun H locs hW => ?_)
    refine lv_aload_n hx hb dJ5_append_c97b9_53 rfl (lv_at hl 2 rfl) ?_
    exact cx_aret C hr (Or.inl ⟨_, rfl⟩) hlocks (some o0) hW ⟨by first | omega | (dsimp only [cxR]; omega), by first | omega | (dsimp only [cxR]; omega)⟩ (⟨_, _, rfl, hf_30, rfl⟩) dJ5_append_c97b9_54
set_option maxHeartbeats 2000000 in
set_option maxRecDepth 20000 in
theorem k_appendI4_1 (l : Launch) (hfl : l.stackTraces = false) (D : va_G) (aT : Nat → ClassId) (o0 : Nat) (ov : Nat) (cn : Nat) (cp : Nat) (fO : Nat → Int32) (mb : Int32) (hfit : sb_Fit fO) (hcn : cn ≤ cp) (hcp : cp ≤ 4000) (w : Nat) (hw : 0 < w ∧ w ≤ 2147483648) (hq1 : cn + sb_dg w + 1 ≤ 1900) : CxG l yJ4_append_bf812 cJ4_append_bf812 2 (some ((.object "java/lang/StringBuilder"))) 5 1 (gsl cp (cn + sb_dg w + 1)) 133 D aT [.ref o0, .int (-nI w)] [(o0, .inr (1, [.ref ov, .int (nI 0), .int mb, .int (nI cn)])), (ov, .inl (aT 4, cp, .inl fO))] (qR D aT (fun r W1 => ∃ (ov2 : Nat) (f2 : Nat → Int32), r = some o0 ∧ sb_Fit f2 ∧ W1 = ([(o0, .inr (1, [.ref ov2, .int (nI 0), .int mb, .int (nI (cn + sb_dg w + 1))])), (ov2, .inl (aT 4, (gcp cp (cn + sb_dg w + 1)), .inl f2))] : va_W))) (fun _ _ => False) := by
  refine CxG.of RJ4 (by decide +kernel) rfl (Nat.le_of_ble_eq_true rfl) ?_
  intro p e s m below meth c A ls C hml hl hA hr hlocks hex hnm hZ hW
  have hl : lv_has ls 2 [(0, .ref o0), (1, .int (-nI w))] := hl
  have hx := C.1
  have hb := C.2.1
  refine lv_aload_n hx hb dJ4_append_bf812_0 rfl (lv_at hl 0 rfl) ?_
  refine lv_iload_n hx hb dJ4_append_bf812_1 rfl (lv_at hl 1 rfl) ?_
  refine cx_callr (Wr := []) (cx_runSU C hml hl.1 hZ hW hA (As := [.int (-nI w)]) (rest := []) (k_appendI5_1 l hfl D aT o0 ov cn cp fO mb hfit hcn hcp w hw hq1) gSU_J5_append_c97b9 hSU_J5_append_c97b9 rfl ⟨Nat.le_of_ble_eq_true rfl, Nat.le_of_ble_eq_true rfl⟩ ⟨by first | omega | (dsimp only [cxR]; omega), by first | omega | (dsimp only [cxR]; omega)⟩ [0, 1] rfl (by decide) 0 1 rfl rfl rfl (Nat.le_of_ble_eq_true rfl) dJ4_append_bf812_2) hW hA [0, 1] [] rfl rfl (by decide) (by decide) (fun _ _ _ _ _ _ h9 => h9.elim) (fun r_2 W_2 H locs hq hW => ?_)
  obtain ⟨ov_2, f_2, rfl, hf_2, rfl⟩ := hq
  refine lv_pop hx hb dJ4_append_bf812_5 rfl ?_
  refine lv_aload_n hx hb dJ4_append_bf812_6 rfl (lv_at hl 0 rfl) ?_
  exact cx_aret C hr (Or.inl ⟨_, rfl⟩) hlocks (some o0) hW ⟨by first | omega | (dsimp only [cxR]; omega), by first | omega | (dsimp only [cxR]; omega)⟩ (⟨_, _, rfl, hf_2, rfl⟩) dJ4_append_bf812_7
end
section
/-! how many motions stand in a branch -/
def sN (f : Nat → Nat) : Nat → Nat
  | 0 => 0
  | n + 1 => sN f n + f n
theorem sN_le {f g : Nat → Nat} : ∀ n, (∀ k, k < n → f k ≤ g k) → sN f n ≤ sN g n
  | 0, _ => Nat.le_refl _
  | n + 1, h => Nat.add_le_add (sN_le n (fun k hk => h k (by omega))) (h n (by omega))
theorem sN_eq {f g : Nat → Nat} : ∀ n, (∀ k, k < n → f k = g k) → sN f n = sN g n
  | 0, _ => rfl
  | n + 1, h => by rw [sN, sN, sN_eq n (fun k hk => h k (by omega)), h n (by omega)]
theorem sN_0 {f : Nat → Nat} : ∀ n, (∀ k, k < n → f k = 0) → sN f n = 0
  | 0, _ => rfl
  | n + 1, h => by rw [sN, sN_0 n (fun k hk => h k (by omega)), h n (by omega)]
theorem sN_add {f g : Nat → Nat} : ∀ n, sN (fun k => f k + g k) n = sN f n + sN g n
  | 0 => rfl
  | n + 1 => by rw [sN, sN, sN, sN_add n]; omega
theorem sN_one {x i : Nat} : ∀ n, sN (fun k => if k = i then x else 0) n = if i < n then x else 0
  | 0 => rfl
  | n + 1 => by
    rw [sN, sN_one n]
    by_cases h : n = i
    · subst h; rw [if_neg (by omega), if_pos rfl, if_pos (by omega)]; omega
    · rw [if_neg h]
      by_cases h2 : i < n
      · rw [if_pos h2, if_pos (by omega)]; rfl
      · rw [if_neg h2, if_neg (by omega)]
theorem sN_1 : ∀ n, sN (fun _ => 1) n = n
  | 0 => rfl
  | n + 1 => by rw [sN, sN_1 n]
theorem sN_swap {f : Nat → Nat → Nat} {m : Nat} : ∀ n, sN (fun k => sN (fun j => f j k) m) n = sN (fun j => sN (fun k => f j k) n) m
  | 0 => (sN_0 m (fun _ _ => rfl)).symm
  | n + 1 => by
    rw [sN, sN_swap n, ← sN_add]
    rfl
theorem sN_mono {f : Nat → Nat} {a b : Nat} (h : a ≤ b) : sN f a ≤ sN f b := by
  induction b with
  | zero => rw [show a = 0 by omega]; exact Nat.le_refl _
  | succ b ih =>
    by_cases e : a = b + 1
    · subst e; exact Nat.le_refl _
    · exact Nat.le_trans (ih (by omega)) (Nat.le_add_right _ _)
def ancN (pr : Nat → Option Nat) (i : Nat) : Nat → Nat → Nat
  | 0, k => if k = i then 1 else 0
  | f + 1, k => if k = i then 1 else match pr k with
    | none => 0
    | some q => ancN pr i f q
section ANC
variable {pr : Nat → Option Nat} {nm : Nat}
theorem anc_fu (hp : ∀ k q, k < nm → pr k = some q → q < k) (i : Nat) : ∀ f k, k ≤ f → k < nm → ancN pr i f k = ancN pr i (f + 1) k := by
  intro f
  induction f with
  | zero =>
    intro k hk hn
    obtain rfl : k = 0 := by omega
    rw [ancN, ancN]
    by_cases h : 0 = i
    · rw [if_pos h, if_pos h]
    · rw [if_neg h, if_neg h]
      cases e : pr 0 with
      | none => rfl
      | some q => exact absurd (hp 0 q hn e) (by omega)
  | succ f ih =>
    intro k hk hn
    rw [ancN, ancN]
    by_cases h : k = i
    · rw [if_pos h, if_pos h]
    · rw [if_neg h, if_neg h]
      cases e : pr k with
      | none => rfl
      | some q =>
        have := hp k q hn e
        exact ih q (by omega) (by omega)
/-- 1 where i stands on the way from k to the root -/
def anN (pr : Nat → Option Nat) (nm i k : Nat) : Nat := ancN pr i nm k
theorem an_i {i : Nat} : anN pr nm i i = 1 := by
  unfold anN
  cases nm <;> simp [ancN]
theorem an_n {i k : Nat} (hn : k < nm) (h : k ≠ i) (e : pr k = none) : anN pr nm i k = 0 := by
  unfold anN
  obtain ⟨f, rfl⟩ : ∃ f, nm = f + 1 := ⟨nm - 1, by omega⟩
  rw [ancN, if_neg h, e]
theorem an_s (hp : ∀ k q, k < nm → pr k = some q → q < k) {i k q : Nat} (hn : k < nm) (h : k ≠ i) (e : pr k = some q) : anN pr nm i k = anN pr nm i q := by
  unfold anN
  obtain ⟨f, rfl⟩ : ∃ f, nm = f + 1 := ⟨nm - 1, by omega⟩
  have hq := hp k q hn e
  rw [ancN, if_neg h, e]
  exact anc_fu hp i f q (by omega) (by omega)
theorem an_gt (hp : ∀ k q, k < nm → pr k = some q → q < k) {i : Nat} : ∀ k, k < nm → k < i → anN pr nm i k = 0 := by
  intro k
  induction k using Nat.strongRecOn with
  | ind k ih =>
    intro hn hi
    cases e : pr k with
    | none => exact an_n hn (by omega) e
    | some q =>
      have hq := hp k q hn e
      rw [an_s hp hn (by omega) e]
      exact ih q hq (by omega) (by omega)
theorem an_1 (hp : ∀ k q, k < nm → pr k = some q → q < k) {i : Nat} : ∀ k, k < nm → anN pr nm i k ≤ 1 := by
  intro k
  induction k using Nat.strongRecOn with
  | ind k ih =>
    intro hn
    by_cases h : k = i
    · subst h; rw [an_i]; exact Nat.le_refl _
    · cases e : pr k with
      | none => rw [an_n hn h e]; omega
      | some q =>
        have hq := hp k q hn e
        rw [an_s hp hn h e]
        exact ih q hq (by omega)
theorem an_k (hp : ∀ k q, k < nm → pr k = some q → q < k) {i : Nat} : ∀ k, k < nm → (if k = i then 1 else 0) + sN (fun j => if pr j = some i then anN pr nm j k else 0) nm ≤ anN pr nm i k := by
  intro k
  induction k using Nat.strongRecOn with
  | ind k ih =>
    intro hn
    by_cases h : k = i
    · subst h
      have h0 : sN (fun j => if pr j = some k then anN pr nm j k else 0) nm = 0 := sN_0 nm (fun j hj => by
        by_cases e : pr j = some k
        · rw [if_pos e]; exact an_gt hp k hn (hp j k hj e)
        · rw [if_neg e])
      rw [if_pos rfl, an_i, h0]
      exact Nat.le_refl _
    · rw [if_neg h]
      cases e : pr k with
      | none =>
        have h0 : sN (fun j => if pr j = some i then anN pr nm j k else 0) nm = 0 := sN_0 nm (fun j hj => by
          by_cases ej : pr j = some i
          · rw [if_pos ej]; exact an_n hn (fun ek => by subst ek; rw [e] at ej; cases ej) e
          · rw [if_neg ej])
        rw [an_n hn h e, h0]
        exact Nat.le_refl _
      | some q =>
        have hq := hp k q hn e
        have h9 := ih q hq (by omega)
        rw [an_s hp hn h e]
        refine Nat.le_trans ?_ h9
        have es : sN (fun j => if pr j = some i then anN pr nm j k else 0) nm = sN (fun j => (if pr j = some i then anN pr nm j q else 0) + (if j = k then (if q = i then 1 else 0) else 0)) nm := by
          refine sN_eq nm (fun j hj => ?_)
          by_cases ej : j = k
          · subst ej
            rw [if_pos rfl, an_i, an_gt hp q (by omega) hq, e]
            by_cases eq : q = i
            · subst eq; simp
            · rw [if_neg eq, if_neg (fun z => eq (Option.some.inj z)), if_neg (fun z => eq (Option.some.inj z))]
          · rw [if_neg ej, an_s hp hn (fun z => ej z.symm) e]; rfl
        rw [es, sN_add, sN_one, if_pos hn]
        omega
/-- how many motions stand in the branch of i -/
def brN (pr : Nat → Option Nat) (nm i : Nat) : Nat := sN (fun k => anN pr nm i k) nm
theorem br_le (hp : ∀ k q, k < nm → pr k = some q → q < k) (i : Nat) : brN pr nm i ≤ nm := by
  have h := sN_le nm (fun k hk => an_1 hp (i := i) k hk)
  rw [sN_1] at h
  exact h
theorem br_ch (hp : ∀ k q, k < nm → pr k = some q → q < k) {i : Nat} (hi : i < nm) : 1 + sN (fun j => if pr j = some i then brN pr nm j else 0) nm ≤ brN pr nm i := by
  have h := sN_le nm (fun k hk => an_k hp (i := i) k hk)
  rw [sN_add, sN_one, if_pos hi, sN_swap] at h
  refine Nat.le_trans (Nat.le_of_eq ?_) h
  refine congrArg (1 + ·) (sN_eq nm (fun j hj => ?_))
  unfold brN
  by_cases e : pr j = some i
  · rw [if_pos e]; exact sN_eq nm (fun k _ => by rw [if_pos e])
  · rw [if_neg e]; exact (sN_0 nm (fun k _ => by rw [if_neg e])).symm
end ANC
theorem dg_7 {w : Nat} (h : w < 1048576) : sb_dg w ≤ 7 := by
  unfold sb_dg
  repeat (first | (split; omega) | omega)
  all_goals omega
theorem dg_1 {w : Nat} (h : w ≤ 9) : sb_dg w = 1 := by unfold sb_dg; rw [if_pos (by omega)]
theorem wt_any (x : Int32) : (∃ w, w < 2147483648 ∧ x = nI w) ∨ ∃ w, (0 < w ∧ w ≤ 2147483648) ∧ x = -nI w := by
  have h1 := Int32.le_toInt x
  have h2 := Int32.toInt_lt x
  by_cases h : 0 ≤ x.toInt
  · refine Or.inl ⟨x.toInt.toNat, by omega, ?_⟩
    apply Int32.toInt_inj.mp
    rw [nI_toInt (by omega)]
    omega
  · refine Or.inr ⟨(-x.toInt).toNat, ⟨by omega, by omega⟩, ?_⟩
    apply Int32.toInt_inj.mp
    rw [nz_T (by omega)]
    omega
theorem oi_lim {pr : Nat → Option Nat} {nm k : Nat} (h12 : nm ≤ 12) (hp : ParOk pr nm) (hk : k < nm) : ∀ j, pr k = some j → j < 2 ^ 31 := fun j hj => by
  have := hp k j hk hj
  omega
/-- the branches below i, up to place j -/
theorem br_ac {pr : Nat → Option Nat} {nm i : Nat} (hp : ParOk pr nm) (hi : i < nm) : ∃ ac : Nat → Nat, 1 + ac nm ≤ brN pr nm i ∧ (∀ j, pr j = some i → ac (j + 1) = ac j + brN pr nm j) ∧ (∀ j, pr j ≠ some i → ac (j + 1) = ac j) ∧ (∀ j, j ≤ nm → ac j ≤ ac nm) ∧ (∀ j, j < nm → 1 ≤ brN pr nm j) :=
  ⟨sN (fun j => if pr j = some i then brN pr nm j else 0), br_ch (fun k q h => hp k q h) hi, fun j h => by rw [sN, if_pos h], fun j h => by rw [sN, if_neg h]; rfl, fun j h => sN_mono h, fun j h => by have := br_ch (fun k q h => hp k q h) h; omega⟩
theorem wp_nat {x : Int32} {b : Nat} (hb : b < 2 ^ 31) (h1 : ¬ x < 0) (h2 : x < nI b) : ∃ v, v < b ∧ x = nI v := by
  rcases wt_any x with ⟨w, hw, rfl⟩ | ⟨w, hw, rfl⟩
  · exact ⟨w, (nI_ltI hw hb).mp h2, rfl⟩
  · exact absurd (nz_g hw.1 hw.2) h1
def WpC (dd d : Nat) : Prop := ∀ (l : Launch) (_ : l.stackTraces = false) (D : va_G) (aT : Nat → ClassId) (a5 : Nat) (a6 : Nat) (a7 : Nat) (a8 : Nat) (a9 : Nat) (fI : Nat → Int32) (fN : Nat → Int32) (fW : Nat → Int32) (fP : Nat → Int32) (nm : Nat) (nx : Int32) (idn : Nat → Nat) (pr : Nat → Option Nat) (tn : Nat → Nat) (hO : MoC fI fN fP nm idn pr tn) (o0 : Nat) (ov : Nat) (cn : Nat) (cp : Nat) (fO : Nat → Int32) (mb : Int32) (hfit : sb_Fit fO) (hcn : cn ≤ cp) (hcp : cp ≤ 4000) (i : Nat) (hi : i < nm) (hq : cn + 23 * brN pr nm i ≤ 280), CxG l yX9_writePart cX9_writePart 6 none (10 + d) (8 * brN pr nm i - 1) (1124 * brN pr nm i) (300 + 25 * d) D aT [.ref a5, .int (nI i), .int (nI (dd)), .ref o0] [(a5, .inr (8, [.ref a6, .ref a7, .ref a8, .ref a9, .int (nI nm), .int nx])), (a6, .inl (aT 0, 12, .inl fI)), (a7, .inl (aT 0, 12, .inl fN)), (a8, .inl (aT 0, 12, .inl fW)), (a9, .inl (aT 0, 12, .inl fP)), (o0, .inr (1, [.ref ov, .int (nI 0), .int mb, .int (nI cn)])), (ov, .inl (aT 4, cp, .inl fO))] (qV D aT (fun W1 => ∃ (c2 p2 ov2 : Nat) (f2 : Nat → Int32), (sb_Fit f2 ∧ c2 ≤ p2 ∧ cp ≤ p2 ∧ p2 ≤ max cp 562 ∧ c2 + 1 ≤ cn + 23 * brN pr nm i) ∧ W1 = ([(a5, .inr (8, [.ref a6, .ref a7, .ref a8, .ref a9, .int (nI nm), .int nx])), (a6, .inl (aT 0, 12, .inl fI)), (a7, .inl (aT 0, 12, .inl fN)), (a8, .inl (aT 0, 12, .inl fW)), (a9, .inl (aT 0, 12, .inl fP)), (o0, .inr (1, [.ref ov2, .int (nI 0), .int mb, .int (nI c2)])), (ov2, .inl (aT 4, p2, .inl f2))] : va_W))) (fun _ _ => False)
theorem dX9_writePart_0 : decode cX9_writePart 0 = .ok (.iload_n 2, 1) := by decide +kernel
theorem dX9_writePart_1 : decode cX9_writePart 1 = .ok (.bipush 12, 2) := by decide +kernel
theorem dX9_writePart_3 : decode cX9_writePart 3 = .ok (.if_icmp .lt 4, 3) := by decide +kernel
theorem dX9_writePart_6 : decode cX9_writePart 6 = .ok (.return_, 1) := by decide +kernel
theorem dX9_writePart_7 : decode cX9_writePart 7 = .ok (.aload_n 3, 1) := by decide +kernel
theorem dX9_writePart_8 : decode cX9_writePart 8 = .ok (.aload_n 0, 1) := by decide +kernel
theorem dX9_writePart_9 : decode cX9_writePart 9 = .ok (.getfield 150, 3) := by decide +kernel
theorem dX9_writePart_12 : decode cX9_writePart 12 = .ok (.iload_n 1, 1) := by decide +kernel
theorem dX9_writePart_13 : decode cX9_writePart 13 = .ok (.iaload, 1) := by decide +kernel
theorem dX9_writePart_14 : decode cX9_writePart 14 = .ok (.invokevirtual 359, 3) := by decide +kernel
theorem dX9_writePart_17 : decode cX9_writePart 17 = .ok (.pop, 1) := by decide +kernel
theorem dX9_writePart_18 : decode cX9_writePart 18 = .ok (.aload_n 3, 1) := by decide +kernel
theorem dX9_writePart_19 : decode cX9_writePart 19 = .ok (.bipush 58, 2) := by decide +kernel
theorem dX9_writePart_21 : decode cX9_writePart 21 = .ok (.invokevirtual 363, 3) := by decide +kernel
theorem dX9_writePart_24 : decode cX9_writePart 24 = .ok (.pop, 1) := by decide +kernel
theorem dX9_writePart_25 : decode cX9_writePart 25 = .ok (.aload_n 3, 1) := by decide +kernel
theorem dX9_writePart_26 : decode cX9_writePart 26 = .ok (.aload_n 0, 1) := by decide +kernel
theorem dX9_writePart_27 : decode cX9_writePart 27 = .ok (.getfield 136, 3) := by decide +kernel
theorem dX9_writePart_30 : decode cX9_writePart 30 = .ok (.iload_n 1, 1) := by decide +kernel
theorem dX9_writePart_31 : decode cX9_writePart 31 = .ok (.iaload, 1) := by decide +kernel
theorem dX9_writePart_32 : decode cX9_writePart 32 = .ok (.invokevirtual 359, 3) := by decide +kernel
theorem dX9_writePart_35 : decode cX9_writePart 35 = .ok (.pop, 1) := by decide +kernel
theorem dX9_writePart_36 : decode cX9_writePart 36 = .ok (.aload_n 3, 1) := by decide +kernel
theorem dX9_writePart_37 : decode cX9_writePart 37 = .ok (.bipush 42, 2) := by decide +kernel
theorem dX9_writePart_39 : decode cX9_writePart 39 = .ok (.invokevirtual 363, 3) := by decide +kernel
theorem dX9_writePart_42 : decode cX9_writePart 42 = .ok (.pop, 1) := by decide +kernel
theorem dX9_writePart_43 : decode cX9_writePart 43 = .ok (.aload_n 3, 1) := by decide +kernel
theorem dX9_writePart_44 : decode cX9_writePart 44 = .ok (.aload_n 0, 1) := by decide +kernel
theorem dX9_writePart_45 : decode cX9_writePart 45 = .ok (.getfield 153, 3) := by decide +kernel
theorem dX9_writePart_48 : decode cX9_writePart 48 = .ok (.iload_n 1, 1) := by decide +kernel
theorem dX9_writePart_49 : decode cX9_writePart 49 = .ok (.iaload, 1) := by decide +kernel
theorem dX9_writePart_50 : decode cX9_writePart 50 = .ok (.invokevirtual 359, 3) := by decide +kernel
theorem dX9_writePart_53 : decode cX9_writePart 53 = .ok (.pop, 1) := by decide +kernel
theorem dX9_writePart_54 : decode cX9_writePart 54 = .ok (.bipush 40, 2) := by decide +kernel
theorem dX9_writePart_56 : decode cX9_writePart 56 = .ok (.istore 4, 2) := by decide +kernel
theorem dX9_writePart_58 : decode cX9_writePart 58 = .ok (.iload_n 1, 1) := by decide +kernel
theorem dX9_writePart_59 : decode cX9_writePart 59 = .ok (.iconst 1, 1) := by decide +kernel
theorem dX9_writePart_60 : decode cX9_writePart 60 = .ok (.iadd, 1) := by decide +kernel
theorem dX9_writePart_61 : decode cX9_writePart 61 = .ok (.istore 5, 2) := by decide +kernel
theorem dX9_writePart_63 : decode cX9_writePart 63 = .ok (.iload 5, 2) := by decide +kernel
theorem dX9_writePart_65 : decode cX9_writePart 65 = .ok (.aload_n 0, 1) := by decide +kernel
theorem dX9_writePart_66 : decode cX9_writePart 66 = .ok (.getfield 146, 3) := by decide +kernel
theorem dX9_writePart_69 : decode cX9_writePart 69 = .ok (.if_icmp .ge 41, 3) := by decide +kernel
theorem dX9_writePart_72 : decode cX9_writePart 72 = .ok (.aload_n 0, 1) := by decide +kernel
theorem dX9_writePart_73 : decode cX9_writePart 73 = .ok (.getfield 156, 3) := by decide +kernel
theorem dX9_writePart_76 : decode cX9_writePart 76 = .ok (.iload 5, 2) := by decide +kernel
theorem dX9_writePart_78 : decode cX9_writePart 78 = .ok (.iaload, 1) := by decide +kernel
theorem dX9_writePart_79 : decode cX9_writePart 79 = .ok (.iload_n 1, 1) := by decide +kernel
theorem dX9_writePart_80 : decode cX9_writePart 80 = .ok (.if_icmp .ne 24, 3) := by decide +kernel
theorem dX9_writePart_83 : decode cX9_writePart 83 = .ok (.aload_n 3, 1) := by decide +kernel
theorem dX9_writePart_84 : decode cX9_writePart 84 = .ok (.iload 4, 2) := by decide +kernel
theorem dX9_writePart_86 : decode cX9_writePart 86 = .ok (.invokevirtual 363, 3) := by decide +kernel
theorem dX9_writePart_89 : decode cX9_writePart 89 = .ok (.pop, 1) := by decide +kernel
theorem dX9_writePart_90 : decode cX9_writePart 90 = .ok (.aload_n 0, 1) := by decide +kernel
theorem dX9_writePart_91 : decode cX9_writePart 91 = .ok (.iload 5, 2) := by decide +kernel
theorem dX9_writePart_93 : decode cX9_writePart 93 = .ok (.iload_n 2, 1) := by decide +kernel
theorem dX9_writePart_94 : decode cX9_writePart 94 = .ok (.iconst 1, 1) := by decide +kernel
theorem dX9_writePart_95 : decode cX9_writePart 95 = .ok (.iadd, 1) := by decide +kernel
theorem dX9_writePart_96 : decode cX9_writePart 96 = .ok (.aload_n 3, 1) := by decide +kernel
theorem dX9_writePart_97 : decode cX9_writePart 97 = .ok (.invokestatic 293, 3) := by decide +kernel
theorem dX9_writePart_100 : decode cX9_writePart 100 = .ok (.bipush 44, 2) := by decide +kernel
theorem dX9_writePart_102 : decode cX9_writePart 102 = .ok (.istore 4, 2) := by decide +kernel
theorem dX9_writePart_104 : decode cX9_writePart 104 = .ok (.iinc 5 1, 3) := by decide +kernel
theorem dX9_writePart_107 : decode cX9_writePart 107 = .ok (.goto (-44), 3) := by decide +kernel
theorem dX9_writePart_110 : decode cX9_writePart 110 = .ok (.iload 4, 2) := by decide +kernel
theorem dX9_writePart_112 : decode cX9_writePart 112 = .ok (.bipush 44, 2) := by decide +kernel
theorem dX9_writePart_114 : decode cX9_writePart 114 = .ok (.if_icmp .ne 10, 3) := by decide +kernel
theorem dX9_writePart_117 : decode cX9_writePart 117 = .ok (.aload_n 3, 1) := by decide +kernel
theorem dX9_writePart_118 : decode cX9_writePart 118 = .ok (.bipush 41, 2) := by decide +kernel
theorem dX9_writePart_120 : decode cX9_writePart 120 = .ok (.invokevirtual 363, 3) := by decide +kernel
theorem dX9_writePart_123 : decode cX9_writePart 123 = .ok (.pop, 1) := by decide +kernel
theorem dX9_writePart_124 : decode cX9_writePart 124 = .ok (.return_, 1) := by decide +kernel
theorem gV_X9_J4_append_bf812_359 : GoodIn gw (wsV RX9 359 RJ4 yJ4_append_bf812 (Cond.code yJ4_append_bf812 cJ4_append_bf812 2 (some (.object "java/lang/StringBuilder")) :: gw)) := gdV gw_1564 gw_1443 gw_1444 gw_78 gw_1445
theorem hV_J4_append_bf812 : yJ4_append_bf812.cls = RJ4 ∧ yJ4_append_bf812.cls ≠ "java/lang/invoke/MethodHandle" ∧ yJ4_append_bf812.cls ≠ "java/lang/invoke/VarHandle" ∧ (parseMethodDescriptor yJ4_append_bf812.desc).map (fun d => d.parameters.length) = some 1 := ⟨rfl, by decide +kernel, by decide +kernel, by decide +kernel⟩
theorem gV_X9_J4_append_cf468_363 : GoodIn gw (wsV RX9 363 RJ4 yJ4_append_cf468 (Cond.code yJ4_append_cf468 cJ4_append_cf468 2 (some (.object "java/lang/StringBuilder")) :: gw)) := gdV gw_1565 gw_1566 gw_1567 gw_78 gw_1568
theorem hV_J4_append_cf468 : yJ4_append_cf468.cls = RJ4 ∧ yJ4_append_cf468.cls ≠ "java/lang/invoke/MethodHandle" ∧ yJ4_append_cf468.cls ≠ "java/lang/invoke/VarHandle" ∧ (parseMethodDescriptor yJ4_append_cf468.desc).map (fun d => d.parameters.length) = some 1 := ⟨rfl, by decide +kernel, by decide +kernel, by decide +kernel⟩
theorem gS_X9_X9_writePart_293 : GoodIn gw (va_wsS RX9 293 yX9_writePart (Cond.code yX9_writePart cX9_writePart 6 (none) :: gw)) := gdS2 gw_1561 gw_1562 gw_67 gw_1563
theorem hS_X9_writePart : yX9_writePart.cls ≠ "java/lang/invoke/MethodHandle" ∧ yX9_writePart.cls ≠ "java/lang/invoke/VarHandle" ∧ (parseMethodDescriptor yX9_writePart.desc).map (fun d => d.parameters.length) = some 4 := ⟨by decide +kernel, by decide +kernel, by decide +kernel⟩
set_option maxHeartbeats 2000000 in
set_option maxRecDepth 20000 in
theorem k_wpS (l : Launch) (hfl : l.stackTraces = false) (D : va_G) (aT : Nat → ClassId) (dd : Nat) (dq : Nat) (h2 : dd < 12) (hrec : WpC (dd + 1) dq) (a5 : Nat) (a6 : Nat) (a7 : Nat) (a8 : Nat) (a9 : Nat) (fI : Nat → Int32) (fN : Nat → Int32) (fW : Nat → Int32) (fP : Nat → Int32) (nm : Nat) (nx : Int32) (idn : Nat → Nat) (pr : Nat → Option Nat) (tn : Nat → Nat) (hO : MoC fI fN fP nm idn pr tn) (o0 : Nat) (ov : Nat) (cn : Nat) (cp : Nat) (fO : Nat → Int32) (mb : Int32) (hfit : sb_Fit fO) (hcn : cn ≤ cp) (hcp : cp ≤ 4000) (i : Nat) (hi : i < nm) (hq : cn + 23 * brN pr nm i ≤ 280) : CxG l yX9_writePart cX9_writePart 6 none (10 + (dq + 1)) (8 * brN pr nm i - 1) (1124 * brN pr nm i) (300 + 25 * (dq + 1)) D aT [.ref a5, .int (nI i), .int (nI dd), .ref o0] [(a5, .inr (8, [.ref a6, .ref a7, .ref a8, .ref a9, .int (nI nm), .int nx])), (a6, .inl (aT 0, 12, .inl fI)), (a7, .inl (aT 0, 12, .inl fN)), (a8, .inl (aT 0, 12, .inl fW)), (a9, .inl (aT 0, 12, .inl fP)), (o0, .inr (1, [.ref ov, .int (nI 0), .int mb, .int (nI cn)])), (ov, .inl (aT 4, cp, .inl fO))] (qV D aT (fun W1 => ∃ (c2 p2 ov2 : Nat) (f2 : Nat → Int32), (sb_Fit f2 ∧ c2 ≤ p2 ∧ cp ≤ p2 ∧ p2 ≤ max cp 562 ∧ c2 + 1 ≤ cn + 23 * brN pr nm i) ∧ W1 = ([(a5, .inr (8, [.ref a6, .ref a7, .ref a8, .ref a9, .int (nI nm), .int nx])), (a6, .inl (aT 0, 12, .inl fI)), (a7, .inl (aT 0, 12, .inl fN)), (a8, .inl (aT 0, 12, .inl fW)), (a9, .inl (aT 0, 12, .inl fP)), (o0, .inr (1, [.ref ov2, .int (nI 0), .int mb, .int (nI c2)])), (ov2, .inl (aT 4, p2, .inl f2))] : va_W))) (fun _ _ => False) := by
  have h12 := hO.1
  have hpk := hO.2.2.2.1
  have hid := dg_7 (hO.2.1 i hi).2
  have hid1 := sb_dg_in (idn i)
  have htn := dg_1 (hO.2.2.2.2.2 i hi).2
  obtain ⟨ac, hT, haS, haN, haM, hb1⟩ := br_ac hpk hi
  have hbi := hb1 i hi
  have haI := haM (i + 1) (by omega)
  refine CxG.of RX9 (by decide +kernel) rfl (Nat.le_of_ble_eq_true rfl) ?_
  intro p e s m below meth c A ls C hml hl hA hr hlocks hex hnm hZ hW
  have hl : lv_has ls 6 [(0, .ref a5), (1, .int (nI i)), (2, .int (nI dd)), (3, .ref o0)] := hl
  have hx := C.1
  have hb := C.2.1
  refine lv_iload_n hx hb dX9_writePart_0 rfl (lv_at hl 2 rfl) ?_
  refine lv_bipush (v := nI 12) hx hb dX9_writePart_1 (by decide) ?_
  refine r_ltN hx hb (a := dd) (b := 12) (by omega) (by omega) (tgt := 7) dX9_writePart_3 (by decide) (fun c_3 => ?_) (fun c_3 => ?_)
  · refine lv_aload_n hx hb dX9_writePart_7 rfl (lv_at hl 3 rfl) ?_
    refine lv_aload_n hx hb dX9_writePart_8 rfl (lv_at hl 0 rfl) ?_
    refine cx_getN C hZ hW 0 0 rfl rfl (by decide) inX5 nw_149 rfl rfl dX9_writePart_9 ?_
    refine lv_iload_n hx hb dX9_writePart_12 rfl (lv_at hl 1 rfl) ?_
    refine cx_ald C hW 1 0 (j := i) rfl rfl rfl (by omega) (by decide) dX9_writePart_13 ?_
    refine r_eq (y := (nI (idn i))) ((hO.2.1 i (by first | assumption | omega)).1) ?_
    have hg17 := gcp_f cp (cn + sb_dg (idn i))
    refine cx_callr (Wr := [(a5, .inr (8, [.ref a6, .ref a7, .ref a8, .ref a9, .int (nI nm), .int nx])), (a6, .inl (aT 0, 12, .inl fI)), (a7, .inl (aT 0, 12, .inl fN)), (a8, .inl (aT 0, 12, .inl fW)), (a9, .inl (aT 0, 12, .inl fP))]) (cx_runV C hml hl.1 hZ hW hA (As := [.int (nI (idn i))]) (rest := []) (k_appendI4_0 l hfl D aT o0 ov cn cp fO mb (by assumption) (by omega) (by omega) (idn i) (by have := (hO.2.1 i hi).2; omega) (by omega)) gV_X9_J4_append_bf812_359 hV_J4_append_bf812 rfl ⟨by first | omega | (dsimp only [cxR]; omega), by first | omega | (dsimp only [cxR]; omega)⟩ ⟨by first | omega | (dsimp only [cxR]; omega), by first | omega | (dsimp only [cxR]; omega)⟩ [5, 6] rfl (by decide) 5 1 rfl rfl rfl rfl (Nat.le_of_ble_eq_true rfl) dX9_writePart_14) hW hA [5, 6] [0, 1, 2, 3, 4] rfl rfl (by decide) (by decide) (fun _ _ _ _ _ _ h9 => h9.elim) (fun r_14 W_14 H locs hq hW => ?_)
    obtain ⟨ov_14, f_14, rfl, hf_14, rfl⟩ := hq
    obtain ⟨u17, eu17⟩ : ∃ x, x = gcp cp (cn + sb_dg (idn i)) := ⟨_, rfl⟩
    rw [← eu17] at hW hg17
    refine lv_pop hx hb dX9_writePart_17 rfl ?_
    refine lv_aload_n hx hb dX9_writePart_18 rfl (lv_at hl 3 rfl) ?_
    refine lv_bipush (v := nI 58) hx hb dX9_writePart_19 (by decide) ?_
    have hg24 := gcp_f u17 ((cn + sb_dg (idn i)) + 1)
    refine cx_callr (Wr := [(a5, .inr (8, [.ref a6, .ref a7, .ref a8, .ref a9, .int (nI nm), .int nx])), (a6, .inl (aT 0, 12, .inl fI)), (a7, .inl (aT 0, 12, .inl fN)), (a8, .inl (aT 0, 12, .inl fW)), (a9, .inl (aT 0, 12, .inl fP))]) (cx_runV C hml hl.1 hZ hW hA (As := [.int (nI 58)]) (rest := []) (k_appendC4 l hfl D aT o0 ov_14 (cn + sb_dg (idn i)) u17 f_14 mb (by assumption) (by omega) (by omega) 58 (by first | decide | omega) (by omega)) gV_X9_J4_append_cf468_363 hV_J4_append_cf468 rfl ⟨by first | omega | (dsimp only [cxR]; omega), by first | omega | (dsimp only [cxR]; omega)⟩ ⟨by first | omega | (dsimp only [cxR]; omega), by first | omega | (dsimp only [cxR]; omega)⟩ [5, 6] rfl (by decide) 5 1 rfl rfl rfl rfl (Nat.le_of_ble_eq_true rfl) dX9_writePart_21) hW hA [5, 6] [0, 1, 2, 3, 4] rfl rfl (by decide) (by decide) (fun _ _ _ _ _ _ h9 => h9.elim) (fun r_21 W_21 H locs hq hW => ?_)
    obtain ⟨ov_21, f_21, rfl, hf_21, rfl⟩ := hq
    obtain ⟨u24, eu24⟩ : ∃ x, x = gcp u17 ((cn + sb_dg (idn i)) + 1) := ⟨_, rfl⟩
    rw [← eu24] at hW hg24
    refine lv_pop hx hb dX9_writePart_24 rfl ?_
    refine lv_aload_n hx hb dX9_writePart_25 rfl (lv_at hl 3 rfl) ?_
    refine lv_aload_n hx hb dX9_writePart_26 rfl (lv_at hl 0 rfl) ?_
    refine cx_getN C hZ hW 0 1 rfl rfl (by decide) inX5 nw_152 rfl rfl dX9_writePart_27 ?_
    refine lv_iload_n hx hb dX9_writePart_30 rfl (lv_at hl 1 rfl) ?_
    refine cx_ald C hW 2 0 (j := i) rfl rfl rfl (by omega) (by decide) dX9_writePart_31 ?_
    refine r_eq (y := (nI (tn i))) ((hO.2.2.2.2.2 i (by first | assumption | omega)).1) ?_
    have hg35 := gcp_f u24 (((cn + sb_dg (idn i)) + 1) + sb_dg (tn i))
    refine cx_callr (Wr := [(a5, .inr (8, [.ref a6, .ref a7, .ref a8, .ref a9, .int (nI nm), .int nx])), (a6, .inl (aT 0, 12, .inl fI)), (a7, .inl (aT 0, 12, .inl fN)), (a8, .inl (aT 0, 12, .inl fW)), (a9, .inl (aT 0, 12, .inl fP))]) (cx_runV C hml hl.1 hZ hW hA (As := [.int (nI (tn i))]) (rest := []) (k_appendI4_0 l hfl D aT o0 ov_21 ((cn + sb_dg (idn i)) + 1) u24 f_21 mb (by assumption) (by omega) (by omega) (tn i) (by have := (hO.2.2.2.2.2 i hi).2; omega) (by omega)) gV_X9_J4_append_bf812_359 hV_J4_append_bf812 rfl ⟨by first | omega | (dsimp only [cxR]; omega), by first | omega | (dsimp only [cxR]; omega)⟩ ⟨by first | omega | (dsimp only [cxR]; omega), by first | omega | (dsimp only [cxR]; omega)⟩ [5, 6] rfl (by decide) 5 1 rfl rfl rfl rfl (Nat.le_of_ble_eq_true rfl) dX9_writePart_32) hW hA [5, 6] [0, 1, 2, 3, 4] rfl rfl (by decide) (by decide) (fun _ _ _ _ _ _ h9 => h9.elim) (fun r_32 W_32 H locs hq hW => ?_)
    obtain ⟨ov_32, f_32, rfl, hf_32, rfl⟩ := hq
    obtain ⟨u35, eu35⟩ : ∃ x, x = gcp u24 (((cn + sb_dg (idn i)) + 1) + sb_dg (tn i)) := ⟨_, rfl⟩
    rw [← eu35] at hW hg35
    refine lv_pop hx hb dX9_writePart_35 rfl ?_
    refine lv_aload_n hx hb dX9_writePart_36 rfl (lv_at hl 3 rfl) ?_
    refine lv_bipush (v := nI 42) hx hb dX9_writePart_37 (by decide) ?_
    have hg42 := gcp_f u35 ((((cn + sb_dg (idn i)) + 1) + sb_dg (tn i)) + 1)
    refine cx_callr (Wr := [(a5, .inr (8, [.ref a6, .ref a7, .ref a8, .ref a9, .int (nI nm), .int nx])), (a6, .inl (aT 0, 12, .inl fI)), (a7, .inl (aT 0, 12, .inl fN)), (a8, .inl (aT 0, 12, .inl fW)), (a9, .inl (aT 0, 12, .inl fP))]) (cx_runV C hml hl.1 hZ hW hA (As := [.int (nI 42)]) (rest := []) (k_appendC4 l hfl D aT o0 ov_32 (((cn + sb_dg (idn i)) + 1) + sb_dg (tn i)) u35 f_32 mb (by assumption) (by omega) (by omega) 42 (by first | decide | omega) (by omega)) gV_X9_J4_append_cf468_363 hV_J4_append_cf468 rfl ⟨by first | omega | (dsimp only [cxR]; omega), by first | omega | (dsimp only [cxR]; omega)⟩ ⟨by first | omega | (dsimp only [cxR]; omega), by first | omega | (dsimp only [cxR]; omega)⟩ [5, 6] rfl (by decide) 5 1 rfl rfl rfl rfl (Nat.le_of_ble_eq_true rfl) dX9_writePart_39) hW hA [5, 6] [0, 1, 2, 3, 4] rfl rfl (by decide) (by decide) (fun _ _ _ _ _ _ h9 => h9.elim) (fun r_39 W_39 H locs hq hW => ?_)
    obtain ⟨ov_39, f_39, rfl, hf_39, rfl⟩ := hq
    obtain ⟨u42, eu42⟩ : ∃ x, x = gcp u35 ((((cn + sb_dg (idn i)) + 1) + sb_dg (tn i)) + 1) := ⟨_, rfl⟩
    rw [← eu42] at hW hg42
    refine lv_pop hx hb dX9_writePart_42 rfl ?_
    refine lv_aload_n hx hb dX9_writePart_43 rfl (lv_at hl 3 rfl) ?_
    refine lv_aload_n hx hb dX9_writePart_44 rfl (lv_at hl 0 rfl) ?_
    refine cx_getN C hZ hW 0 2 rfl rfl (by decide) inX5 nw_156 rfl rfl dX9_writePart_45 ?_
    refine lv_iload_n hx hb dX9_writePart_48 rfl (lv_at hl 1 rfl) ?_
    refine cx_ald C hW 3 0 (j := i) rfl rfl rfl (by omega) (by decide) dX9_writePart_49 ?_
    rcases wt_any (fW i) with ⟨w9, hw9, e9⟩ | ⟨w9, hw9, e9⟩
    · refine r_eq (y := (nI w9)) e9 ?_
      have hd9 := sb_dg_in w9
      have hg53 := gcp_f u42 (((((cn + sb_dg (idn i)) + 1) + sb_dg (tn i)) + 1) + sb_dg w9)
      refine cx_callr (Wr := [(a5, .inr (8, [.ref a6, .ref a7, .ref a8, .ref a9, .int (nI nm), .int nx])), (a6, .inl (aT 0, 12, .inl fI)), (a7, .inl (aT 0, 12, .inl fN)), (a8, .inl (aT 0, 12, .inl fW)), (a9, .inl (aT 0, 12, .inl fP))]) (cx_runV C hml hl.1 hZ hW hA (As := [.int (nI w9)]) (rest := []) (k_appendI4_0 l hfl D aT o0 ov_39 ((((cn + sb_dg (idn i)) + 1) + sb_dg (tn i)) + 1) u42 f_39 mb (by assumption) (by omega) (by omega) w9 hw9 (by omega)) gV_X9_J4_append_bf812_359 hV_J4_append_bf812 rfl ⟨by first | omega | (dsimp only [cxR]; omega), by first | omega | (dsimp only [cxR]; omega)⟩ ⟨by first | omega | (dsimp only [cxR]; omega), by first | omega | (dsimp only [cxR]; omega)⟩ [5, 6] rfl (by decide) 5 1 rfl rfl rfl rfl (Nat.le_of_ble_eq_true rfl) dX9_writePart_50) hW hA [5, 6] [0, 1, 2, 3, 4] rfl rfl (by decide) (by decide) (fun _ _ _ _ _ _ h9 => h9.elim) (fun r_50 W_50 H locs hq hW => ?_)
      obtain ⟨ov_50, f_50, rfl, hf_50, rfl⟩ := hq
      obtain ⟨u53, eu53⟩ : ∃ x, x = gcp u42 (((((cn + sb_dg (idn i)) + 1) + sb_dg (tn i)) + 1) + sb_dg w9) := ⟨_, rfl⟩
      rw [← eu53] at hW hg53
      refine lv_pop hx hb dX9_writePart_53 rfl ?_
      refine lv_bipush (v := nI 40) hx hb dX9_writePart_54 (by decide) ?_
      refine lv_istore (lv' := [(4, .int (nI 40)), (0, .ref a5), (1, .int (nI i)), (2, .int (nI dd)), (3, .ref o0)]) hx hb dX9_writePart_56 hl (by decide) rfl (fun ls hl => ?_)
      refine lv_iload_n hx hb dX9_writePart_58 rfl (lv_at hl 2 rfl) ?_
      refine lv_iconst (v := nI 1) hx hb dX9_writePart_59 (by decide) ?_
      refine r_iaddN hx hb (a := i) (b := 1) dX9_writePart_60 ?_
      refine lv_istore (lv' := [(5, .int (nI (i + 1))), (4, .int (nI 40)), (0, .ref a5), (1, .int (nI i)), (2, .int (nI dd)), (3, .ref o0)]) hx hb dX9_writePart_61 hl (by decide) rfl (fun ls hl => ?_)
      refine W.widen (k := 5 + 8 * ac (i + 1)) (n := 2 * u53 - 2 * cp + 1124 * ac (i + 1)) (by omega) (by omega) ?_
      refine W_loopC (σ := Nat × Nat × Nat × Nat × (Nat → Int32) × Nat) (fun z_ => nm - z_.1) (fun z_ => 5 + 8 * ac z_.1) (fun z_ => 2 * z_.2.2.1 - 2 * cp + 1124 * ac z_.1) (fun z_ H locs g => ∃ ls, g = F0 m 63 ls [] ∧ lv_has ls 6 [(0, .ref a5), (1, .int (nI i)), (2, .int (nI dd)), (3, .ref o0), (4, .int (nI z_.2.2.2.2.2)), (5, .int (nI z_.1))] ∧ CxB D [(a5, .inr (8, [.ref a6, .ref a7, .ref a8, .ref a9, .int (nI nm), .int nx])), (a6, .inl (aT 0, 12, .inl fI)), (a7, .inl (aT 0, 12, .inl fN)), (a8, .inl (aT 0, 12, .inl fW)), (a9, .inl (aT 0, 12, .inl fP)), (o0, .inr (1, [.ref z_.2.2.2.1, .int (nI 0), .int mb, .int (nI z_.2.1)])), (z_.2.2.2.1, .inl (aT 4, z_.2.2.1, .inl z_.2.2.2.2.1))] A s.heap H locs ∧ ((i < z_.1 ∧ z_.1 ≤ nm) ∧ (z_.2.2.2.2.2 = 40 ∨ z_.2.2.2.2.2 = 44) ∧ sb_Fit z_.2.2.2.2.1 ∧ z_.2.1 ≤ z_.2.2.1 ∧ cp ≤ z_.2.2.1 ∧ z_.2.2.1 ≤ max cp 562 ∧ z_.2.1 + 2 ≤ cn + 23 + 23 * ac z_.1)) ?_ ((i + 1), ((((cn + sb_dg (idn i)) + 1) + sb_dg (tn i)) + 1) + sb_dg w9, u53, ov_50, f_50, 40) _ ⟨_, rfl, lv_sub hl [2, 3, 4, 5, 1, 0] rfl, hW, ⟨by dsimp only; omega, Or.inl rfl, (by assumption), (by dsimp only; omega), (by dsimp only; omega), (by dsimp only; omega), (by dsimp only; omega)⟩⟩
      clear hW hl
      rintro ⟨j, cz, pz, oz, fz, sz⟩ H locs g ⟨ls, rfl, hl, hW, ⟨⟨hij, hjn⟩, hsp, hfz, hcz, hpz, hpq, hcl⟩⟩ ih_63
      dsimp only at hl hW hij hjn hsp hfz hcz hpz hpq hcl ⊢
      refine lv_iload hx hb dX9_writePart_63 (lv_at hl 5 rfl) ?_
      refine lv_aload_n hx hb dX9_writePart_65 rfl (lv_at hl 0 rfl) ?_
      refine cx_getN C hZ hW 0 4 rfl rfl (by decide) inX5 nw_164 rfl rfl dX9_writePart_66 ?_
      refine r_geN hx hb (a := j) (b := nm) (by omega) (by omega) (tgt := 110) dX9_writePart_69 (by decide) (fun c_69 => ?_) (fun c_69 => ?_)
      · have haj0 := haM j (by omega)
        have ejn : j = nm := by omega
        refine lv_iload hx hb dX9_writePart_110 (lv_at hl 4 rfl) ?_
        refine lv_bipush (v := nI 44) hx hb dX9_writePart_112 (by decide) ?_
        refine r_neN hx hb (a := sz) (b := 44) (by omega) (by omega) (tgt := 124) dX9_writePart_114 (by decide) (fun c_114 => ?_) (fun c_114 => ?_)
        · exact cx_vret C hr hlocks hW ⟨by first | omega | (dsimp only [cxR]; omega), by first | omega | (dsimp only [cxR]; omega)⟩ (⟨_, _, _, _, ⟨by assumption, by omega, by omega, by omega, by omega⟩, rfl⟩) dX9_writePart_124
        · refine lv_aload_n hx hb dX9_writePart_117 rfl (lv_at hl 3 rfl) ?_
          refine lv_bipush (v := nI 41) hx hb dX9_writePart_118 (by decide) ?_
          have hg123 := gcp_f pz (cz + 1)
          refine cx_callr (Wr := [(a5, .inr (8, [.ref a6, .ref a7, .ref a8, .ref a9, .int (nI nm), .int nx])), (a6, .inl (aT 0, 12, .inl fI)), (a7, .inl (aT 0, 12, .inl fN)), (a8, .inl (aT 0, 12, .inl fW)), (a9, .inl (aT 0, 12, .inl fP))]) (cx_runV C hml hl.1 hZ hW hA (As := [.int (nI 41)]) (rest := []) (k_appendC4 l hfl D aT o0 oz cz pz fz mb (by assumption) (by omega) (by omega) 41 (by first | decide | omega) (by omega)) gV_X9_J4_append_cf468_363 hV_J4_append_cf468 rfl ⟨by first | omega | (dsimp only [cxR]; omega), by first | omega | (dsimp only [cxR]; omega)⟩ ⟨by first | omega | (dsimp only [cxR]; omega), by first | omega | (dsimp only [cxR]; omega)⟩ [5, 6] rfl (by decide) 5 1 rfl rfl rfl rfl (Nat.le_of_ble_eq_true rfl) dX9_writePart_120) hW hA [5, 6] [0, 1, 2, 3, 4] rfl rfl (by decide) (by decide) (fun _ _ _ _ _ _ h9 => h9.elim) (fun r_120 W_120 H locs hq hW => ?_)
          obtain ⟨ov_120, f_120, rfl, hf_120, rfl⟩ := hq
          obtain ⟨u123, eu123⟩ : ∃ x, x = gcp pz (cz + 1) := ⟨_, rfl⟩
          rw [← eu123] at hW hg123
          refine lv_pop hx hb dX9_writePart_123 rfl ?_
          exact cx_vret C hr hlocks hW ⟨by first | omega | (dsimp only [cxR]; omega), by first | omega | (dsimp only [cxR]; omega)⟩ (⟨_, _, _, _, ⟨by assumption, by omega, by omega, by omega, by omega⟩, rfl⟩) dX9_writePart_124
      · have haj0 := haM j (by omega)
        refine lv_aload_n hx hb dX9_writePart_72 rfl (lv_at hl 0 rfl) ?_
        refine cx_getN C hZ hW 0 3 rfl rfl (by decide) inX5 nw_160 rfl rfl dX9_writePart_73 ?_
        refine lv_iload hx hb dX9_writePart_76 (lv_at hl 5 rfl) ?_
        refine cx_ald C hW 4 0 (j := j) rfl rfl rfl (by omega) (by decide) dX9_writePart_78 ?_
        refine r_eq (y := (oi (pr j))) (hO.2.2.1 j (by first | assumption | omega)) ?_
        refine lv_iload_n hx hb dX9_writePart_79 rfl (lv_at hl 1 rfl) ?_
        refine r_on_ne hx hb (o := (pr j)) (q := i) (oi_lim h12 hpk (by omega)) (by omega) (tgt := 104) dX9_writePart_80 (by decide) (fun c_80 => ?_) (fun c_80 => ?_)
        · have haj := haN j c_80
          refine lv_iinc (v := (nI (j + 1))) (lv' := [(5, .int (nI (j + 1))), (0, .ref a5), (1, .int (nI i)), (2, .int (nI dd)), (3, .ref o0), (4, .int (nI sz))]) hx hb dX9_writePart_104 hl (k := 5) rfl (nI_1 _) (by decide) rfl (fun ls hl => ?_)
          refine lv_goto (tgt := 63) hx hb dX9_writePart_107 (by decide) ?_
          refine W.widen (k := 5 + 8 * ac (j + 1)) (n := 2 * pz - 2 * cp + 1124 * ac (j + 1)) (by omega) (by omega) ?_
          exact ih_63 ((j + 1), cz, pz, oz, fz, sz) _ _ _ (by first | omega | (dsimp only; omega)) ⟨_, rfl, lv_sub hl [1, 2, 3, 4, 5, 0] rfl, hW, ⟨by dsimp only; omega, hsp, (by assumption), (by dsimp only; omega), (by dsimp only; omega), (by dsimp only; omega), (by dsimp only; omega)⟩⟩
        · have haj := haS j c_80
          have haj2 := haM (j + 1) (by omega)
          have hbj := hb1 j (by omega)
          refine lv_aload_n hx hb dX9_writePart_83 rfl (lv_at hl 3 rfl) ?_
          refine lv_iload hx hb dX9_writePart_84 (lv_at hl 4 rfl) ?_
          have hg89 := gcp_f pz (cz + 1)
          refine cx_callr (Wr := [(a5, .inr (8, [.ref a6, .ref a7, .ref a8, .ref a9, .int (nI nm), .int nx])), (a6, .inl (aT 0, 12, .inl fI)), (a7, .inl (aT 0, 12, .inl fN)), (a8, .inl (aT 0, 12, .inl fW)), (a9, .inl (aT 0, 12, .inl fP))]) (cx_runV C hml hl.1 hZ hW hA (As := [.int (nI sz)]) (rest := []) (k_appendC4 l hfl D aT o0 oz cz pz fz mb (by assumption) (by omega) (by omega) sz (by first | decide | omega) (by omega)) gV_X9_J4_append_cf468_363 hV_J4_append_cf468 rfl ⟨by first | omega | (dsimp only [cxR]; omega), by first | omega | (dsimp only [cxR]; omega)⟩ ⟨by first | omega | (dsimp only [cxR]; omega), by first | omega | (dsimp only [cxR]; omega)⟩ [5, 6] rfl (by decide) 5 1 rfl rfl rfl rfl (Nat.le_of_ble_eq_true rfl) dX9_writePart_86) hW hA [5, 6] [0, 1, 2, 3, 4] rfl rfl (by decide) (by decide) (fun _ _ _ _ _ _ h9 => h9.elim) (fun r_86 W_86 H locs hq hW => ?_)
          obtain ⟨ov_86, f_86, rfl, hf_86, rfl⟩ := hq
          obtain ⟨u89, eu89⟩ : ∃ x, x = gcp pz (cz + 1) := ⟨_, rfl⟩
          rw [← eu89] at hW hg89
          refine lv_pop hx hb dX9_writePart_89 rfl ?_
          refine lv_aload_n hx hb dX9_writePart_90 rfl (lv_at hl 0 rfl) ?_
          refine lv_iload hx hb dX9_writePart_91 (lv_at hl 5 rfl) ?_
          refine lv_iload_n hx hb dX9_writePart_93 rfl (lv_at hl 2 rfl) ?_
          refine lv_iconst (v := nI 1) hx hb dX9_writePart_94 (by decide) ?_
          refine r_iaddN hx hb (a := dd) (b := 1) dX9_writePart_95 ?_
          refine lv_aload_n hx hb dX9_writePart_96 rfl (lv_at hl 3 rfl) ?_
          refine cx_callv (Wr := []) (cx_runS C hml hl.1 hZ hW hA (As := [.ref a5, .int (nI j), .int (nI (dd + 1)), .ref o0]) (rest := []) (hrec l hfl D aT a5 a6 a7 a8 a9 fI fN fW fP nm nx idn pr tn hO o0 ov_86 (cz + 1) u89 f_86 mb (by assumption) (by omega) (by omega) j (by omega) (by omega)) gS_X9_X9_writePart_293 hS_X9_writePart rfl ⟨by first | omega | (dsimp only [cxR]; omega), by first | omega | (dsimp only [cxR]; omega)⟩ ⟨by first | omega | (dsimp only [cxR]; omega), by first | omega | (dsimp only [cxR]; omega)⟩ [0, 1, 2, 3, 4, 5, 6] rfl (by decide) rfl (Nat.le_of_ble_eq_true rfl) dX9_writePart_97) hW hA [0, 1, 2, 3, 4, 5, 6] [] rfl rfl (by decide) (by decide) (fun _ _ _ _ _ _ h9 => h9.elim) (fun W_97 H locs hq hW => ?_)
          obtain ⟨c2_97, p2_97, ov_97, f_97, ⟨hf_97, hcn_97, hcp_97, hcq_97, hcl_97⟩, rfl⟩ := hq
          refine lv_bipush (v := nI 44) hx hb dX9_writePart_100 (by decide) ?_
          refine lv_istore (lv' := [(4, .int (nI 44)), (0, .ref a5), (1, .int (nI i)), (2, .int (nI dd)), (3, .ref o0), (5, .int (nI j))]) hx hb dX9_writePart_102 hl (by decide) rfl (fun ls hl => ?_)
          refine lv_iinc (v := (nI (j + 1))) (lv' := [(5, .int (nI (j + 1))), (4, .int (nI 44)), (0, .ref a5), (1, .int (nI i)), (2, .int (nI dd)), (3, .ref o0)]) hx hb dX9_writePart_104 hl (k := 5) rfl (nI_1 _) (by decide) rfl (fun ls hl => ?_)
          refine lv_goto (tgt := 63) hx hb dX9_writePart_107 (by decide) ?_
          refine W.widen (k := 5 + 8 * ac (j + 1)) (n := 2 * p2_97 - 2 * cp + 1124 * ac (j + 1)) (by omega) (by omega) ?_
          exact ih_63 ((j + 1), c2_97, p2_97, ov_97, f_97, 44) _ _ _ (by first | omega | (dsimp only; omega)) ⟨_, rfl, lv_sub hl [2, 3, 4, 5, 1, 0] rfl, hW, ⟨by dsimp only; omega, Or.inr rfl, (by assumption), (by dsimp only; omega), (by dsimp only; omega), (by dsimp only; omega), (by dsimp only; omega)⟩⟩
    · refine r_eq (y := (-nI w9)) e9 ?_
      have hd9 := sb_dg_in w9
      have hg53 := gcp_f u42 (((((cn + sb_dg (idn i)) + 1) + sb_dg (tn i)) + 1) + sb_dg w9 + 1)
      refine cx_callr (Wr := [(a5, .inr (8, [.ref a6, .ref a7, .ref a8, .ref a9, .int (nI nm), .int nx])), (a6, .inl (aT 0, 12, .inl fI)), (a7, .inl (aT 0, 12, .inl fN)), (a8, .inl (aT 0, 12, .inl fW)), (a9, .inl (aT 0, 12, .inl fP))]) (cx_runV C hml hl.1 hZ hW hA (As := [.int (-nI w9)]) (rest := []) (k_appendI4_1 l hfl D aT o0 ov_39 ((((cn + sb_dg (idn i)) + 1) + sb_dg (tn i)) + 1) u42 f_39 mb (by assumption) (by omega) (by omega) w9 hw9 (by omega)) gV_X9_J4_append_bf812_359 hV_J4_append_bf812 rfl ⟨by first | omega | (dsimp only [cxR]; omega), by first | omega | (dsimp only [cxR]; omega)⟩ ⟨by first | omega | (dsimp only [cxR]; omega), by first | omega | (dsimp only [cxR]; omega)⟩ [5, 6] rfl (by decide) 5 1 rfl rfl rfl rfl (Nat.le_of_ble_eq_true rfl) dX9_writePart_50) hW hA [5, 6] [0, 1, 2, 3, 4] rfl rfl (by decide) (by decide) (fun _ _ _ _ _ _ h9 => h9.elim) (fun r_50 W_50 H locs hq hW => ?_)
      obtain ⟨ov_50, f_50, rfl, hf_50, rfl⟩ := hq
      obtain ⟨u53, eu53⟩ : ∃ x, x = gcp u42 (((((cn + sb_dg (idn i)) + 1) + sb_dg (tn i)) + 1) + sb_dg w9 + 1) := ⟨_, rfl⟩
      rw [← eu53] at hW hg53
      refine lv_pop hx hb dX9_writePart_53 rfl ?_
      refine lv_bipush (v := nI 40) hx hb dX9_writePart_54 (by decide) ?_
      refine lv_istore (lv' := [(4, .int (nI 40)), (0, .ref a5), (1, .int (nI i)), (2, .int (nI dd)), (3, .ref o0)]) hx hb dX9_writePart_56 hl (by decide) rfl (fun ls hl => ?_)
      refine lv_iload_n hx hb dX9_writePart_58 rfl (lv_at hl 2 rfl) ?_
      refine lv_iconst (v := nI 1) hx hb dX9_writePart_59 (by decide) ?_
      refine r_iaddN hx hb (a := i) (b := 1) dX9_writePart_60 ?_
      refine lv_istore (lv' := [(5, .int (nI (i + 1))), (4, .int (nI 40)), (0, .ref a5), (1, .int (nI i)), (2, .int (nI dd)), (3, .ref o0)]) hx hb dX9_writePart_61 hl (by decide) rfl (fun ls hl => ?_)
      refine W.widen (k := 5 + 8 * ac (i + 1)) (n := 2 * u53 - 2 * cp + 1124 * ac (i + 1)) (by omega) (by omega) ?_
      refine W_loopC (σ := Nat × Nat × Nat × Nat × (Nat → Int32) × Nat) (fun z_ => nm - z_.1) (fun z_ => 5 + 8 * ac z_.1) (fun z_ => 2 * z_.2.2.1 - 2 * cp + 1124 * ac z_.1) (fun z_ H locs g => ∃ ls, g = F0 m 63 ls [] ∧ lv_has ls 6 [(0, .ref a5), (1, .int (nI i)), (2, .int (nI dd)), (3, .ref o0), (4, .int (nI z_.2.2.2.2.2)), (5, .int (nI z_.1))] ∧ CxB D [(a5, .inr (8, [.ref a6, .ref a7, .ref a8, .ref a9, .int (nI nm), .int nx])), (a6, .inl (aT 0, 12, .inl fI)), (a7, .inl (aT 0, 12, .inl fN)), (a8, .inl (aT 0, 12, .inl fW)), (a9, .inl (aT 0, 12, .inl fP)), (o0, .inr (1, [.ref z_.2.2.2.1, .int (nI 0), .int mb, .int (nI z_.2.1)])), (z_.2.2.2.1, .inl (aT 4, z_.2.2.1, .inl z_.2.2.2.2.1))] A s.heap H locs ∧ ((i < z_.1 ∧ z_.1 ≤ nm) ∧ (z_.2.2.2.2.2 = 40 ∨ z_.2.2.2.2.2 = 44) ∧ sb_Fit z_.2.2.2.2.1 ∧ z_.2.1 ≤ z_.2.2.1 ∧ cp ≤ z_.2.2.1 ∧ z_.2.2.1 ≤ max cp 562 ∧ z_.2.1 + 2 ≤ cn + 23 + 23 * ac z_.1)) ?_ ((i + 1), ((((cn + sb_dg (idn i)) + 1) + sb_dg (tn i)) + 1) + sb_dg w9 + 1, u53, ov_50, f_50, 40) _ ⟨_, rfl, lv_sub hl [2, 3, 4, 5, 1, 0] rfl, hW, ⟨by dsimp only; omega, Or.inl rfl, (by assumption), (by dsimp only; omega), (by dsimp only; omega), (by dsimp only; omega), (by dsimp only; omega)⟩⟩
      clear hW hl
      rintro ⟨j, cz, pz, oz, fz, sz⟩ H locs g ⟨ls, rfl, hl, hW, ⟨⟨hij, hjn⟩, hsp, hfz, hcz, hpz, hpq, hcl⟩⟩ ih_63
      dsimp only at hl hW hij hjn hsp hfz hcz hpz hpq hcl ⊢
      refine lv_iload hx hb dX9_writePart_63 (lv_at hl 5 rfl) ?_
      refine lv_aload_n hx hb dX9_writePart_65 rfl (lv_at hl 0 rfl) ?_
      refine cx_getN C hZ hW 0 4 rfl rfl (by decide) inX5 nw_164 rfl rfl dX9_writePart_66 ?_
      refine r_geN hx hb (a := j) (b := nm) (by omega) (by omega) (tgt := 110) dX9_writePart_69 (by decide) (fun c_69 => ?_) (fun c_69 => ?_)
      · have haj0 := haM j (by omega)
        have ejn : j = nm := by omega
        refine lv_iload hx hb dX9_writePart_110 (lv_at hl 4 rfl) ?_
        refine lv_bipush (v := nI 44) hx hb dX9_writePart_112 (by decide) ?_
        refine r_neN hx hb (a := sz) (b := 44) (by omega) (by omega) (tgt := 124) dX9_writePart_114 (by decide) (fun c_114 => ?_) (fun c_114 => ?_)
        · exact cx_vret C hr hlocks hW ⟨by first | omega | (dsimp only [cxR]; omega), by first | omega | (dsimp only [cxR]; omega)⟩ (⟨_, _, _, _, ⟨by assumption, by omega, by omega, by omega, by omega⟩, rfl⟩) dX9_writePart_124
        · refine lv_aload_n hx hb dX9_writePart_117 rfl (lv_at hl 3 rfl) ?_
          refine lv_bipush (v := nI 41) hx hb dX9_writePart_118 (by decide) ?_
          have hg123 := gcp_f pz (cz + 1)
          refine cx_callr (Wr := [(a5, .inr (8, [.ref a6, .ref a7, .ref a8, .ref a9, .int (nI nm), .int nx])), (a6, .inl (aT 0, 12, .inl fI)), (a7, .inl (aT 0, 12, .inl fN)), (a8, .inl (aT 0, 12, .inl fW)), (a9, .inl (aT 0, 12, .inl fP))]) (cx_runV C hml hl.1 hZ hW hA (As := [.int (nI 41)]) (rest := []) (k_appendC4 l hfl D aT o0 oz cz pz fz mb (by assumption) (by omega) (by omega) 41 (by first | decide | omega) (by omega)) gV_X9_J4_append_cf468_363 hV_J4_append_cf468 rfl ⟨by first | omega | (dsimp only [cxR]; omega), by first | omega | (dsimp only [cxR]; omega)⟩ ⟨by first | omega | (dsimp only [cxR]; omega), by first | omega | (dsimp only [cxR]; omega)⟩ [5, 6] rfl (by decide) 5 1 rfl rfl rfl rfl (Nat.le_of_ble_eq_true rfl) dX9_writePart_120) hW hA [5, 6] [0, 1, 2, 3, 4] rfl rfl (by decide) (by decide) (fun _ _ _ _ _ _ h9 => h9.elim) (fun r_120 W_120 H locs hq hW => ?_)
          obtain ⟨ov_120, f_120, rfl, hf_120, rfl⟩ := hq
          obtain ⟨u123, eu123⟩ : ∃ x, x = gcp pz (cz + 1) := ⟨_, rfl⟩
          rw [← eu123] at hW hg123
          refine lv_pop hx hb dX9_writePart_123 rfl ?_
          exact cx_vret C hr hlocks hW ⟨by first | omega | (dsimp only [cxR]; omega), by first | omega | (dsimp only [cxR]; omega)⟩ (⟨_, _, _, _, ⟨by assumption, by omega, by omega, by omega, by omega⟩, rfl⟩) dX9_writePart_124
      · have haj0 := haM j (by omega)
        refine lv_aload_n hx hb dX9_writePart_72 rfl (lv_at hl 0 rfl) ?_
        refine cx_getN C hZ hW 0 3 rfl rfl (by decide) inX5 nw_160 rfl rfl dX9_writePart_73 ?_
        refine lv_iload hx hb dX9_writePart_76 (lv_at hl 5 rfl) ?_
        refine cx_ald C hW 4 0 (j := j) rfl rfl rfl (by omega) (by decide) dX9_writePart_78 ?_
        refine r_eq (y := (oi (pr j))) (hO.2.2.1 j (by first | assumption | omega)) ?_
        refine lv_iload_n hx hb dX9_writePart_79 rfl (lv_at hl 1 rfl) ?_
        refine r_on_ne hx hb (o := (pr j)) (q := i) (oi_lim h12 hpk (by omega)) (by omega) (tgt := 104) dX9_writePart_80 (by decide) (fun c_80 => ?_) (fun c_80 => ?_)
        · have haj := haN j c_80
          refine lv_iinc (v := (nI (j + 1))) (lv' := [(5, .int (nI (j + 1))), (0, .ref a5), (1, .int (nI i)), (2, .int (nI dd)), (3, .ref o0), (4, .int (nI sz))]) hx hb dX9_writePart_104 hl (k := 5) rfl (nI_1 _) (by decide) rfl (fun ls hl => ?_)
          refine lv_goto (tgt := 63) hx hb dX9_writePart_107 (by decide) ?_
          refine W.widen (k := 5 + 8 * ac (j + 1)) (n := 2 * pz - 2 * cp + 1124 * ac (j + 1)) (by omega) (by omega) ?_
          exact ih_63 ((j + 1), cz, pz, oz, fz, sz) _ _ _ (by first | omega | (dsimp only; omega)) ⟨_, rfl, lv_sub hl [1, 2, 3, 4, 5, 0] rfl, hW, ⟨by dsimp only; omega, hsp, (by assumption), (by dsimp only; omega), (by dsimp only; omega), (by dsimp only; omega), (by dsimp only; omega)⟩⟩
        · have haj := haS j c_80
          have haj2 := haM (j + 1) (by omega)
          have hbj := hb1 j (by omega)
          refine lv_aload_n hx hb dX9_writePart_83 rfl (lv_at hl 3 rfl) ?_
          refine lv_iload hx hb dX9_writePart_84 (lv_at hl 4 rfl) ?_
          have hg89 := gcp_f pz (cz + 1)
          refine cx_callr (Wr := [(a5, .inr (8, [.ref a6, .ref a7, .ref a8, .ref a9, .int (nI nm), .int nx])), (a6, .inl (aT 0, 12, .inl fI)), (a7, .inl (aT 0, 12, .inl fN)), (a8, .inl (aT 0, 12, .inl fW)), (a9, .inl (aT 0, 12, .inl fP))]) (cx_runV C hml hl.1 hZ hW hA (As := [.int (nI sz)]) (rest := []) (k_appendC4 l hfl D aT o0 oz cz pz fz mb (by assumption) (by omega) (by omega) sz (by first | decide | omega) (by omega)) gV_X9_J4_append_cf468_363 hV_J4_append_cf468 rfl ⟨by first | omega | (dsimp only [cxR]; omega), by first | omega | (dsimp only [cxR]; omega)⟩ ⟨by first | omega | (dsimp only [cxR]; omega), by first | omega | (dsimp only [cxR]; omega)⟩ [5, 6] rfl (by decide) 5 1 rfl rfl rfl rfl (Nat.le_of_ble_eq_true rfl) dX9_writePart_86) hW hA [5, 6] [0, 1, 2, 3, 4] rfl rfl (by decide) (by decide) (fun _ _ _ _ _ _ h9 => h9.elim) (fun r_86 W_86 H locs hq hW => ?_)
          obtain ⟨ov_86, f_86, rfl, hf_86, rfl⟩ := hq
          obtain ⟨u89, eu89⟩ : ∃ x, x = gcp pz (cz + 1) := ⟨_, rfl⟩
          rw [← eu89] at hW hg89
          refine lv_pop hx hb dX9_writePart_89 rfl ?_
          refine lv_aload_n hx hb dX9_writePart_90 rfl (lv_at hl 0 rfl) ?_
          refine lv_iload hx hb dX9_writePart_91 (lv_at hl 5 rfl) ?_
          refine lv_iload_n hx hb dX9_writePart_93 rfl (lv_at hl 2 rfl) ?_
          refine lv_iconst (v := nI 1) hx hb dX9_writePart_94 (by decide) ?_
          refine r_iaddN hx hb (a := dd) (b := 1) dX9_writePart_95 ?_
          refine lv_aload_n hx hb dX9_writePart_96 rfl (lv_at hl 3 rfl) ?_
          refine cx_callv (Wr := []) (cx_runS C hml hl.1 hZ hW hA (As := [.ref a5, .int (nI j), .int (nI (dd + 1)), .ref o0]) (rest := []) (hrec l hfl D aT a5 a6 a7 a8 a9 fI fN fW fP nm nx idn pr tn hO o0 ov_86 (cz + 1) u89 f_86 mb (by assumption) (by omega) (by omega) j (by omega) (by omega)) gS_X9_X9_writePart_293 hS_X9_writePart rfl ⟨by first | omega | (dsimp only [cxR]; omega), by first | omega | (dsimp only [cxR]; omega)⟩ ⟨by first | omega | (dsimp only [cxR]; omega), by first | omega | (dsimp only [cxR]; omega)⟩ [0, 1, 2, 3, 4, 5, 6] rfl (by decide) rfl (Nat.le_of_ble_eq_true rfl) dX9_writePart_97) hW hA [0, 1, 2, 3, 4, 5, 6] [] rfl rfl (by decide) (by decide) (fun _ _ _ _ _ _ h9 => h9.elim) (fun W_97 H locs hq hW => ?_)
          obtain ⟨c2_97, p2_97, ov_97, f_97, ⟨hf_97, hcn_97, hcp_97, hcq_97, hcl_97⟩, rfl⟩ := hq
          refine lv_bipush (v := nI 44) hx hb dX9_writePart_100 (by decide) ?_
          refine lv_istore (lv' := [(4, .int (nI 44)), (0, .ref a5), (1, .int (nI i)), (2, .int (nI dd)), (3, .ref o0), (5, .int (nI j))]) hx hb dX9_writePart_102 hl (by decide) rfl (fun ls hl => ?_)
          refine lv_iinc (v := (nI (j + 1))) (lv' := [(5, .int (nI (j + 1))), (4, .int (nI 44)), (0, .ref a5), (1, .int (nI i)), (2, .int (nI dd)), (3, .ref o0)]) hx hb dX9_writePart_104 hl (k := 5) rfl (nI_1 _) (by decide) rfl (fun ls hl => ?_)
          refine lv_goto (tgt := 63) hx hb dX9_writePart_107 (by decide) ?_
          refine W.widen (k := 5 + 8 * ac (j + 1)) (n := 2 * p2_97 - 2 * cp + 1124 * ac (j + 1)) (by omega) (by omega) ?_
          exact ih_63 ((j + 1), c2_97, p2_97, ov_97, f_97, 44) _ _ _ (by first | omega | (dsimp only; omega)) ⟨_, rfl, lv_sub hl [2, 3, 4, 5, 1, 0] rfl, hW, ⟨by dsimp only; omega, Or.inr rfl, (by assumption), (by dsimp only; omega), (by dsimp only; omega), (by dsimp only; omega), (by dsimp only; omega)⟩⟩
  · exact absurd c_3 (by omega)
set_option maxHeartbeats 2000000 in
set_option maxRecDepth 20000 in
theorem k_wp0 (l : Launch) (hfl : l.stackTraces = false) (D : va_G) (aT : Nat → ClassId) (a5 : Nat) (a6 : Nat) (a7 : Nat) (a8 : Nat) (a9 : Nat) (fI : Nat → Int32) (fN : Nat → Int32) (fW : Nat → Int32) (fP : Nat → Int32) (nm : Nat) (nx : Int32) (idn : Nat → Nat) (pr : Nat → Option Nat) (tn : Nat → Nat) (hO : MoC fI fN fP nm idn pr tn) (o0 : Nat) (ov : Nat) (cn : Nat) (cp : Nat) (fO : Nat → Int32) (mb : Int32) (hfit : sb_Fit fO) (hcn : cn ≤ cp) (hcp : cp ≤ 4000) (i : Nat) (hi : i < nm) (hq : cn + 23 * brN pr nm i ≤ 280) : CxG l yX9_writePart cX9_writePart 6 none (10 + 0) (8 * brN pr nm i - 1) (1124 * brN pr nm i) (300 + 25 * 0) D aT [.ref a5, .int (nI i), .int (nI 12), .ref o0] [(a5, .inr (8, [.ref a6, .ref a7, .ref a8, .ref a9, .int (nI nm), .int nx])), (a6, .inl (aT 0, 12, .inl fI)), (a7, .inl (aT 0, 12, .inl fN)), (a8, .inl (aT 0, 12, .inl fW)), (a9, .inl (aT 0, 12, .inl fP)), (o0, .inr (1, [.ref ov, .int (nI 0), .int mb, .int (nI cn)])), (ov, .inl (aT 4, cp, .inl fO))] (qV D aT (fun W1 => ∃ (c2 p2 ov2 : Nat) (f2 : Nat → Int32), (sb_Fit f2 ∧ c2 ≤ p2 ∧ cp ≤ p2 ∧ p2 ≤ max cp 562 ∧ c2 + 1 ≤ cn + 23 * brN pr nm i) ∧ W1 = ([(a5, .inr (8, [.ref a6, .ref a7, .ref a8, .ref a9, .int (nI nm), .int nx])), (a6, .inl (aT 0, 12, .inl fI)), (a7, .inl (aT 0, 12, .inl fN)), (a8, .inl (aT 0, 12, .inl fW)), (a9, .inl (aT 0, 12, .inl fP)), (o0, .inr (1, [.ref ov2, .int (nI 0), .int mb, .int (nI c2)])), (ov2, .inl (aT 4, p2, .inl f2))] : va_W))) (fun _ _ => False) := by
  have hbi : 1 ≤ brN pr nm i := by have := br_ch (fun k q h => hO.2.2.2.1 k q h) hi; omega
  refine CxG.of RX9 (by decide +kernel) rfl (Nat.le_of_ble_eq_true rfl) ?_
  intro p e s m below meth c A ls C hml hl hA hr hlocks hex hnm hZ hW
  have hl : lv_has ls 6 [(0, .ref a5), (1, .int (nI i)), (2, .int (nI 12)), (3, .ref o0)] := hl
  have hx := C.1
  have hb := C.2.1
  refine lv_iload_n hx hb dX9_writePart_0 rfl (lv_at hl 2 rfl) ?_
  refine lv_bipush (v := nI 12) hx hb dX9_writePart_1 (by decide) ?_
  refine lv_icmp_lt hx hb (x := (nI 12)) (y := (nI 12)) (tgt := 7) dX9_writePart_3 (by decide) (fun c_3 => ?_) (fun c_3 => ?_)
  · exact absurd c_3 (by decide)
  · exact cx_vret C hr hlocks hW ⟨Nat.le_of_ble_eq_true rfl, Nat.le_of_ble_eq_true rfl⟩ (⟨_, _, _, _, ⟨hfit, hcn, Nat.le_refl _, by omega, by omega⟩, rfl⟩) dX9_writePart_6
theorem k_wp : ∀ d, d ≤ 12 → WpC (12 - d) d := by
  intro d
  induction d with
  | zero => exact fun _ => fun l hfl D aT a5 a6 a7 a8 a9 fI fN fW fP nm nx idn pr tn hO o0 ov cn cp fO mb hfit hcn hcp i hi hq => k_wp0 l hfl D aT a5 a6 a7 a8 a9 fI fN fW fP nm nx idn pr tn hO o0 ov cn cp fO mb hfit hcn hcp i hi hq
  | succ d ih =>
    intro hd
    obtain ⟨dd, e⟩ : ∃ dd, dd = 12 - (d + 1) := ⟨_, rfl⟩
    have e2 : 12 - d = dd + 1 := by omega
    have ih := ih (by omega)
    rw [e2] at ih
    rw [← e]
    exact fun l hfl D aT a5 a6 a7 a8 a9 fI fN fW fP nm nx idn pr tn hO o0 ov cn cp fO mb hfit hcn hcp i hi hq => k_wpS l hfl D aT dd d (by omega) ih a5 a6 a7 a8 a9 fI fN fW fP nm nx idn pr tn hO o0 ov cn cp fO mb hfit hcn hcp i hi hq
theorem k_wpA : WpC 0 12 := k_wp 12 (Nat.le_refl _)

theorem dX9_writeBranch_0 : decode cX9_writeBranch 0 = .ok (.aload_n 0, 1) := by decide +kernel
theorem dX9_writeBranch_1 : decode cX9_writeBranch 1 = .ok (.getfield 10, 3) := by decide +kernel
theorem dX9_writeBranch_4 : decode cX9_writeBranch 4 = .ok (.getfield 127, 3) := by decide +kernel
theorem dX9_writeBranch_7 : decode cX9_writeBranch 7 = .ok (.iload_n 1, 1) := by decide +kernel
theorem dX9_writeBranch_8 : decode cX9_writeBranch 8 = .ok (.invokevirtual 131, 3) := by decide +kernel
theorem dX9_writeBranch_11 : decode cX9_writeBranch 11 = .ok (.istore_n 2, 1) := by decide +kernel
theorem dX9_writeBranch_12 : decode cX9_writeBranch 12 = .ok (.aload_n 0, 1) := by decide +kernel
theorem dX9_writeBranch_13 : decode cX9_writeBranch 13 = .ok (.getfield 43, 3) := by decide +kernel
theorem dX9_writeBranch_16 : decode cX9_writeBranch 16 = .ok (.iconst 0, 1) := by decide +kernel
theorem dX9_writeBranch_17 : decode cX9_writeBranch 17 = .ok (.invokevirtual 290, 3) := by decide +kernel
theorem dX9_writeBranch_20 : decode cX9_writeBranch 20 = .ok (.aload_n 0, 1) := by decide +kernel
theorem dX9_writeBranch_21 : decode cX9_writeBranch 21 = .ok (.getfield 10, 3) := by decide +kernel
theorem dX9_writeBranch_24 : decode cX9_writeBranch 24 = .ok (.getfield 127, 3) := by decide +kernel
theorem dX9_writeBranch_27 : decode cX9_writeBranch 27 = .ok (.iload_n 2, 1) := by decide +kernel
theorem dX9_writeBranch_28 : decode cX9_writeBranch 28 = .ok (.iconst 0, 1) := by decide +kernel
theorem dX9_writeBranch_29 : decode cX9_writeBranch 29 = .ok (.aload_n 0, 1) := by decide +kernel
theorem dX9_writeBranch_30 : decode cX9_writeBranch 30 = .ok (.getfield 43, 3) := by decide +kernel
theorem dX9_writeBranch_33 : decode cX9_writeBranch 33 = .ok (.invokestatic 293, 3) := by decide +kernel
theorem dX9_writeBranch_36 : decode cX9_writeBranch 36 = .ok (.aload_n 0, 1) := by decide +kernel
theorem dX9_writeBranch_37 : decode cX9_writeBranch 37 = .ok (.getfield 43, 3) := by decide +kernel
theorem dX9_writeBranch_40 : decode cX9_writeBranch 40 = .ok (.invokevirtual 297, 3) := by decide +kernel
theorem dX9_writeBranch_43 : decode cX9_writeBranch 43 = .ok (.ireturn, 1) := by decide +kernel
theorem gV_X9_J4_setLength_d00df_290 : GoodIn gw (wsV RX9 290 RJ4 yJ4_setLength_d00df (Cond.code yJ4_setLength_d00df cJ4_setLength_d00df 2 (none) :: gw)) := gdV gw_1341 gw_1342 gw_1343 gw_78 gw_1344
theorem hV_J4_setLength_d00df : yJ4_setLength_d00df.cls = RJ4 ∧ yJ4_setLength_d00df.cls ≠ "java/lang/invoke/MethodHandle" ∧ yJ4_setLength_d00df.cls ≠ "java/lang/invoke/VarHandle" ∧ (parseMethodDescriptor yJ4_setLength_d00df.desc).map (fun d => d.parameters.length) = some 1 := ⟨rfl, by decide +kernel, by decide +kernel, by decide +kernel⟩
theorem gV_X9_J4_length_8abf5_297 : GoodIn gw (wsV RX9 297 RJ4 yJ4_length_8abf5 (Cond.code yJ4_length_8abf5 cJ4_length_8abf5 1 (some .int) :: gw)) := gdV gw_1578 gw_1488 gw_2111 gw_78 gw_1489
theorem hV_J4_length_8abf5 : yJ4_length_8abf5.cls = RJ4 ∧ yJ4_length_8abf5.cls ≠ "java/lang/invoke/MethodHandle" ∧ yJ4_length_8abf5.cls ≠ "java/lang/invoke/VarHandle" ∧ (parseMethodDescriptor yJ4_length_8abf5.desc).map (fun d => d.parameters.length) = some 0 := ⟨rfl, by decide +kernel, by decide +kernel, by decide +kernel⟩
set_option maxHeartbeats 2000000 in
set_option maxRecDepth 20000 in
theorem k_X9_writeBranch (l : Launch) (hfl : l.stackTraces = false) (D : va_G) (aT : Nat → ClassId) (x0 : Nat) (v0 : Nat) (t0 : Nat) (p0 : Nat) (o0 : Nat) (sv : Bool) (le : Int32) (lf : Int32) (h0 : Nat) (a0 : Nat) (a1 : Nat) (a2 : Nat) (a3 : Nat) (a4 : Nat) (a5 : Nat) (a6 : Nat) (a7 : Nat) (a8 : Nat) (a9 : Nat) (a10 : Nat) (bb : Nat → Nat → Int32) (nh : Nat) (nm : Nat) (M : Nat → Int32) (Bd : Nat) (hBd : Bd < 1048000) (hC : CoW M Bd) (hB : BlC bb nh nm M) (ov : Nat) (cn : Nat) (cp : Nat) (fO : Nat → Int32) (mb : Int32) (hfit : sb_Fit fO) (hcn : cn ≤ cp) (hcp : cp ≤ 4000) (x : Int32) : CxG l yX9_writeBranch cX9_writeBranch 3 (some (.int)) 23 106 13508 625 D aT [.ref x0, .int x] [(x0, .inr (12, [.ref a0, .ref v0, .ref h0, .ref t0, .ref p0, .ref o0, .int (bI sv), .int le, .int lf])), (a0, .inr (10, [.ref a1, .ref a5, .ref a10, .int (bb 8 1), .int (bb 8 2), .int (bb 8 3), .int (bb 8 4), .int (bb 8 5), .int (bb 8 6), .int (bb 8 7), .int (bb 8 8)])), (a1, .inr (6, [.ref a2, .ref a3, .ref a4, .int (nI nh)])), (a2, .inl (aT 0, 6, .inl (bb 0))), (a3, .inl (aT 0, 6, .inl (bb 1))), (a4, .inl (aT 0, 6, .inl (bb 2))), (a5, .inr (8, [.ref a6, .ref a7, .ref a8, .ref a9, .int (nI nm), .int (bb 8 0)])), (a6, .inl (aT 0, 12, .inl (bb 3))), (a7, .inl (aT 0, 12, .inl (bb 4))), (a8, .inl (aT 0, 12, .inl (bb 5))), (a9, .inl (aT 0, 12, .inl (bb 6))), (a10, .inl (aT 0, 4, .inl (bb 7))), (o0, .inr (1, [.ref ov, .int (nI 0), .int mb, .int (nI cn)])), (ov, .inl (aT 4, cp, .inl fO))] (qI D aT (fun r W1 => (∃ q, fnd (fun k => M (29 + 4 * k)) x nm = some q) ∧ ∃ (c2 p2 ov2 : Nat) (f2 : Nat → Int32) (m2 : Int32), (r = nI c2 ∧ sb_Fit f2 ∧ c2 ≤ p2 ∧ p2 ≤ 4000) ∧ W1 = ([(x0, .inr (12, [.ref a0, .ref v0, .ref h0, .ref t0, .ref p0, .ref o0, .int (bI sv), .int le, .int lf])), (a0, .inr (10, [.ref a1, .ref a5, .ref a10, .int (bb 8 1), .int (bb 8 2), .int (bb 8 3), .int (bb 8 4), .int (bb 8 5), .int (bb 8 6), .int (bb 8 7), .int (bb 8 8)])), (a1, .inr (6, [.ref a2, .ref a3, .ref a4, .int (nI nh)])), (a2, .inl (aT 0, 6, .inl (bb 0))), (a3, .inl (aT 0, 6, .inl (bb 1))), (a4, .inl (aT 0, 6, .inl (bb 2))), (a5, .inr (8, [.ref a6, .ref a7, .ref a8, .ref a9, .int (nI nm), .int (bb 8 0)])), (a6, .inl (aT 0, 12, .inl (bb 3))), (a7, .inl (aT 0, 12, .inl (bb 4))), (a8, .inl (aT 0, 12, .inl (bb 5))), (a9, .inl (aT 0, 12, .inl (bb 6))), (a10, .inl (aT 0, 4, .inl (bb 7))), (o0, .inr (1, [.ref ov2, .int (nI 0), .int m2, .int (nI c2)])), (ov2, .inl (aT 4, p2, .inl f2))] : va_W))) (fun E W1 => (E = "java/util/NoSuchElementException" ∧ fnd (fun k => M (29 + 4 * k)) x nm = none) ∧ W1 = ([(x0, .inr (12, [.ref a0, .ref v0, .ref h0, .ref t0, .ref p0, .ref o0, .int (bI sv), .int le, .int lf])), (a0, .inr (10, [.ref a1, .ref a5, .ref a10, .int (bb 8 1), .int (bb 8 2), .int (bb 8 3), .int (bb 8 4), .int (bb 8 5), .int (bb 8 6), .int (bb 8 7), .int (bb 8 8)])), (a1, .inr (6, [.ref a2, .ref a3, .ref a4, .int (nI nh)])), (a2, .inl (aT 0, 6, .inl (bb 0))), (a3, .inl (aT 0, 6, .inl (bb 1))), (a4, .inl (aT 0, 6, .inl (bb 2))), (a5, .inr (8, [.ref a6, .ref a7, .ref a8, .ref a9, .int (nI nm), .int (bb 8 0)])), (a6, .inl (aT 0, 12, .inl (bb 3))), (a7, .inl (aT 0, 12, .inl (bb 4))), (a8, .inl (aT 0, 12, .inl (bb 5))), (a9, .inl (aT 0, 12, .inl (bb 6))), (a10, .inl (aT 0, 4, .inl (bb 7))), (o0, .inr (1, [.ref ov, .int (nI 0), .int mb, .int (nI cn)])), (ov, .inl (aT 4, cp, .inl fO))] : va_W)) := by
  have hH := hB.he hC
  have hO := hB.mo hC
  refine CxG.of RX9 (by decide +kernel) rfl (Nat.le_of_ble_eq_true rfl) ?_
  intro p e s m below meth c A ls C hml hl hA hr hlocks hex hnm hZ hW
  have hl : lv_has ls 3 [(0, .ref x0), (1, .int x)] := hl
  have hx := C.1
  have hb := C.2.1
  refine lv_aload_n hx hb dX9_writeBranch_0 rfl (lv_at hl 0 rfl) ?_
  refine cx_get C hW 0 0 rfl rfl (by decide) inX9 gw_346 rfl rfl dX9_writeBranch_1 ?_
  refine cx_getN C hZ hW 1 1 rfl rfl (by decide) inX7 nw_182 rfl rfl dX9_writeBranch_4 ?_
  refine lv_iload_n hx hb dX9_writeBranch_7 rfl (lv_at hl 1 rfl) ?_
  refine cx_calli (Wr := [(x0, .inr (12, [.ref a0, .ref v0, .ref h0, .ref t0, .ref p0, .ref o0, .int (bI sv), .int le, .int lf])), (a0, .inr (10, [.ref a1, .ref a5, .ref a10, .int (bb 8 1), .int (bb 8 2), .int (bb 8 3), .int (bb 8 4), .int (bb 8 5), .int (bb 8 6), .int (bb 8 7), .int (bb 8 8)])), (a1, .inr (6, [.ref a2, .ref a3, .ref a4, .int (nI nh)])), (a2, .inl (aT 0, 6, .inl (bb 0))), (a3, .inl (aT 0, 6, .inl (bb 1))), (a4, .inl (aT 0, 6, .inl (bb 2))), (a10, .inl (aT 0, 4, .inl (bb 7))), (o0, .inr (1, [.ref ov, .int (nI 0), .int mb, .int (nI cn)])), (ov, .inl (aT 4, cp, .inl fO))]) (cx_runV C hml hl.1 hZ hW hA (As := [.int x]) (rest := []) (k_X5_require l hfl D aT a5 a6 a7 a8 a9 (bb 3) (bb 4) (bb 5) (bb 6) nm (bb 8 0) hO.1 x) gV_X9_X5_require_131 hV_X5_require rfl ⟨Nat.le_of_ble_eq_true rfl, Nat.le_of_ble_eq_true rfl⟩ ⟨Nat.le_of_ble_eq_true rfl, Nat.le_of_ble_eq_true rfl⟩ [6, 7, 8, 9, 10] rfl (by decide) 6 8 rfl rfl rfl rfl (Nat.le_of_ble_eq_true rfl) dX9_writeBranch_8) hW hA [6, 7, 8, 9, 10] [0, 1, 2, 3, 4, 5, 11, 12, 13] rfl rfl (by decide) (by decide) (fun E ce q9 W9 H9 locs9 hE hW9 h7 h8 h9 => by
      obtain ⟨hE1, hE2, rfl⟩ := hE
      exact cx_out C hex hlocks (Wd := [(x0, .inr (12, [.ref a0, .ref v0, .ref h0, .ref t0, .ref p0, .ref o0, .int (bI sv), .int le, .int lf])), (a0, .inr (10, [.ref a1, .ref a5, .ref a10, .int (bb 8 1), .int (bb 8 2), .int (bb 8 3), .int (bb 8 4), .int (bb 8 5), .int (bb 8 6), .int (bb 8 7), .int (bb 8 8)])), (a1, .inr (6, [.ref a2, .ref a3, .ref a4, .int (nI nh)])), (a2, .inl (aT 0, 6, .inl (bb 0))), (a3, .inl (aT 0, 6, .inl (bb 1))), (a4, .inl (aT 0, 6, .inl (bb 2))), (a5, .inr (8, [.ref a6, .ref a7, .ref a8, .ref a9, .int (nI nm), .int (bb 8 0)])), (a6, .inl (aT 0, 12, .inl (bb 3))), (a7, .inl (aT 0, 12, .inl (bb 4))), (a8, .inl (aT 0, 12, .inl (bb 5))), (a9, .inl (aT 0, 12, .inl (bb 6))), (a10, .inl (aT 0, 4, .inl (bb 7))), (o0, .inr (1, [.ref ov, .int (nI 0), .int mb, .int (nI cn)])), (ov, .inl (aT 4, cp, .inl fO))]) (cx_drop hW9 [0, 1, 2, 3, 4, 5, 9, 10, 11, 12, 13, 6, 7, 8] rfl (by decide)) h7 h8 h9 ⟨Nat.le_of_ble_eq_true rfl, Nat.le_of_ble_eq_true rfl⟩ (⟨⟨hE1, (by rw [← hB.fnd_eq]; exact hE2)⟩, rfl⟩)) (fun r_8 W_8 H locs hq hW => ?_)
  obtain ⟨⟨q_8, hq_8, hqn_8, rfl⟩, rfl⟩ := hq
  refine lv_istore_n (lv' := [(2, .int (nI q_8)), (0, .ref x0), (1, .int x)]) hx hb dX9_writeBranch_11 rfl hl (by decide) rfl (fun ls hl => ?_)
  refine lv_aload_n hx hb dX9_writeBranch_12 rfl (lv_at hl 1 rfl) ?_
  refine cx_get C hW 0 5 rfl rfl (by decide) inX9 gw_351 rfl rfl dX9_writeBranch_13 ?_
  refine lv_iconst (v := nI 0) hx hb dX9_writeBranch_16 (by decide) ?_
  refine cx_callv (Wr := [(x0, .inr (12, [.ref a0, .ref v0, .ref h0, .ref t0, .ref p0, .ref o0, .int (bI sv), .int le, .int lf])), (a0, .inr (10, [.ref a1, .ref a5, .ref a10, .int (bb 8 1), .int (bb 8 2), .int (bb 8 3), .int (bb 8 4), .int (bb 8 5), .int (bb 8 6), .int (bb 8 7), .int (bb 8 8)])), (a1, .inr (6, [.ref a2, .ref a3, .ref a4, .int (nI nh)])), (a2, .inl (aT 0, 6, .inl (bb 0))), (a3, .inl (aT 0, 6, .inl (bb 1))), (a4, .inl (aT 0, 6, .inl (bb 2))), (a10, .inl (aT 0, 4, .inl (bb 7))), (a5, .inr (8, [.ref a6, .ref a7, .ref a8, .ref a9, .int (nI nm), .int (bb 8 0)])), (a6, .inl (aT 0, 12, .inl (bb 3))), (a7, .inl (aT 0, 12, .inl (bb 4))), (a8, .inl (aT 0, 12, .inl (bb 5))), (a9, .inl (aT 0, 12, .inl (bb 6)))]) (cx_runV C hml hl.1 hZ hW hA (As := [.int (nI 0)]) (rest := []) (k_setLength4 l hfl D aT o0 ov cn cp fO mb hfit hcn hcp) gV_X9_J4_setLength_d00df_290 hV_J4_setLength_d00df rfl ⟨Nat.le_of_ble_eq_true rfl, Nat.le_of_ble_eq_true rfl⟩ ⟨Nat.le_of_ble_eq_true rfl, Nat.le_of_ble_eq_true rfl⟩ [7, 8] rfl (by decide) 7 1 rfl rfl rfl rfl (Nat.le_of_ble_eq_true rfl) dX9_writeBranch_17) hW hA [7, 8] [0, 1, 2, 3, 4, 5, 6, 9, 10, 11, 12, 13] rfl rfl (by decide) (by decide) (fun _ _ _ _ _ _ h9 => h9.elim) (fun W_17 H locs hq hW => ?_)
  obtain ⟨ov_17, f_17, m_17, hf_17, rfl⟩ := hq
  refine lv_aload_n hx hb dX9_writeBranch_20 rfl (lv_at hl 1 rfl) ?_
  refine cx_get C hW 0 0 rfl rfl (by decide) inX9 gw_346 rfl rfl dX9_writeBranch_21 ?_
  refine cx_getN C hZ hW 1 1 rfl rfl (by decide) inX7 nw_182 rfl rfl dX9_writeBranch_24 ?_
  refine lv_iload_n hx hb dX9_writeBranch_27 rfl (lv_at hl 0 rfl) ?_
  refine lv_iconst (v := nI 0) hx hb dX9_writeBranch_28 (by decide) ?_
  refine lv_aload_n hx hb dX9_writeBranch_29 rfl (lv_at hl 1 rfl) ?_
  refine cx_get C hW 0 5 rfl rfl (by decide) inX9 gw_351 rfl rfl dX9_writeBranch_30 ?_
  have hb12 := br_le (fun k q h => hO.2.2.2.1 k q h) q_8
  have h12 := hO.1
  refine cx_callv (Wr := [(x0, .inr (12, [.ref a0, .ref v0, .ref h0, .ref t0, .ref p0, .ref o0, .int (bI sv), .int le, .int lf])), (a0, .inr (10, [.ref a1, .ref a5, .ref a10, .int (bb 8 1), .int (bb 8 2), .int (bb 8 3), .int (bb 8 4), .int (bb 8 5), .int (bb 8 6), .int (bb 8 7), .int (bb 8 8)])), (a1, .inr (6, [.ref a2, .ref a3, .ref a4, .int (nI nh)])), (a2, .inl (aT 0, 6, .inl (bb 0))), (a3, .inl (aT 0, 6, .inl (bb 1))), (a4, .inl (aT 0, 6, .inl (bb 2))), (a10, .inl (aT 0, 4, .inl (bb 7)))]) (cx_runS C hml hl.1 hZ hW hA (As := [.ref a5, .int (nI q_8), .int (nI 0), .ref o0]) (rest := []) (k_wpA l hfl D aT a5 a6 a7 a8 a9 (bb 3) (bb 4) (bb 5) (bb 6) nm (bb 8 0) (idM M) (prM M) (tnM M) hO o0 ov_17 0 cp f_17 m_17 hf_17 (Nat.zero_le _) hcp q_8 hqn_8 (by have h1 := br_le (fun k q h => hO.2.2.2.1 k q h) q_8; have h2 := hO.1; omega)) gS_X9_X9_writePart_293 hS_X9_writePart rfl ⟨Nat.le_of_ble_eq_true rfl, Nat.le_of_ble_eq_true rfl⟩ ⟨by first | omega | (dsimp only [cxR]; omega), by first | omega | (dsimp only [cxR]; omega)⟩ [7, 8, 9, 10, 11, 12, 13] rfl (by decide) rfl (Nat.le_of_ble_eq_true rfl) dX9_writeBranch_33) hW hA [7, 8, 9, 10, 11, 12, 13] [0, 1, 2, 3, 4, 5, 6] rfl rfl (by decide) (by decide) (fun _ _ _ _ _ _ h9 => h9.elim) (fun W_33 H locs hq hW => ?_)
  obtain ⟨c2_33, p2_33, ov_33, f_33, ⟨hf_33, hcn_33, hcp_33, hcq_33, hcl_33⟩, rfl⟩ := hq
  refine lv_aload_n hx hb dX9_writeBranch_36 rfl (lv_at hl 1 rfl) ?_
  refine cx_get C hW 0 5 rfl rfl (by decide) inX9 gw_351 rfl rfl dX9_writeBranch_37 ?_
  refine cx_calli (Wr := [(x0, .inr (12, [.ref a0, .ref v0, .ref h0, .ref t0, .ref p0, .ref o0, .int (bI sv), .int le, .int lf])), (a0, .inr (10, [.ref a1, .ref a5, .ref a10, .int (bb 8 1), .int (bb 8 2), .int (bb 8 3), .int (bb 8 4), .int (bb 8 5), .int (bb 8 6), .int (bb 8 7), .int (bb 8 8)])), (a1, .inr (6, [.ref a2, .ref a3, .ref a4, .int (nI nh)])), (a2, .inl (aT 0, 6, .inl (bb 0))), (a3, .inl (aT 0, 6, .inl (bb 1))), (a4, .inl (aT 0, 6, .inl (bb 2))), (a10, .inl (aT 0, 4, .inl (bb 7))), (a5, .inr (8, [.ref a6, .ref a7, .ref a8, .ref a9, .int (nI nm), .int (bb 8 0)])), (a6, .inl (aT 0, 12, .inl (bb 3))), (a7, .inl (aT 0, 12, .inl (bb 4))), (a8, .inl (aT 0, 12, .inl (bb 5))), (a9, .inl (aT 0, 12, .inl (bb 6)))]) (cx_runV C hml hl.1 hZ hW hA (As := []) (rest := []) (k_J4_length_8abf5 l hfl D aT o0 ov_33 c2_33 p2_33 f_33 m_17 hf_33 hcn_33 (by omega)) gV_X9_J4_length_8abf5_297 hV_J4_length_8abf5 rfl ⟨Nat.le_of_ble_eq_true rfl, Nat.le_of_ble_eq_true rfl⟩ ⟨by first | omega | (dsimp only [cxR]; omega), by first | omega | (dsimp only [cxR]; omega)⟩ [12, 13] rfl (by decide) 12 1 rfl rfl rfl rfl (Nat.le_of_ble_eq_true rfl) dX9_writeBranch_40) hW hA [12, 13] [0, 1, 2, 3, 4, 5, 6, 7, 8, 9, 10, 11] rfl rfl (by decide) (by decide) (fun _ _ _ _ _ _ h9 => h9.elim) (fun r_40 W_40 H locs hq hW => ?_)
  obtain ⟨rfl, rfl⟩ := hq
  have hW : CxB D [(x0, .inr (12, [.ref a0, .ref v0, .ref h0, .ref t0, .ref p0, .ref o0, .int (bI sv), .int le, .int lf])), (a0, .inr (10, [.ref a1, .ref a5, .ref a10, .int (bb 8 1), .int (bb 8 2), .int (bb 8 3), .int (bb 8 4), .int (bb 8 5), .int (bb 8 6), .int (bb 8 7), .int (bb 8 8)])), (a1, .inr (6, [.ref a2, .ref a3, .ref a4, .int (nI nh)])), (a2, .inl (aT 0, 6, .inl (bb 0))), (a3, .inl (aT 0, 6, .inl (bb 1))), (a4, .inl (aT 0, 6, .inl (bb 2))), (a5, .inr (8, [.ref a6, .ref a7, .ref a8, .ref a9, .int (nI nm), .int (bb 8 0)])), (a6, .inl (aT 0, 12, .inl (bb 3))), (a7, .inl (aT 0, 12, .inl (bb 4))), (a8, .inl (aT 0, 12, .inl (bb 5))), (a9, .inl (aT 0, 12, .inl (bb 6))), (a10, .inl (aT 0, 4, .inl (bb 7))), (o0, .inr (1, [.ref ov_33, .int (nI 0), .int m_17, .int (nI c2_33)])), (ov_33, .inl (aT 4, p2_33, .inl f_33))] A s.heap H _ := cx_drop hW [0, 1, 2, 3, 4, 5, 7, 8, 9, 10, 11, 6, 12, 13] rfl (by decide)
  exact cx_iret C hr hlocks rfl hW ⟨by first | omega | (dsimp only [cxR]; omega), by first | omega | (dsimp only [cxR]; omega)⟩ (⟨⟨_, (by rw [← hB.fnd_eq]; exact hq_8)⟩, _, _, _, _, _, ⟨rfl, hf_33, hcn_33, by omega⟩, rfl⟩) dX9_writeBranch_43
theorem dX9_outputAt_0 : decode cX9_outputAt 0 = .ok (.iload_n 1, 1) := by decide +kernel
theorem dX9_outputAt_1 : decode cX9_outputAt 1 = .ok (.ifCond .lt 14, 3) := by decide +kernel
theorem dX9_outputAt_4 : decode cX9_outputAt 4 = .ok (.iload_n 1, 1) := by decide +kernel
theorem dX9_outputAt_5 : decode cX9_outputAt 5 = .ok (.aload_n 0, 1) := by decide +kernel
theorem dX9_outputAt_6 : decode cX9_outputAt 6 = .ok (.getfield 43, 3) := by decide +kernel
theorem dX9_outputAt_9 : decode cX9_outputAt 9 = .ok (.invokevirtual 297, 3) := by decide +kernel
theorem dX9_outputAt_12 : decode cX9_outputAt 12 = .ok (.if_icmp .lt 14, 3) := by decide +kernel
theorem dX9_outputAt_15 : decode cX9_outputAt 15 = .ok (.new 300, 3) := by decide +kernel
theorem dX9_outputAt_18 : decode cX9_outputAt 18 = .ok (.dup, 1) := by decide +kernel
theorem dX9_outputAt_19 : decode cX9_outputAt 19 = .ok (.ldc_w 302, 3) := by decide +kernel
theorem dX9_outputAt_22 : decode cX9_outputAt 22 = .ok (.invokespecial 304, 3) := by decide +kernel
theorem dX9_outputAt_25 : decode cX9_outputAt 25 = .ok (.athrow, 1) := by decide +kernel
theorem dX9_outputAt_26 : decode cX9_outputAt 26 = .ok (.aload_n 0, 1) := by decide +kernel
theorem dX9_outputAt_27 : decode cX9_outputAt 27 = .ok (.getfield 43, 3) := by decide +kernel
theorem dX9_outputAt_30 : decode cX9_outputAt 30 = .ok (.iload_n 1, 1) := by decide +kernel
theorem dX9_outputAt_31 : decode cX9_outputAt 31 = .ok (.invokevirtual 305, 3) := by decide +kernel
theorem dX9_outputAt_34 : decode cX9_outputAt 34 = .ok (.ireturn, 1) := by decide +kernel
theorem gV_X9_J4_charAt_5068e_305 : GoodIn gw (wsV RX9 305 RJ4 yJ4_charAt_5068e (Cond.code yJ4_charAt_5068e cJ4_charAt_5068e 2 (some .char) :: gw)) := gdV gw_1587 gw_1588 gw_1589 gw_78 gw_1590
theorem hV_J4_charAt_5068e : yJ4_charAt_5068e.cls = RJ4 ∧ yJ4_charAt_5068e.cls ≠ "java/lang/invoke/MethodHandle" ∧ yJ4_charAt_5068e.cls ≠ "java/lang/invoke/VarHandle" ∧ (parseMethodDescriptor yJ4_charAt_5068e.desc).map (fun d => d.parameters.length) = some 1 := ⟨rfl, by decide +kernel, by decide +kernel, by decide +kernel⟩
set_option maxHeartbeats 2000000 in
set_option maxRecDepth 20000 in
theorem k_X9_outputAt (l : Launch) (hfl : l.stackTraces = false) (D : va_G) (aT : Nat → ClassId) (x0 : Nat) (v0 : Nat) (t0 : Nat) (p0 : Nat) (o0 : Nat) (sv : Bool) (le : Int32) (lf : Int32) (h0 : Nat) (a0 : Nat) (ov : Nat) (cn : Nat) (cp : Nat) (fO : Nat → Int32) (mb : Int32) (hfit : sb_Fit fO) (hcn : cn ≤ cp) (hcp : cp ≤ 4000) (x : Int32) : CxG l yX9_outputAt cX9_outputAt 2 (some (.char)) 6 1 6 90 D aT [.ref x0, .int x] [(x0, .inr (12, [.ref a0, .ref v0, .ref h0, .ref t0, .ref p0, .ref o0, .int (bI sv), .int le, .int lf])), (o0, .inr (1, [.ref ov, .int (nI 0), .int mb, .int (nI cn)])), (ov, .inl (aT 4, cp, .inl fO))] (qI D aT (fun r W1 => ∃ y : Int32, r = (y.toUInt32 % 65536).toInt32 ∧ W1 = ([(x0, .inr (12, [.ref a0, .ref v0, .ref h0, .ref t0, .ref p0, .ref o0, .int (bI sv), .int le, .int lf])), (o0, .inr (1, [.ref ov, .int (nI 0), .int mb, .int (nI cn)])), (ov, .inl (aT 4, cp, .inl fO))] : va_W))) (fun E W1 => E = "java/lang/IndexOutOfBoundsException" ∧ W1 = ([(x0, .inr (12, [.ref a0, .ref v0, .ref h0, .ref t0, .ref p0, .ref o0, .int (bI sv), .int le, .int lf])), (o0, .inr (1, [.ref ov, .int (nI 0), .int mb, .int (nI cn)])), (ov, .inl (aT 4, cp, .inl fO))] : va_W)) := by
  refine CxG.of RX9 (by decide +kernel) rfl (Nat.le_of_ble_eq_true rfl) ?_
  intro p e s m below meth c A ls C hml hl hA hr hlocks hex hnm hZ hW
  have hl : lv_has ls 2 [(0, .ref x0), (1, .int x)] := hl
  have hx := C.1
  have hb := C.2.1
  refine lv_iload_n hx hb dX9_outputAt_0 rfl (lv_at hl 1 rfl) ?_
  refine lv_if_lt hx hb (x := x) (tgt := 15) dX9_outputAt_1 (by decide) (fun c_1 => ?_) (fun c_1 => ?_)
  · exact cx_throwW C hfl hex hml hl.1 hlocks hZ hW at_X9_IndexOutOfBoundsException (List.mem_of_getElem? (i := 22) rfl) gw_835 gw_90 (by decide +kernel) dX9_outputAt_15 dX9_outputAt_18 dX9_outputAt_19 dX9_outputAt_22 dX9_outputAt_25 ⟨Nat.le_of_ble_eq_true rfl, Nat.le_of_ble_eq_true rfl, Nat.le_of_ble_eq_true rfl, Nat.le_of_ble_eq_true rfl⟩ ⟨Nat.le_of_ble_eq_true rfl, Nat.le_of_ble_eq_true rfl⟩ (⟨rfl, rfl⟩)
  · refine lv_iload_n hx hb dX9_outputAt_4 rfl (lv_at hl 1 rfl) ?_
    refine lv_aload_n hx hb dX9_outputAt_5 rfl (lv_at hl 0 rfl) ?_
    refine cx_get C hW 0 5 rfl rfl (by decide) inX9 gw_351 rfl rfl dX9_outputAt_6 ?_
    refine cx_calli (Wr := [(x0, .inr (12, [.ref a0, .ref v0, .ref h0, .ref t0, .ref p0, .ref o0, .int (bI sv), .int le, .int lf]))]) (cx_runV C hml hl.1 hZ hW hA (As := []) (rest := [.int x]) (k_J4_length_8abf5 l hfl D aT o0 ov cn cp fO mb hfit hcn hcp) gV_X9_J4_length_8abf5_297 hV_J4_length_8abf5 rfl ⟨Nat.le_of_ble_eq_true rfl, Nat.le_of_ble_eq_true rfl⟩ ⟨Nat.le_of_ble_eq_true rfl, Nat.le_of_ble_eq_true rfl⟩ [1, 2] rfl (by decide) 1 1 rfl rfl rfl rfl (Nat.le_of_ble_eq_true rfl) dX9_outputAt_9) hW hA [1, 2] [0] rfl rfl (by decide) (by decide) (fun _ _ _ _ _ _ h9 => h9.elim) (fun r_9 W_9 H locs hq hW => ?_)
    obtain ⟨rfl, rfl⟩ := hq
    refine lv_icmp_lt hx hb (x := x) (y := (nI cn)) (tgt := 26) dX9_outputAt_12 (by decide) (fun c_12 => ?_) (fun c_12 => ?_)
    · obtain ⟨i, hi, rfl⟩ := wp_nat (by omega) c_1 c_12
      have hl : lv_has ls 2 [(0, .ref x0), (1, .int (nI i))] := hl
      refine lv_aload_n hx hb dX9_outputAt_26 rfl (lv_at hl 0 rfl) ?_
      refine cx_get C hW 0 5 rfl rfl (by decide) inX9 gw_351 rfl rfl dX9_outputAt_27 ?_
      refine lv_iload_n hx hb dX9_outputAt_30 rfl (lv_at hl 1 rfl) ?_
      refine cx_calli (Wr := [(x0, .inr (12, [.ref a0, .ref v0, .ref h0, .ref t0, .ref p0, .ref o0, .int (bI sv), .int le, .int lf]))]) (cx_runV C hml hl.1 hZ hW hA (As := [.int (nI i)]) (rest := []) (k_charAt4 l hfl D aT o0 ov cn cp fO mb hfit hcn hcp i hi) gV_X9_J4_charAt_5068e_305 hV_J4_charAt_5068e rfl ⟨Nat.le_of_ble_eq_true rfl, Nat.le_of_ble_eq_true rfl⟩ ⟨Nat.le_of_ble_eq_true rfl, Nat.le_of_ble_eq_true rfl⟩ [1, 2] rfl (by decide) 1 1 rfl rfl rfl rfl (Nat.le_of_ble_eq_true rfl) dX9_outputAt_31) hW hA [1, 2] [0] rfl rfl (by decide) (by decide) (fun _ _ _ _ _ _ h9 => h9.elim) (fun r_31 W_31 H locs hq hW => ?_)
      obtain ⟨x_31, rfl, rfl⟩ := hq
      exact cx_iret C hr hlocks (sb_nc _) hW ⟨Nat.le_of_ble_eq_true rfl, Nat.le_of_ble_eq_true rfl⟩ (⟨_, rfl, rfl⟩) dX9_outputAt_34
    · exact cx_throwW C hfl hex hml hl.1 hlocks hZ hW at_X9_IndexOutOfBoundsException (List.mem_of_getElem? (i := 22) rfl) gw_835 gw_90 (by decide +kernel) dX9_outputAt_15 dX9_outputAt_18 dX9_outputAt_19 dX9_outputAt_22 dX9_outputAt_25 ⟨Nat.le_of_ble_eq_true rfl, Nat.le_of_ble_eq_true rfl, Nat.le_of_ble_eq_true rfl, Nat.le_of_ble_eq_true rfl⟩ ⟨Nat.le_of_ble_eq_true rfl, Nat.le_of_ble_eq_true rfl⟩ (⟨rfl, rfl⟩)
end
section
theorem dX10_meanLeaves_0 : decode cX10_meanLeaves 0 = .ok (.aload_n 0, 1) := by decide +kernel
theorem dX10_meanLeaves_1 : decode cX10_meanLeaves 1 = .ok (.iconst 0, 1) := by decide +kernel
theorem dX10_meanLeaves_2 : decode cX10_meanLeaves 2 = .ok (.putfield 57, 3) := by decide +kernel
theorem dX10_meanLeaves_5 : decode cX10_meanLeaves 5 = .ok (.aload_n 0, 1) := by decide +kernel
theorem dX10_meanLeaves_6 : decode cX10_meanLeaves 6 = .ok (.getfield 9, 3) := by decide +kernel
theorem dX10_meanLeaves_9 : decode cX10_meanLeaves 9 = .ok (.iconst 0, 1) := by decide +kernel
theorem dX10_meanLeaves_10 : decode cX10_meanLeaves 10 = .ok (.iaload, 1) := by decide +kernel
theorem dX10_meanLeaves_11 : decode cX10_meanLeaves 11 = .ok (.ifCond .ne 11, 3) := by decide +kernel
theorem dX10_meanLeaves_14 : decode cX10_meanLeaves 14 = .ok (.aload_n 0, 1) := by decide +kernel
theorem dX10_meanLeaves_15 : decode cX10_meanLeaves 15 = .ok (.iconst 1, 1) := by decide +kernel
theorem dX10_meanLeaves_16 : decode cX10_meanLeaves 16 = .ok (.invokevirtual 101, 3) := by decide +kernel
theorem dX10_meanLeaves_19 : decode cX10_meanLeaves 19 = .ok (.pop, 1) := by decide +kernel
theorem dX10_meanLeaves_20 : decode cX10_meanLeaves 20 = .ok (.dconst 0, 1) := by decide +kernel
theorem dX10_meanLeaves_21 : decode cX10_meanLeaves 21 = .ok (.dreturn, 1) := by decide +kernel
theorem dX10_meanLeaves_22 : decode cX10_meanLeaves 22 = .ok (.aload_n 0, 1) := by decide +kernel
theorem dX10_meanLeaves_23 : decode cX10_meanLeaves 23 = .ok (.invokevirtual 150, 3) := by decide +kernel
theorem dX10_meanLeaves_26 : decode cX10_meanLeaves 26 = .ok (.i2d, 1) := by decide +kernel
theorem dX10_meanLeaves_27 : decode cX10_meanLeaves 27 = .ok (.aload_n 0, 1) := by decide +kernel
theorem dX10_meanLeaves_28 : decode cX10_meanLeaves 28 = .ok (.getfield 9, 3) := by decide +kernel
theorem dX10_meanLeaves_31 : decode cX10_meanLeaves 31 = .ok (.iconst 0, 1) := by decide +kernel
theorem dX10_meanLeaves_32 : decode cX10_meanLeaves 32 = .ok (.iaload, 1) := by decide +kernel
theorem dX10_meanLeaves_33 : decode cX10_meanLeaves 33 = .ok (.i2d, 1) := by decide +kernel
theorem dX10_meanLeaves_34 : decode cX10_meanLeaves 34 = .ok (.ddiv, 1) := by decide +kernel
theorem dX10_meanLeaves_35 : decode cX10_meanLeaves 35 = .ok (.dreturn, 1) := by decide +kernel
set_option maxRecDepth 20000 in
theorem m_meanLeaves (l : Launch) (D : va_G) (aT : Nat → ClassId) (ad : Nat → Nat) (S : MSt) (h : Nat) (lv th ta : Nat → Nat) (hH : HeR (S 0) h lv th ta) : ∀ sz, Met l yX10_meanLeaves (Cond.code yX10_meanLeaves cX10_meanLeaves 1 (some .double) :: gw) (mdR 2 60) (va_Pc [.ref (ad 0)] (mdB1 D aT ad S sz)) (va_Qd (fun r S1 => (h = 0 ∧ S1 = ss (ss S 8 (nI 0)) 8 (nI 1)) ∨ (0 < h ∧ vf_n64 r ∧ r = FP.ddiv (FP.i2d (nI (sml lv h))) (FP.i2d (nI h)) ∧ S1 = ss S 8 (nI 0))) (mdB2 D aT ad S sz) (va_A (mdW aT ad S) sz)) 0 0 (va_A (mdW aT ad S) sz) := by
  have hsm := sml_le (lv := lv) (i := h) (fun k hk => (hH.2.2.1 k hk).2.2)
  have h6 := hH.2.1
  intro sz
  refine Met.ofW (cc := cX10_meanLeaves) (maxL := 1) (ret := some .double) (by decide +kernel) rfl ?_
  intro p e s m args below meth c s₁ B hml hv
  obtain ⟨rfl, hsz, hP, hK, hD0⟩ := hv
  have hts := atoms_spec (ws := Cond.code yX10_meanLeaves cX10_meanLeaves 1 (some .double) :: gw) B.pre
  have hown : s.vm.findClass RX10 = some m.cls := findClass_of_methodNamed B.named
  subst hsz
  have hl := lv_entry [.ref (ad 0)] (n := 1) (Nat.le_of_ble_eq_true rfl)
  rw [lg_entry_eq]
  generalize (lg_sl [.ref (ad 0)] ++ List.replicate (1 - (lg_sl [.ref (ad 0)]).length) Slot.unset).toArray = ls at hl ⊢
  have hl : lv_has ls 1 [(0, .ref (ad 0))] := hl
  have hx := B.exec
  have hb := B.bytes
  have C : MdX p c cX10_meanLeaves s [Value.ref (ad 0)].toArray m D aT := ⟨hx, hb, fun w hw => hts w (List.mem_cons_of_mem _ hw), hown, hK⟩
  have hA : ∀ q, s.heap.size ≤ q → va_A (mdW aT ad S) s.heap.size q := fun q h => Or.inr h
  have hW : MdB D aT ad S (va_A (mdW aT ad S) s.heap.size) s.heap s.heap [] := ⟨hP, hD0.self (sz := s.heap.size), va_S.rf⟩
  refine lv_aload_n hx hb dX10_meanLeaves_0 rfl (lv_at hl 0 rfl) ?_
  refine lv_iconst (v := nI 0) hx hb dX10_meanLeaves_1 (by decide) ?_
  refine md_put_thrown C hW dX10_meanLeaves_2 (fun H locs hW => ?_)
  refine lv_aload_n hx hb dX10_meanLeaves_5 rfl (lv_at hl 0 rfl) ?_
  refine md_geta_m C hW dX10_meanLeaves_6 ?_
  refine lv_iconst (v := nI 0) hx hb dX10_meanLeaves_9 (by decide) ?_
  refine md_ald_m C hW (i := 0) (by decide) dX10_meanLeaves_10 ?_
  refine r_eq (y := nI h) (by show S 0 0 = nI h; exact hH.1) ?_
  refine r_ifneN hx hb (a := h) (by omega) (tgt := 22) dX10_meanLeaves_11 (by decide) (fun c1 => ?_) (fun c1 => ?_)
  · refine lv_aload_n hx hb dX10_meanLeaves_22 rfl (lv_at hl 0 rfl) ?_
    refine md_callg C hml hl.1 (As := []) (rest := []) (m_leavesAll l D aT ad (ss S 8 (nI 0)) h lv th ta hH) gT_leavesAll hd_leavesAll rfl ⟨Nat.le_of_ble_eq_true rfl, Nat.le_of_ble_eq_true rfl⟩ ⟨Nat.le_refl _, Nat.le_refl _⟩ hW hA rfl (Nat.le_of_ble_eq_true rfl) dX10_meanLeaves_23 (fun r_23 H locs hq hW => ?_)
    subst hq
    refine lv_i2d (x := nI (sml lv h)) hx hb dX10_meanLeaves_26 ?_
    refine lv_aload_n hx hb dX10_meanLeaves_27 rfl (lv_at hl 0 rfl) ?_
    refine md_geta_m C hW dX10_meanLeaves_28 ?_
    refine lv_iconst (v := nI 0) hx hb dX10_meanLeaves_31 (by decide) ?_
    refine md_ald_m C hW (i := 0) (by decide) dX10_meanLeaves_32 ?_
    refine r_eq (y := nI h) (by show S 0 0 = nI h; exact hH.1) ?_
    refine lv_i2d (x := nI h) hx hb dX10_meanLeaves_33 ?_
    refine lv_ddiv hx hb dX10_meanLeaves_34 (ddiv_nn (by omega) (by omega) (by omega)) ?_
    exact W.dret hx hb B.returns (fun t ht hW' => ⟨⟨_, _, rfl, Or.inr ⟨by omega, ddiv_nn (by omega) (by omega) (by omega), rfl, rfl⟩, by rw [ht]; exact hW.1, va_K.moved hW'.alike hK, hW.2.1⟩, hW.2.2.F ht⟩) hW.2.2.2.2 dX10_meanLeaves_35 B.notSynchronized
  · refine lv_aload_n hx hb dX10_meanLeaves_14 rfl (lv_at hl 0 rfl) ?_
    refine lv_iconst (v := nI 1) hx hb dX10_meanLeaves_15 (by decide) ?_
    refine md_calli C hml hl.1 (As := [.int (nI 1)]) (rest := []) (m_throwing l D aT ad (ss S 8 (nI 0)) 1) gT_throwing hd_throwing rfl ⟨Nat.le_of_ble_eq_true rfl, Nat.le_of_ble_eq_true rfl⟩ ⟨Nat.le_refl _, Nat.le_refl _⟩ hW hA rfl (Nat.le_of_ble_eq_true rfl) dX10_meanLeaves_16 (fun r S1 H locs hq hW => ?_)
    obtain ⟨rfl, rfl⟩ := hq
    refine lv_pop hx hb dX10_meanLeaves_19 rfl ?_
    refine lv_dconst0 hx hb dX10_meanLeaves_20 ?_
    exact W.dret hx hb B.returns (fun t ht hW' => ⟨⟨_, _, rfl, Or.inl ⟨by omega, rfl⟩, by rw [ht]; exact hW.1, va_K.moved hW'.alike hK, hW.2.1⟩, hW.2.2.F ht⟩) hW.2.2.2.2 dX10_meanLeaves_21 B.notSynchronized
theorem dX10_carriedShare_0 : decode cX10_carriedShare 0 = .ok (.aload_n 0, 1) := by decide +kernel
theorem dX10_carriedShare_1 : decode cX10_carriedShare 1 = .ok (.iconst 0, 1) := by decide +kernel
theorem dX10_carriedShare_2 : decode cX10_carriedShare 2 = .ok (.putfield 57, 3) := by decide +kernel
theorem dX10_carriedShare_5 : decode cX10_carriedShare 5 = .ok (.aload_n 0, 1) := by decide +kernel
theorem dX10_carriedShare_6 : decode cX10_carriedShare 6 = .ok (.getfield 9, 3) := by decide +kernel
theorem dX10_carriedShare_9 : decode cX10_carriedShare 9 = .ok (.bipush 9, 2) := by decide +kernel
theorem dX10_carriedShare_11 : decode cX10_carriedShare 11 = .ok (.iaload, 1) := by decide +kernel
theorem dX10_carriedShare_12 : decode cX10_carriedShare 12 = .ok (.ifCond .ne 11, 3) := by decide +kernel
theorem dX10_carriedShare_15 : decode cX10_carriedShare 15 = .ok (.aload_n 0, 1) := by decide +kernel
theorem dX10_carriedShare_16 : decode cX10_carriedShare 16 = .ok (.iconst 1, 1) := by decide +kernel
theorem dX10_carriedShare_17 : decode cX10_carriedShare 17 = .ok (.invokevirtual 101, 3) := by decide +kernel
theorem dX10_carriedShare_20 : decode cX10_carriedShare 20 = .ok (.pop, 1) := by decide +kernel
theorem dX10_carriedShare_21 : decode cX10_carriedShare 21 = .ok (.fconst 0, 1) := by decide +kernel
theorem dX10_carriedShare_22 : decode cX10_carriedShare 22 = .ok (.freturn, 1) := by decide +kernel
theorem dX10_carriedShare_23 : decode cX10_carriedShare 23 = .ok (.aload_n 0, 1) := by decide +kernel
theorem dX10_carriedShare_24 : decode cX10_carriedShare 24 = .ok (.getfield 9, 3) := by decide +kernel
theorem dX10_carriedShare_27 : decode cX10_carriedShare 27 = .ok (.bipush 10, 2) := by decide +kernel
theorem dX10_carriedShare_29 : decode cX10_carriedShare 29 = .ok (.iaload, 1) := by decide +kernel
theorem dX10_carriedShare_30 : decode cX10_carriedShare 30 = .ok (.i2f, 1) := by decide +kernel
theorem dX10_carriedShare_31 : decode cX10_carriedShare 31 = .ok (.aload_n 0, 1) := by decide +kernel
theorem dX10_carriedShare_32 : decode cX10_carriedShare 32 = .ok (.getfield 9, 3) := by decide +kernel
theorem dX10_carriedShare_35 : decode cX10_carriedShare 35 = .ok (.bipush 9, 2) := by decide +kernel
theorem dX10_carriedShare_37 : decode cX10_carriedShare 37 = .ok (.iaload, 1) := by decide +kernel
theorem dX10_carriedShare_38 : decode cX10_carriedShare 38 = .ok (.i2f, 1) := by decide +kernel
theorem dX10_carriedShare_39 : decode cX10_carriedShare 39 = .ok (.fdiv, 1) := by decide +kernel
theorem dX10_carriedShare_40 : decode cX10_carriedShare 40 = .ok (.freturn, 1) := by decide +kernel
set_option maxRecDepth 20000 in
theorem m_carriedShare (l : Launch) (D : va_G) (aT : Nat → ClassId) (ad : Nat → Nat) (S : MSt)  : ∀ sz, Met l yX10_carriedShare (Cond.code yX10_carriedShare cX10_carriedShare 1 (some .float) :: gw) (mdR 2 60) (va_Pc [.ref (ad 0)] (mdB1 D aT ad S sz)) (va_Qf (fun r S1 => (S 0 9 = nI 0 ∧ S1 = ss (ss S 8 (nI 0)) 8 (nI 1)) ∨ (S 0 9 ≠ nI 0 ∧ vf_n32 r ∧ r = FP.fdiv (FP.i2f (S 0 10)) (FP.i2f (S 0 9)) ∧ S1 = ss S 8 (nI 0))) (mdB2 D aT ad S sz) (va_A (mdW aT ad S) sz)) 0 0 (va_A (mdW aT ad S) sz) := by
  intro sz
  refine Met.ofW (cc := cX10_carriedShare) (maxL := 1) (ret := some .float) (by decide +kernel) rfl ?_
  intro p e s m args below meth c s₁ B hml hv
  obtain ⟨rfl, hsz, hP, hK, hD0⟩ := hv
  have hts := atoms_spec (ws := Cond.code yX10_carriedShare cX10_carriedShare 1 (some .float) :: gw) B.pre
  have hown : s.vm.findClass RX10 = some m.cls := findClass_of_methodNamed B.named
  subst hsz
  have hl := lv_entry [.ref (ad 0)] (n := 1) (Nat.le_of_ble_eq_true rfl)
  rw [lg_entry_eq]
  generalize (lg_sl [.ref (ad 0)] ++ List.replicate (1 - (lg_sl [.ref (ad 0)]).length) Slot.unset).toArray = ls at hl ⊢
  have hl : lv_has ls 1 [(0, .ref (ad 0))] := hl
  have hx := B.exec
  have hb := B.bytes
  have C : MdX p c cX10_carriedShare s [Value.ref (ad 0)].toArray m D aT := ⟨hx, hb, fun w hw => hts w (List.mem_cons_of_mem _ hw), hown, hK⟩
  have hA : ∀ q, s.heap.size ≤ q → va_A (mdW aT ad S) s.heap.size q := fun q h => Or.inr h
  have hW : MdB D aT ad S (va_A (mdW aT ad S) s.heap.size) s.heap s.heap [] := ⟨hP, hD0.self (sz := s.heap.size), va_S.rf⟩
  refine lv_aload_n hx hb dX10_carriedShare_0 rfl (lv_at hl 0 rfl) ?_
  refine lv_iconst (v := nI 0) hx hb dX10_carriedShare_1 (by decide) ?_
  refine md_put_thrown C hW dX10_carriedShare_2 (fun H locs hW => ?_)
  refine lv_aload_n hx hb dX10_carriedShare_5 rfl (lv_at hl 0 rfl) ?_
  refine md_geta_m C hW dX10_carriedShare_6 ?_
  refine lv_bipush (v := nI 9) hx hb dX10_carriedShare_9 (by decide) ?_
  refine md_ald_m C hW (i := 9) (by decide) dX10_carriedShare_11 ?_
  refine r_eq (y := S 0 9) rfl ?_
  refine lv_if_ne hx hb (x := S 0 9) (tgt := 23) dX10_carriedShare_12 (by decide) (fun c1 => ?_) (fun c1 => ?_)
  · refine lv_aload_n hx hb dX10_carriedShare_23 rfl (lv_at hl 0 rfl) ?_
    refine md_geta_m C hW dX10_carriedShare_24 ?_
    refine lv_bipush (v := nI 10) hx hb dX10_carriedShare_27 (by decide) ?_
    refine md_ald_m C hW (i := 10) (by decide) dX10_carriedShare_29 ?_
    refine r_eq (y := S 0 10) rfl ?_
    refine lv_i2f (x := S 0 10) hx hb dX10_carriedShare_30 ?_
    refine lv_aload_n hx hb dX10_carriedShare_31 rfl (lv_at hl 0 rfl) ?_
    refine md_geta_m C hW dX10_carriedShare_32 ?_
    refine lv_bipush (v := nI 9) hx hb dX10_carriedShare_35 (by decide) ?_
    refine md_ald_m C hW (i := 9) (by decide) dX10_carriedShare_37 ?_
    refine r_eq (y := S 0 9) rfl ?_
    refine lv_i2f (x := S 0 9) hx hb dX10_carriedShare_38 ?_
    refine lv_fdiv hx hb dX10_carriedShare_39 (fdiv_nn c1) ?_
    exact W.fret hx hb B.returns (fun t ht hW' => ⟨⟨_, _, rfl, Or.inr ⟨c1, fdiv_nn c1, rfl, rfl⟩, by rw [ht]; exact hW.1, va_K.moved hW'.alike hK, hW.2.1⟩, hW.2.2.F ht⟩) hW.2.2.2.2 dX10_carriedShare_40 B.notSynchronized
  · refine lv_aload_n hx hb dX10_carriedShare_15 rfl (lv_at hl 0 rfl) ?_
    refine lv_iconst (v := nI 1) hx hb dX10_carriedShare_16 (by decide) ?_
    refine md_calli C hml hl.1 (As := [.int (nI 1)]) (rest := []) (m_throwing l D aT ad (ss S 8 (nI 0)) 1) gT_throwing hd_throwing rfl ⟨Nat.le_of_ble_eq_true rfl, Nat.le_of_ble_eq_true rfl⟩ ⟨Nat.le_refl _, Nat.le_refl _⟩ hW hA rfl (Nat.le_of_ble_eq_true rfl) dX10_carriedShare_17 (fun r S1 H locs hq hW => ?_)
    obtain ⟨rfl, rfl⟩ := hq
    refine lv_pop hx hb dX10_carriedShare_20 rfl ?_
    refine lv_fconst0 hx hb dX10_carriedShare_21 ?_
    exact W.fret hx hb B.returns (fun t ht hW' => ⟨⟨_, _, rfl, Or.inl ⟨(by simpa using c1 : S 0 9 = 0).trans (by decide), rfl⟩, by rw [ht]; exact hW.1, va_K.moved hW'.alike hK, hW.2.1⟩, hW.2.2.F ht⟩) hW.2.2.2.2 dX10_carriedShare_22 B.notSynchronized
end
